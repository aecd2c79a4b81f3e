/-! 06: the rows of J that read and write cells -/
theorem jok_as {n : Nat} {M : jdM} {k : Nat} {e : jdE} (h : ∀ k, k < n → jokE n (M k)) (he : jokE n e) : ∀ j, j < n → jokE n (up M k e j) := by
  intro j hj
  by_cases q : j = k
  · rw [q, up_eq]; exact he
  · rw [up_ne q]; exact h j hj
theorem ja_up {f : Nat → Int} {k : Nat} {x : Int} : upd (fun j => Int32.ofInt (f j)) k (Int32.ofInt x) = fun j => Int32.ofInt (up f k x j) := by
  funext j
  simp only [upd, up]
  split <;> rfl
theorem ja_upL {f : Nat → Int} {k : Nat} {x : Int} : vp_updL (fun j => Int64.ofInt (f j)) k (Int64.ofInt x) = fun j => Int64.ofInt (up f k x j) := by
  funext j
  simp only [vp_updL, up]
  split <;> rfl
theorem ji_in {i : Int} {len : Nat} (h : 0 ≤ i ∧ i < len ∧ i < 2147483648) : vp_in (Int32.ofInt i) len := by
  rw [vp_in_iff, ji_to (by omega)]
  omega
theorem ji_cl {i : Int} (h : 0 ≤ i ∧ i < 2147483648) : (Int32.ofInt i).toNatClampNeg = i.toNat := by
  show (Int32.ofInt i).toInt.toNat = _
  rw [ji_to (by omega)]
section JH
variable {κ : jC} {own : String} {cc : ByteArray} {nL : Nat} {ret : Option FieldType} {c sl n pc : Nat} {ls : List (Option Value)} {st : List Value} {M : jdM}
theorem jr_liftM (h : Ok κ own cc nL ret) {pc' : Nat} {st' : List Value} {M' : jdM}
    (hw : (∀ k, k < n → jokE n (M k)) → (∀ v ∈ st, jok n v) → (∀ k, k < n → jokE n (M' k)) ∧ (∀ v ∈ st', jok n v))
    (hs : ∀ {p : Program} {l : Launch} {e : Env} {R : Room} {s : State} {m : MethodId} {args : Array Value} {below : List Frame} {meth : Method} {c0 : Code} {H : Heap} {locs : List Loc} {Q : State → Prop} {A : Nat → Prop} {dC : Nat → ClassId} {dI : Nat → Nat → Nat} {dA : Nat → ClassId} (ad : Nat → Nat) (la : Array Slot), p.tables.exec = Jvm.exec → c0.code = cc → (∀ w ∈ wsL_law, w.before args s = true) → s.vm.findClass own = some m.cls → va_K (dC, dI) vwCl (jtys dA) s → (∀ q, s.heap.size ≤ q → A q) → jSF ad A s s.heap → (∀ k, k < n → jokE n (M k)) → va_P (dC, dI) vwCl (jW dA ad n M) H → va_D A (jW dA ad n M) → va_S A s.heap H locs →
      (∀ (H1 : Heap) (locs1 : List Loc), va_P (dC, dI) vwCl (jW dA ad n M') H1 → va_D A (jW dA ad n M') → va_S A s.heap H1 locs1 → W p l e R s m args below meth c0 H1 locs1 c sl Q (F0 m pc' la (st'.map (jv ad)))) → W p l e R s m args below meth c0 H locs c sl Q (F0 m pc la (st.map (jv ad))))
    (k : J κ nL c sl n pc' ls st' M') : J κ nL c sl n pc ls st M := by
  obtain ⟨p, l, e, R, s, m, args, below, meth, c0, Q, A, dC, dI, dA, n0, ad0⟩ := κ
  obtain ⟨hx, hb, hml, hown, hts, hK, hr, hlk, hA, hSF⟩ := h
  intro ad H locs la h1 h2 h3 h4 h5 h6 hP hD hS hl
  obtain ⟨g1, g2⟩ := hw h4 h6
  exact hs ad la hx hb hts hown hK hA (hSF.ad (fun k hk => h1 k (Or.inr hk))) h4 hP hD hS (fun H1 locs1 hP1 hD1 hS1 => k ad H1 locs1 la h1 h2 h3 g1 h5 g2 hP1 hD1 hS1 hl)
/-- a field is read -/
theorem jr_getf (h : Ok κ own cc nL ret) {k ci N index : Nat} {C : String} {T : u_T} {F : Nat → Value} (j : Nat) (hc : vwCl[ci]? = some (C, T, N)) (hin : ∀ w ∈ u_ws C T N, w ∈ wsL_law) (hlk : Cond.fieldLink own index (T j).1 (T j).2.1 (T j).2.2.1 ∈ wsL_law) (hj : j < N) (hd : decode cc pc = .ok (.getfield index, 3)) (hM : M k = jdO ci F) (hk : k < n) (kk : J κ nL c sl n (pc + 3) ls (F j :: st) M) : J κ nL c sl n pc ls (.ref k :: st) M := by
  have hnf : jd_nf ci = N := jd_nf_ok hc
  refine jr_liftM h (fun a b => ⟨a, jk_cons ?_ (jk_tl b)⟩) (fun {p l e R s m args below meth c0 H locs Q A dC dI dA} ad la hx hb hts hown hK hA hSF hM0 hP hD hS kk => ?_) kk
  · have := a k hk
    rw [hM] at this
    exact this j (by rw [hnf]; exact hj)
  · refine va_get (D := (dC, dI)) (ci := ci) (C := C) (T := T) (N := N) (fs := (List.range (jd_nf ci)).map (fun j => jv ad (F j))) hx hb hts hin hown hK hP k ?_ hc j hj (hts _ hlk) (fun _ h9 => h9) ?_ hd (kk H locs hP hD hS)
    · rw [jW_get hk, hM]; rfl
    · simp [hnf, hj]
/-- an int (or long) field is written -/
theorem jr_putf (h : Ok κ own cc nL ret) {k ci N index : Nat} {C : String} {T : u_T} {F : Nat → Value} {v : Value} (j : Nat) (tys0 : Nat → FieldType) (hty : ∀ k, k < N → parseFieldDescriptor (T k).2.2.1 = some (tys0 k)) (hnm : ∀ a, a < N → ∀ b, b < N → a ≠ b → (T a).2.1 ≠ (T b).2.1) (hc : vwCl[ci]? = some (C, T, N)) (hin : ∀ w ∈ u_ws C T N, w ∈ wsL_law) (hlk : Cond.fieldLink own index (T j).1 (T j).2.1 (T j).2.2.1 ∈ wsL_law) (hj : j < N) (hfin : (T j).2.2.2 = false) (hn : ∀ ad : Nat → Nat, narrow (tys0 j) (jv ad v) = jv ad v) (hfit : ∀ ad : Nat → Nat, fits (tys0 j) (jv ad v) = true) (hd : decode cc pc = .ok (.putfield index, 3)) (hM : M k = jdO ci F) (hk : k < n) (kk : J κ nL c sl n (pc + 3) ls st (up M k (jdO ci (up F j v)))) : J κ nL c sl n pc ls (v :: .ref k :: st) M := by
  have hnf : jd_nf ci = N := jd_nf_ok hc
  refine jr_liftM h (fun a b => ⟨jok_as a ?_, jk_tl (jk_tl b)⟩) (fun {p l e R s m args below meth c0 H locs Q A dC dI dA} ad la hx hb hts hown hK hA hSF hM0 hP hD hS kk => ?_) kk
  · intro i hi
    by_cases q : i = j
    · rw [q, up_eq]; exact jk_hd b
    · rw [up_ne q]
      have := a k hk
      rw [hM] at this
      exact this i hi
  · refine va_put (D := (dC, dI)) (ci := ci) (C := C) (T := T) (N := N) (fs := (List.range (jd_nf ci)).map (fun j => jv ad (F j))) (v := jv ad v) (ty := tys0 j) hx hb hts hin tys0 hty hnm hown hK hP hD hS k ?_ hc j hj (hts _ hlk) (fun _ h9 => h9) hfin (hty j hj) (hn ad) (hfit ad) ?_ hd (fun H1 locs1 hP1 hD1 hS1 => ?_)
    · rw [jW_get hk, hM]; rfl
    · simp [hnf, hj]
    · have e1 : ((ad k, .inr (ci, ((List.range (jd_nf ci)).map (fun j => jv ad (F j))).set j (jv ad v))) : Nat × va_E) = (ad k, je dA ad (jdO ci (up F j v))) := by
        refine congrArg (fun x => ((ad k, .inr (ci, x)) : Nat × va_E)) (List.ext_getElem? fun i => ?_)
        by_cases hi : i < jd_nf ci
        · by_cases q : i = j
          · subst q
            rw [List.getElem?_set_self (by simp [hi])]
            simp [hi, up_eq]
          · rw [List.getElem?_set_ne (Ne.symm q)]
            simp [hi, up_ne q]
        · simp [hi]
      rw [e1, jW_set] at hP1 hD1
      exact kk H1 locs1 hP1 hD1 hS1
/-- a final field is written, in a constructor -/
theorem jr_putF (h : Ok κ own cc nL ret) (hmn : (κ.2.2.2.2.2.2.2.2.1).name = "<init>") {k ci N index : Nat} {C : String} {T : u_T} {F : Nat → Value} {v : Value} (j : Nat) (tys0 : Nat → FieldType) (hty : ∀ k, k < N → parseFieldDescriptor (T k).2.2.1 = some (tys0 k)) (hnm : ∀ a, a < N → ∀ b, b < N → a ≠ b → (T a).2.1 ≠ (T b).2.1) (hc : vwCl[ci]? = some (C, T, N)) (hin : ∀ w ∈ u_ws C T N, w ∈ wsL_law) (hlk : Cond.fieldLink own index (T j).1 (T j).2.1 (T j).2.2.1 ∈ wsL_law) (hj : j < N) (hfin : (T j).2.2.2 = true) (hdecl : (T j).1 = own) (hn : ∀ ad : Nat → Nat, narrow (tys0 j) (jv ad v) = jv ad v) (hfit : ∀ ad : Nat → Nat, fits (tys0 j) (jv ad v) = true) (hd : decode cc pc = .ok (.putfield index, 3)) (hM : M k = jdO ci F) (hk : k < n) (kk : J κ nL c sl n (pc + 3) ls st (up M k (jdO ci (up F j v)))) : J κ nL c sl n pc ls (v :: .ref k :: st) M := by
  have hnf : jd_nf ci = N := jd_nf_ok hc
  obtain ⟨p, l, e, R, s, m, args, below, meth, c0, Q, A, dC, dI, dA, n0, ad0⟩ := κ
  obtain ⟨hx, hb, hml, hown, hts, hK, hr, hlk', hA, hSF⟩ := h
  intro ad H locs la h1 h2 h3 h4 h5 h6 hP hD hS hl
  refine va_putF (D := (dC, dI)) (ci := ci) (C := C) (T := T) (N := N) (fs := (List.range (jd_nf ci)).map (fun j => jv ad (F j))) (v := jv ad v) (ty := tys0 j) hx hb hts hin tys0 hty hnm hown hK hP hD hS k ?_ hc j hj (hts _ hlk) (fun _ h9 => h9) hfin hmn hdecl (hty j hj) (hn ad) (hfit ad) ?_ hd (fun H1 locs1 hP1 hD1 hS1 => ?_)
  · rw [jW_get hk, hM]; rfl
  · simp [hnf, hj]
  · have e1 : ((ad k, .inr (ci, ((List.range (jd_nf ci)).map (fun j => jv ad (F j))).set j (jv ad v))) : Nat × va_E) = (ad k, je dA ad (jdO ci (up F j v))) := by
      refine congrArg (fun x => ((ad k, .inr (ci, x)) : Nat × va_E)) (List.ext_getElem? fun i => ?_)
      by_cases hi : i < jd_nf ci
      · by_cases q : i = j
        · subst q
          rw [List.getElem?_set_self (by simp [hi])]
          simp [hi, up_eq]
        · rw [List.getElem?_set_ne (Ne.symm q)]
          simp [hi, up_ne q]
      · simp [hi]
    rw [e1, jW_set] at hP1 hD1
    refine kk ad H1 locs1 la h1 h2 h3 (jok_as h4 ?_) h5 (jk_tl (jk_tl h6)) hP1 hD1 hS1 hl
    intro i hi
    by_cases q : i = j
    · rw [q, up_eq]; exact jk_hd h6
    · rw [up_ne q]
      have := h4 k hk
      rw [hM] at this
      exact this i hi
/-- arrays -/
theorem jr_iald (h : Ok κ own cc nL ret) {k len : Nat} {f : Nat → Int} {i : Int} (hd : decode cc pc = .ok (.iaload, 1)) (hM : M k = jdA len f) (hk : k < n) (hi : 0 ≤ i ∧ i < len ∧ i < 2147483648) (kk : J κ nL c sl n (pc + 1) ls (jI (f i.toNat) :: st) M) : J κ nL c sl n pc ls (jI i :: .ref k :: st) M := by
  refine jr_liftM h (fun a b => ⟨a, jk_cons jok_i (jk_tl (jk_tl b))⟩) (fun {p l e R s m args below meth c0 H locs Q A dC dI dA} ad la hx hb hts hown hK hA hSF hM0 hP hD hS kk => ?_) kk
  refine va_iald (D := (dC, dI)) (cA := dA 0) (n := len) (f := fun j => Int32.ofInt (f j)) hx hb hK hP k 0 ?_ rfl (ji_in hi) hd ?_
  · rw [jW_get hk, hM]; rfl
  · rw [ji_cl (by omega)]
    exact kk H locs hP hD hS
/-- at a written place -/
theorem jr_ialdc (h : Ok κ own cc nL ret) {k len : Nat} {f : Nat → Int} {i : Int} (j : Nat) (hj : i = (j : Int)) (hd : decode cc pc = .ok (.iaload, 1)) (hM : M k = jdA len f) (hk : k < n) (hi : j < len ∧ j < 2147483648) (kk : J κ nL c sl n (pc + 1) ls (jI (f j) :: st) M) : J κ nL c sl n pc ls (jI i :: .ref k :: st) M := by
  subst hj
  exact jr_iald h hd hM hk (by omega) kk
theorem jr_lald (h : Ok κ own cc nL ret) {k len : Nat} {f : Nat → Int} {i : Int} (hd : decode cc pc = .ok (.laload, 1)) (hM : M k = jdL len f) (hk : k < n) (hi : 0 ≤ i ∧ i < len ∧ i < 2147483648) (kk : J κ nL c sl n (pc + 1) ls (jL (f i.toNat) :: st) M) : J κ nL c sl n pc ls (jI i :: .ref k :: st) M := by
  refine jr_liftM h (fun a b => ⟨a, jk_cons jok_l (jk_tl (jk_tl b))⟩) (fun {p l e R s m args below meth c0 H locs Q A dC dI dA} ad la hx hb hts hown hK hA hSF hM0 hP hD hS kk => ?_) kk
  refine va_lald (D := (dC, dI)) (cA := dA 1) (n := len) (f := fun j => Int64.ofInt (f j)) hx hb hK hP k 1 ?_ rfl (ji_in hi) hd ?_
  · rw [jW_get hk, hM]; rfl
  · rw [ji_cl (by omega)]
    exact kk H locs hP hD hS
theorem jr_bald (h : Ok κ own cc nL ret) {k len : Nat} {f : Nat → Int} {i : Int} (hd : decode cc pc = .ok (.baload, 1)) (hM : M k = jdY len f) (hk : k < n) (hi : 0 ≤ i ∧ i < len ∧ i < 2147483648) (kk : J κ nL c sl n (pc + 1) ls (jI (f i.toNat) :: st) M) : J κ nL c sl n pc ls (jI i :: .ref k :: st) M := by
  refine jr_liftM h (fun a b => ⟨a, jk_cons jok_i (jk_tl (jk_tl b))⟩) (fun {p l e R s m args below meth c0 H locs Q A dC dI dA} ad la hx hb hts hown hK hA hSF hM0 hP hD hS kk => ?_) kk
  refine va_bald (D := (dC, dI)) (cA := dA 2) (n := len) (f := fun j => Int32.ofInt (f j)) hx hb hK hP k 2 ?_ rfl (ji_in hi) hd ?_
  · rw [jW_get hk, hM]; rfl
  · rw [ji_cl (by omega)]
    exact kk H locs hP hD hS
theorem jr_zald (h : Ok κ own cc nL ret) {k len : Nat} {f : Nat → Int} {i : Int} (hd : decode cc pc = .ok (.baload, 1)) (hM : M k = jdZ len f) (hk : k < n) (hi : 0 ≤ i ∧ i < len ∧ i < 2147483648) (kk : J κ nL c sl n (pc + 1) ls (jI (f i.toNat) :: st) M) : J κ nL c sl n pc ls (jI i :: .ref k :: st) M := by
  refine jr_liftM h (fun a b => ⟨a, jk_cons jok_i (jk_tl (jk_tl b))⟩) (fun {p l e R s m args below meth c0 H locs Q A dC dI dA} ad la hx hb hts hown hK hA hSF hM0 hP hD hS kk => ?_) kk
  refine va_zald (D := (dC, dI)) (cA := dA 3) (n := len) (f := fun j => Int32.ofInt (f j)) hx hb hK hP k 3 ?_ rfl (ji_in hi) hd ?_
  · rw [jW_get hk, hM]; rfl
  · rw [ji_cl (by omega)]
    exact kk H locs hP hD hS
theorem jr_aald (h : Ok κ own cc nL ret) {k len y : Nat} {f : Nat → Option Nat} {i : Int} (hd : decode cc pc = .ok (.aaload, 1)) (hM : M k = jdR 4 len f) (hk : k < n) (hi : 0 ≤ i ∧ i < len ∧ i < 2147483648) (hy : f i.toNat = some y) (kk : J κ nL c sl n (pc + 1) ls (.ref y :: st) M) : J κ nL c sl n pc ls (jI i :: .ref k :: st) M := by
  refine jr_liftM h (fun a b => ⟨a, jk_cons (v := .ref y) (Or.inl ?_) (jk_tl (jk_tl b))⟩) (fun {p l e R s m args below meth c0 H locs Q A dC dI dA} ad la hx hb hts hown hK hA hSF hM0 hP hD hS kk => ?_) kk
  · have := a k hk
    rw [hM] at this
    exact this _ _ hy
  · refine va_aldq (D := (dC, dI)) (cA := dA 4) (C := RX3) (n := len) (f := fun j => (f j).map ad) hx hb hK hP k 4 ?_ rfl (ji_in hi) hd ?_
    · rw [jW_get hk, hM]; rfl
    · rw [ji_cl (by omega), hy]
      exact kk H locs hP hD hS
theorem jr_iast (h : Ok κ own cc nL ret) {k len : Nat} {f : Nat → Int} {i x : Int} (hd : decode cc pc = .ok (.iastore, 1)) (hM : M k = jdA len f) (hk : k < n) (hi : 0 ≤ i ∧ i < len ∧ i < 2147483648) (kk : J κ nL c sl n (pc + 1) ls st (up M k (jdA len (up f i.toNat x)))) : J κ nL c sl n pc ls (jI x :: jI i :: .ref k :: st) M := by
  refine jr_liftM h (fun a b => ⟨jok_as (e := jdA len (up f i.toNat x)) a trivial, jk_tl (jk_tl (jk_tl b))⟩) (fun {p l e R s m args below meth c0 H locs Q A dC dI dA} ad la hx hb hts hown hK hA hSF hM0 hP hD hS kk => ?_) kk
  refine va_iast (D := (dC, dI)) (cA := dA 0) (n := len) (f := fun j => Int32.ofInt (f j)) hx hb hK hP hD hS k 0 ?_ rfl (ji_in hi) hd (fun H1 locs1 hP1 hD1 hS1 => ?_)
  · rw [jW_get hk, hM]; rfl
  · rw [ji_cl (by omega), ja_up] at hP1 hD1
    have e1 : ((ad k, .inl (dA 0, len, .inl (fun j => Int32.ofInt (up f i.toNat x j)))) : Nat × va_E) = (ad k, je dA ad (jdA len (up f i.toNat x))) := rfl
    rw [e1, jW_set] at hP1 hD1
    exact kk H1 locs1 hP1 hD1 hS1
theorem jr_last (h : Ok κ own cc nL ret) {k len : Nat} {f : Nat → Int} {i x : Int} (hd : decode cc pc = .ok (.lastore, 1)) (hM : M k = jdL len f) (hk : k < n) (hi : 0 ≤ i ∧ i < len ∧ i < 2147483648) (kk : J κ nL c sl n (pc + 1) ls st (up M k (jdL len (up f i.toNat x)))) : J κ nL c sl n pc ls (jL x :: jI i :: .ref k :: st) M := by
  refine jr_liftM h (fun a b => ⟨jok_as (e := jdL len (up f i.toNat x)) a trivial, jk_tl (jk_tl (jk_tl b))⟩) (fun {p l e R s m args below meth c0 H locs Q A dC dI dA} ad la hx hb hts hown hK hA hSF hM0 hP hD hS kk => ?_) kk
  refine va_last (D := (dC, dI)) (cA := dA 1) (n := len) (f := fun j => Int64.ofInt (f j)) hx hb hK hP hD hS k 1 ?_ rfl (ji_in hi) hd (fun H1 locs1 hP1 hD1 hS1 => ?_)
  · rw [jW_get hk, hM]; rfl
  · rw [ji_cl (by omega), ja_upL] at hP1 hD1
    have e1 : ((ad k, .inl (dA 1, len, .inr (.inl (fun j => Int64.ofInt (up f i.toNat x j))))) : Nat × va_E) = (ad k, je dA ad (jdL len (up f i.toNat x))) := rfl
    rw [e1, jW_set] at hP1 hD1
    exact kk H1 locs1 hP1 hD1 hS1
theorem jr_zast (h : Ok κ own cc nL ret) {k len : Nat} {f : Nat → Int} {i x : Int} (hd : decode cc pc = .ok (.bastore, 1)) (hM : M k = jdZ len f) (hk : k < n) (hi : 0 ≤ i ∧ i < len ∧ i < 2147483648) (hx01 : x = 0 ∨ x = 1) (kk : J κ nL c sl n (pc + 1) ls st (up M k (jdZ len (up f i.toNat x)))) : J κ nL c sl n pc ls (jI x :: jI i :: .ref k :: st) M := by
  refine jr_liftM h (fun a b => ⟨jok_as (e := jdZ len (up f i.toNat x)) a trivial, jk_tl (jk_tl (jk_tl b))⟩) (fun {p l e R s m args below meth c0 H locs Q A dC dI dA} ad la hx hb hts hown hK hA hSF hM0 hP hD hS kk => ?_) kk
  refine va_zast (D := (dC, dI)) (cA := dA 3) (n := len) (f := fun j => Int32.ofInt (f j)) hx hb hK hP hD hS k 3 ?_ rfl (ji_in hi) hd (fun H1 locs1 hP1 hD1 hS1 => ?_)
  · rw [jW_get hk, hM]; rfl
  · have hz : vp_nar .boolean (Int32.ofInt x) = Int32.ofInt x := by
      rcases hx01 with rfl | rfl <;> rfl
    rw [ji_cl (by omega), hz, ja_up] at hP1 hD1
    have e1 : ((ad k, .inl (dA 3, len, .inl (fun j => Int32.ofInt (up f i.toNat x j)))) : Nat × va_E) = (ad k, je dA ad (jdZ len (up f i.toNat x))) := rfl
    rw [e1, jW_set] at hP1 hD1
    exact kk H1 locs1 hP1 hD1 hS1
/-- a byte is stored: x is the byte's own value -/
theorem jr_bast (h : Ok κ own cc nL ret) {k len : Nat} {f : Nat → Int} {i x : Int} {y : Int32} (hd : decode cc pc = .ok (.bastore, 1)) (hM : M k = jdY len f) (hk : k < n) (hi : 0 ≤ i ∧ i < len ∧ i < 2147483648) (hy : y.toInt8.toInt32 = Int32.ofInt x) (kk : J κ nL c sl n (pc + 1) ls st (up M k (jdY len (up f i.toNat x)))) : J κ nL c sl n pc ls (.int y :: jI i :: .ref k :: st) M := by
  refine jr_liftM h (fun a b => ⟨jok_as (e := jdY len (up f i.toNat x)) a trivial, jk_tl (jk_tl (jk_tl b))⟩) (fun {p l e R s m args below meth c0 H locs Q A dC dI dA} ad la hx hb hts hown hK hA hSF hM0 hP hD hS kk => ?_) kk
  refine va_bast (D := (dC, dI)) (cA := dA 2) (n := len) (f := fun j => Int32.ofInt (f j)) hx hb hK hP hD hS k 2 ?_ rfl (ji_in hi) hd (fun H1 locs1 hP1 hD1 hS1 => ?_)
  · rw [jW_get hk, hM]; rfl
  · rw [ji_cl (by omega), vp_nar_byte, hy, ja_up] at hP1 hD1
    have e1 : ((ad k, .inl (dA 2, len, .inl (fun j => Int32.ofInt (up f i.toNat x j)))) : Nat × va_E) = (ad k, je dA ad (jdY len (up f i.toNat x))) := rfl
    rw [e1, jW_set] at hP1 hD1
    exact kk H1 locs1 hP1 hD1 hS1
theorem jr_alen (h : Ok κ own cc nL ret) {k len : Nat} {f : Nat → Int} (hd : decode cc pc = .ok (.arraylength, 1)) (hM : M k = jdA len f) (hk : k < n) (kk : J κ nL c sl n (pc + 1) ls (jI (len : Int) :: st) M) : J κ nL c sl n pc ls (.ref k :: st) M := by
  refine jr_liftM h (fun a b => ⟨a, jk_cons jok_i (jk_tl b)⟩) (fun {p l e R s m args below meth c0 H locs Q A dC dI dA} ad la hx hb hts hown hK hA hSF hM0 hP hD hS kk => ?_) kk
  refine va_alen (D := (dC, dI)) (cA := dA 0) (x := (len, .inl (fun j => Int32.ofInt (f j)))) hx hb hK hP k 0 ?_ rfl (v := Int32.ofInt (len : Int)) rfl hd (kk H locs hP hD hS)
  rw [jW_get hk, hM]; rfl
theorem jr_alenL (h : Ok κ own cc nL ret) {k len : Nat} {f : Nat → Int} (hd : decode cc pc = .ok (.arraylength, 1)) (hM : M k = jdL len f) (hk : k < n) (kk : J κ nL c sl n (pc + 1) ls (jI (len : Int) :: st) M) : J κ nL c sl n pc ls (.ref k :: st) M := by
  refine jr_liftM h (fun a b => ⟨a, jk_cons jok_i (jk_tl b)⟩) (fun {p l e R s m args below meth c0 H locs Q A dC dI dA} ad la hx hb hts hown hK hA hSF hM0 hP hD hS kk => ?_) kk
  refine va_alen (D := (dC, dI)) (cA := dA 1) (x := (len, .inr (.inl (fun j => Int64.ofInt (f j))))) hx hb hK hP k 1 ?_ rfl (v := Int32.ofInt (len : Int)) rfl hd (kk H locs hP hD hS)
  rw [jW_get hk, hM]; rfl
/-- the launch's tables -/
theorem jr_gets (h : Ok κ own cc nL ret) {index : Nat} (i : Nat) (hi : i < 3) (hlk : Cond.fieldLink own index "TwoTrolleys" (jtab i).1 "[I" ∈ wsL_law) (hd : decode cc pc = .ok (.getstatic index, 3)) (kk : J κ nL c sl n (pc + 3) ls (.ref (1000000 + i) :: st) M) : J κ nL c sl n pc ls st M := by
  refine jr_liftM h (fun a b => ⟨a, jk_cons (v := .ref (1000000 + i)) (Or.inr (Nat.le_add_right _ _)) b⟩) (fun {p l e R s m args below meth c0 H locs Q A dC dI dA} ad la hx hb hts hown hK hA hSF hM0 hP hD hS kk => ?_) kk
  exact va_gets hx hb (hSF.2.1 i hi).1 hS hown (hts _ hlk) (fun _ h9 => h9) hd (kk H locs hP hD hS)
theorem jr_tabld (h : Ok κ own cc nL ret) {j : Int} (i : Nat) (hi : i < 3) (hd : decode cc pc = .ok (.iaload, 1)) (hj : 0 ≤ j ∧ j < (jtab i).2.1 ∧ j < 2147483648) (kk : J κ nL c sl n (pc + 1) ls (jI ((jtab i).2.2 j.toNat) :: st) M) : J κ nL c sl n pc ls (jI j :: .ref (1000000 + i) :: st) M := by
  refine jr_liftM h (fun a b => ⟨a, jk_cons jok_i (jk_tl (jk_tl b))⟩) (fun {p l e R s m args below meth c0 H locs Q A dC dI dA} ad la hx hb hts hown hK hA hSF hM0 hP hD hS kk => ?_) kk
  refine va_ti hx hb (hSF.2.1 i hi).2 hS (ji_in hj) (v := .int (Int32.ofInt ((jtab i).2.2 j.toNat))) ?_ hd (kk H locs hP hD hS)
  rw [ji_cl (by omega)]
theorem jr_tablen (h : Ok κ own cc nL ret) (i : Nat) (hi : i < 3) (hd : decode cc pc = .ok (.arraylength, 1)) (kk : J κ nL c sl n (pc + 1) ls (jI ((jtab i).2.1 : Int) :: st) M) : J κ nL c sl n pc ls (.ref (1000000 + i) :: st) M := by
  refine jr_liftM h (fun a b => ⟨a, jk_cons jok_i (jk_tl b)⟩) (fun {p l e R s m args below meth c0 H locs Q A dC dI dA} ad la hx hb hts hown hK hA hSF hM0 hP hD hS kk => ?_) kk
  exact va_tlen hx hb (hSF.2.1 i hi).2 hS (v := Int32.ofInt ((jtab i).2.1 : Int)) rfl hd (kk H locs hP hD hS)
theorem jr_getj (h : Ok κ own cc nL ret) {index : Nat} (i : Nat) (hi : i < 4) (hlk : Cond.fieldLink own index (jJdk i).1 (jJdk i).2.1 (jJdk i).2.2.1 ∈ wsL_law) (hd : decode cc pc = .ok (.getstatic index, 3)) (kk : J κ nL c sl n (pc + 3) ls (.int (jJdk i).2.2.2 :: st) M) : J κ nL c sl n pc ls st M := by
  refine jr_liftM h (fun a b => ⟨a, jk_cons jok_i b⟩) (fun {p l e R s m args below meth c0 H locs Q A dC dI dA} ad la hx hb hts hown hK hA hSF hM0 hP hD hS kk => ?_) kk
  exact va_gets hx hb (hSF.2.2.1 i hi) hS hown (hts _ hlk) (fun _ h9 => h9) hd (kk H locs hP hD hS)
/-- fields of a nest mate -/
theorem jr_getfN (h : Ok κ own cc nL ret) {k ci N index : Nat} {C host : String} {T : u_T} {F : Nat → Value} (j : Nat) (hc : vwCl[ci]? = some (C, T, N)) (hin : ∀ w ∈ u_ws C T N, w ∈ wsL_law) (hlk : (own, index, (T j).1, (T j).2.1, (T j).2.2.1, host) ∈ jnF) (hj : j < N) (hd : decode cc pc = .ok (.getfield index, 3)) (hM : M k = jdO ci F) (hk : k < n) (kk : J κ nL c sl n (pc + 3) ls (F j :: st) M) : J κ nL c sl n pc ls (.ref k :: st) M := by
  have hnf : jd_nf ci = N := jd_nf_ok hc
  refine jr_liftM h (fun a b => ⟨a, jk_cons ?_ (jk_tl b)⟩) (fun {p l e R s m args below meth c0 H locs Q A dC dI dA} ad la hx hb hts hown hK hA hSF hM0 hP hD hS kk => ?_) kk
  · have := a k hk
    rw [hM] at this
    exact this j (by rw [hnf]; exact hj)
  · refine va_getN (D := (dC, dI)) (ci := ci) (C := C) (T := T) (N := N) (fs := (List.range (jd_nf ci)).map (fun j => jv ad (F j))) hx hb hts hin hown hK hP k ?_ hc j hj (va_Nw.use rfl (hSF.1.1 _ hlk)) (fun _ h9 => h9) ?_ hd (kk H locs hP hD hS)
    · rw [jW_get hk, hM]; rfl
    · simp [hnf, hj]
theorem jr_putfN (h : Ok κ own cc nL ret) {k ci N index : Nat} {C host : String} {T : u_T} {F : Nat → Value} {v : Value} (j : Nat) (tys0 : Nat → FieldType) (hty : ∀ k, k < N → parseFieldDescriptor (T k).2.2.1 = some (tys0 k)) (hnm : ∀ a, a < N → ∀ b, b < N → a ≠ b → (T a).2.1 ≠ (T b).2.1) (hc : vwCl[ci]? = some (C, T, N)) (hin : ∀ w ∈ u_ws C T N, w ∈ wsL_law) (hlk : (own, index, (T j).1, (T j).2.1, (T j).2.2.1, host) ∈ jnF) (hj : j < N) (hfin : (T j).2.2.2 = false) (hn : ∀ ad : Nat → Nat, narrow (tys0 j) (jv ad v) = jv ad v) (hfit : ∀ ad : Nat → Nat, fits (tys0 j) (jv ad v) = true) (hd : decode cc pc = .ok (.putfield index, 3)) (hM : M k = jdO ci F) (hk : k < n) (kk : J κ nL c sl n (pc + 3) ls st (up M k (jdO ci (up F j v)))) : J κ nL c sl n pc ls (v :: .ref k :: st) M := by
  have hnf : jd_nf ci = N := jd_nf_ok hc
  refine jr_liftM h (fun a b => ⟨jok_as a ?_, jk_tl (jk_tl b)⟩) (fun {p l e R s m args below meth c0 H locs Q A dC dI dA} ad la hx hb hts hown hK hA hSF hM0 hP hD hS kk => ?_) kk
  · intro i hi
    by_cases q : i = j
    · rw [q, up_eq]; exact jk_hd b
    · rw [up_ne q]
      have := a k hk
      rw [hM] at this
      exact this i hi
  · refine va_putN (D := (dC, dI)) (ci := ci) (C := C) (T := T) (N := N) (fs := (List.range (jd_nf ci)).map (fun j => jv ad (F j))) (v := jv ad v) (ty := tys0 j) hx hb hts hin tys0 hty hnm hown hK hP hD hS k ?_ hc j hj (va_Nw.use rfl (hSF.1.1 _ hlk)) (fun _ h9 => h9) hfin (hty j hj) (hn ad) (hfit ad) ?_ hd (fun H1 locs1 hP1 hD1 hS1 => ?_)
    · rw [jW_get hk, hM]; rfl
    · simp [hnf, hj]
    · have e1 : ((ad k, .inr (ci, ((List.range (jd_nf ci)).map (fun j => jv ad (F j))).set j (jv ad v))) : Nat × va_E) = (ad k, je dA ad (jdO ci (up F j v))) := by
        refine congrArg (fun x => ((ad k, .inr (ci, x)) : Nat × va_E)) (List.ext_getElem? fun i => ?_)
        by_cases hi : i < jd_nf ci
        · by_cases q : i = j
          · subst q
            rw [List.getElem?_set_self (by simp [hi])]
            simp [hi, up_eq]
          · rw [List.getElem?_set_ne (Ne.symm q)]
            simp [hi, up_ne q]
        · simp [hi]
      rw [e1, jW_set] at hP1 hD1
      exact kk H1 locs1 hP1 hD1 hS1
theorem jr_getsN (h : Ok κ own cc nL ret) {index : Nat} {host : String} (i : Nat) (hi : i < 3) (hlk : (own, index, "TwoTrolleys", (jtab i).1, "[I", host) ∈ jnF) (hd : decode cc pc = .ok (.getstatic index, 3)) (kk : J κ nL c sl n (pc + 3) ls (.ref (1000000 + i) :: st) M) : J κ nL c sl n pc ls st M := by
  refine jr_liftM h (fun a b => ⟨a, jk_cons (v := .ref (1000000 + i)) (Or.inr (Nat.le_add_right _ _)) b⟩) (fun {p l e R s m args below meth c0 H locs Q A dC dI dA} ad la hx hb hts hown hK hA hSF hM0 hP hD hS kk => ?_) kk
  exact va_getsN hx hb (hSF.2.1 i hi).1 hS hown (va_Nw.use rfl (hSF.1.1 _ hlk)) (fun _ h9 => h9) hd (kk H locs hP hD hS)
end JH
