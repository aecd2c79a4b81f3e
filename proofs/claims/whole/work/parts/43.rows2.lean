/-! 43: more rows: an object by its slots alone, rows of references, rows of rows -/
theorem jW_ext {dA : Nat → ClassId} {ad ad' : Nat → Nat} {n : Nat} {M M' : jdM} (h : ∀ k, k < n → ad k = ad' k ∧ je dA ad (M k) = je dA ad' (M' k)) : jW dA ad n M = jW dA ad' n M' := by
  unfold jW
  apply List.map_congr_left
  intro k hk
  obtain ⟨h1, h2⟩ := h k (List.mem_range.mp hk)
  rw [h1, h2]
section JR2
variable {κ : jC} {own : String} {cc : ByteArray} {nL : Nat} {ret : Option FieldType} {c sl n pc : Nat} {ls : List (Option Value)} {st : List Value} {M : jdM}
theorem jr_same {k ci : Nat} {F F' : Nat → Value} (hM : M k = jdO ci F) (he : ∀ j, j < jd_nf ci → F j = F' j) (kk : J κ nL c sl n pc ls st (up M k (jdO ci F'))) : J κ nL c sl n pc ls st M := by
  obtain ⟨p, l2, e, R, s, m, args, below, meth, c0, Q, A, dC, dI, dA, n0, ad0⟩ := κ
  intro ad H locs la h1 h2 h3 h4 h5 h6 hP hD hS hl
  have e0 : ∀ ad : Nat → Nat, je dA ad (jdO ci F) = je dA ad (jdO ci F') := fun ad => by
    show (.inr (ci, _) : va_E) = .inr (ci, _)
    congr 2
    apply List.map_congr_left
    intro j hj
    rw [he j (List.mem_range.mp hj)]
  have eW : jW dA ad n M = jW dA ad n (up M k (jdO ci F')) := jW_ext (fun i hi => ⟨rfl, by
    by_cases q : i = k
    · subst q; rw [up_eq, hM, e0]
    · rw [up_ne q]⟩)
  rw [eW] at hP hD
  refine kk ad H locs la h1 h2 h3 (fun i hi => ?_) h5 h6 hP hD hS hl
  by_cases q : i = k
  · subst q
    rw [up_eq]
    have := h4 i hi
    rw [hM] at this
    exact fun j hj => he j hj ▸ this j hj
  · rw [up_ne q]; exact h4 i hi
theorem jr_anew (h : Ok κ own cc nL ret) {fr lo ce sl0 : Nat} (hRm : Rm κ fr lo ce sl0) {index : Nat} {z : Int} (N : Nat) (w1 : Cond.classLink own index RX3 ∈ wsL_law) (hd : decode cc pc = .ok (.anewarray index, 3)) (hz : z = (N : Int)) (hz3 : N < 100000) (hroom : c + 1 ≤ ce ∧ sl + N ≤ sl0) (hn : n < 1000000)
    (kk : J κ nL (c + 1) (sl + N) (n + 1) (pc + 3) ls (.ref n :: st) (up M n (jdR 4 N (fun _ => none)))) : J κ nL c sl n pc ls (jI z :: st) M := by
  subst hz
  obtain ⟨p, l2, e, R, s, m, args, below, meth, c0, Q, A, dC, dI, dA, n0, ad0⟩ := κ
  obtain ⟨hx, hb, hml, hown, hts, hK, hr, hlk, hA, hSF⟩ := h
  obtain ⟨r1, r2, r3, r4⟩ := hRm
  intro ad H locs la h1 h2 h3 h4 h5 h6 hP hD hS hl
  refine va_newq (N' := N) hx hb hown (hts _ w1) hSF.1.2.2.1 hK hP hD hS hA ?_ ?_ (by omega) (Nat.le_trans hroom.1 r3) (Nat.le_trans hroom.2 r4) hd (fun q cA H1 hK1 hP1 hD1 hS1 => ?_)
  · rw [ji_0, ji_lt (by omega) ji_z]; omega
  · rw [ji_cl (by omega)]; omega
  have hcA : cA = dA 4 := by
    obtain ⟨_, _, _, _, _, e1⟩ := (hK1.2 6 (cA, .object RX3) rfl).2
    obtain ⟨_, _, _, _, _, e2⟩ := (hK.2 4 (dA 4, .object RX3) rfl).2
    exact Option.some.inj (e1.symm.trans e2)
  subst hcA
  have he : je dA (up ad n q) (jdR 4 N (fun _ => none)) = .inl (dA 4, N, .inr (.inr (.inr (.inr (fun _ => none))))) := rfl
  rw [jW_push hn h4 he] at hP1 hD1
  have ha : ∀ k, (k < n ∨ 1000000 ≤ k) → up ad n q k = ad k := fun k hk => up_ne (by rcases hk with h | h <;> omega)
  have K := kk (up ad n q) H1 locs la (fun k hk => (ha k (hk.elim (fun q => Or.inl (Nat.lt_of_lt_of_le q h2)) Or.inr)).trans (h1 k hk)) (by omega) (by omega) (fun k hk => ?_) (fun v hv => jok_mono (Nat.le_succ n) (h5 v hv)) (jk_cons (v := .ref n) (Or.inl (Nat.lt_succ_self n)) (fun w hw => jok_mono (Nat.le_succ n) (jk_tl h6 w hw))) hP1 hD1 hS1 (by rw [jls_same ha h5]; exact hl)
  · rw [List.map_cons, jst_same ha (jk_tl h6), show jv (up ad n q) (.ref n) = .ref q from congrArg Value.ref up_eq] at K
    exact K
  · by_cases q : k = n
    · rw [q, up_eq]
      exact fun j y hj => by cases hj
    · rw [up_ne q]
      exact jokE_mono (Nat.le_succ n) (h4 k (by omega))
theorem jr_aast (h : Ok κ own cc nL ret) {k len y : Nat} {f : Nat → Option Nat} {F : Nat → Value} {i : Int} (hd : decode cc pc = .ok (.aastore, 1)) (hM : M k = jdR 4 len f) (hk : k < n) (hMy : M y = jdO 3 F) (hy : y < n) (hi : 0 ≤ i ∧ i < len ∧ i < 2147483648) (kk : J κ nL c sl n (pc + 1) ls st (up M k (jdR 4 len (up f i.toNat (some y))))) : J κ nL c sl n pc ls (.ref y :: jI i :: .ref k :: st) M := by
  refine jr_liftM h (fun a b => ⟨jok_as (e := jdR 4 len (up f i.toNat (some y))) a ?_, jk_tl (jk_tl (jk_tl b))⟩) (fun {p l e R s m args below meth c0 H locs Q A dC dI dA} ad la hx hb hts hown hK hA hSF hM0 hP hD hS kk => ?_) kk
  · intro j z hz
    by_cases q : j = i.toNat
    · rw [q, up_eq] at hz
      cases hz
      exact hy
    · rw [up_ne q] at hz
      have := a k hk
      rw [hM] at this
      exact this j z hz
  · refine va_astq (D := (dC, dI)) (vs := (List.range (jd_nf 3)).map (fun j => jv ad (F j))) (cA := dA 4) (n := len) (f := fun j => (f j).map ad) hx hb hK hP hD hS k 4 y 3 ?_ rfl ?_ rfl (ji_in hi) hd (fun H1 locs1 hP1 hD1 hS1 => ?_)
    · rw [jW_get hk, hM]; rfl
    · rw [jW_get hy, hMy]; rfl
    · rw [ji_cl (by omega)] at hP1 hD1
      have e1 : ((ad k, .inl (dA 4, len, .inr (.inr (.inr (.inr (va_up (fun j => (f j).map ad) i.toNat (some (ad y)))))))) : Nat × va_E) = (ad k, je dA ad (jdR 4 len (up f i.toNat (some y)))) := by
        show _ = ((ad k, .inl (dA 4, len, .inr (.inr (.inr (.inr (fun j => (up f i.toNat (some y) j).map ad)))))) : Nat × va_E)
        have : va_up (fun j => (f j).map ad) i.toNat (some (ad y)) = fun j => (up f i.toNat (some y) j).map ad := by
          funext j
          unfold va_up up
          dsimp only
          split <;> rfl
        rw [this]
      rw [e1, jW_set] at hP1 hD1
      exact kk H1 locs1 hP1 hD1 hS1
def mnaM (M : jdM) (n N K : Nat) : jdM := fun k => if k = n then jdR 5 N (fun i => if i < N then some (n + 1 + i) else none) else if n < k ∧ k < n + 1 + N then jdA K (fun _ => 0) else M k
theorem jr_mna (h : Ok κ own cc nL ret) {fr lo ce sl0 : Nat} (hRm : Rm κ fr lo ce sl0) {index : Nat} {z1 z2 : Int} (N K : Nat) (w1 : Cond.classLink own index ("[" ++ (FieldType.array .int).toString) ∈ wsL_law) (w2 : Cond.arrayClass .int ∈ wsL_law) (hd : decode cc pc = .ok (.multianewarray index 2, 4)) (hz1 : z1 = (N : Int)) (hz2 : z2 = (K : Int)) (hN : N < 1000) (hKK : K < 1000) (hroom : c + (1 + N) ≤ ce ∧ sl + (N + N * K) ≤ sl0) (hn : n + 1 + N ≤ 1000000)
    (kk : J κ nL (c + 1 + N) (sl + N + N * K) (n + 1 + N) (pc + 4) ls (.ref n :: st) (mnaM M n N K)) : J κ nL c sl n pc ls (jI z2 :: jI z1 :: st) M := by
  subst hz1
  subst hz2
  obtain ⟨p, l2, e, R, s, m, args, below, meth, c0, Q, A, dC, dI, dA, n0, ad0⟩ := κ
  obtain ⟨hx, hb, hml, hown, hts, hK, hr, hlk, hA, hSF⟩ := h
  obtain ⟨r1, r2, r3, r4⟩ := hRm
  intro ad H locs la h1 h2 h3 h4 h5 h6 hP hD hS hl
  have hP0 : va_P (dC, dI) vwCl (jW dA ad n M ++ va_pl [] (fun _ => .inr (0, []))) H := by
    show va_P (dC, dI) vwCl (jW dA ad n M ++ []) H
    rw [List.append_nil]
    exact hP
  have hD0 : va_D A (jW dA ad n M ++ va_pl [] (fun _ => .inr (0, []))) := by
    show va_D A (jW dA ad n M ++ [])
    rw [List.append_nil]
    exact hD
  refine va_mna (N' := N) (K' := K) (cy := dA 0) (ty := .int) (z := (K, .inl (fun _ => Int32.ofInt 0))) hx hb hown (hts _ w1) hSF.1.2.2.2 (hts _ w2) (hK.2 0 (dA 0, .int) rfl).2 hK hP0 hD0 hS hA ?_ ?_ ?_ ?_ (by omega) (by show K * 4 ≤ _; omega) (by omega) rfl rfl (Nat.le_trans hroom.1 r3) (Nat.le_trans hroom.2 r4) ?_ hd (fun q r cA H1 hr1 hr2 hK1 hP1 hD1 hS1 => ?_)
  · rw [ji_0, ji_lt (by omega) ji_z]; omega
  · rw [ji_0, ji_lt (by omega) ji_z]; omega
  · rw [ji_cl (by omega)]; omega
  · rw [ji_cl (by omega)]; omega
  · intro cA
    show ({ cls := cA, slots := Array.replicate K (defaultValue .int), vm := .none } : Cell) = _
    rw [arrV_new]
    rfl
  have hcA : cA = dA 5 := by
    have e1 : s.vm.findClass ("[" ++ (FieldType.array .int).toString) = some cA := (hK1.2 6 (cA, .array .int) rfl).2
    have e2 : s.vm.findClass ("[" ++ (FieldType.array .int).toString) = some (dA 5) := (hK.2 5 (dA 5, .array .int) rfl).2
    exact Option.some.inj (e1.symm.trans e2)
  subst hcA
  generalize had : (fun k => if k = n then q else if n < k ∧ k < n + 1 + N then r (k - n - 1) else ad k) = ad'
  have a1 : ad' n = q := by rw [← had]; simp
  have a2 : ∀ i, i < N → ad' (n + 1 + i) = r i := fun i hi => by
    rw [← had]
    show (if n + 1 + i = n then q else if n < n + 1 + i ∧ n + 1 + i < n + 1 + N then r (n + 1 + i - n - 1) else ad (n + 1 + i)) = r i
    rw [if_neg (by omega), if_pos (by omega), show n + 1 + i - n - 1 = i by omega]
  have a3 : ∀ k, (k < n ∨ 1000000 ≤ k) → ad' k = ad k := fun k hk => by
    rw [← had]
    show (if k = n then q else if n < k ∧ k < n + 1 + N then r (k - n - 1) else ad k) = ad k
    rw [if_neg (by omega), if_neg (by omega)]
  have eW : (jW dA ad n M ++ [(q, .inl (dA 5, N, .inr (.inr (.inr (.inr (fun i => if i < N then some (r i) else none))))))]) ++ va_pl ([] ++ (List.range N).map r) (vr_up (fun _ => .inr (0, [])) ((List.range N).map r) (.inl (dA 0, (K, .inl (fun _ => Int32.ofInt 0))))) = jW dA ad' (n + 1 + N) (mnaM M n N K) := by
    apply List.ext_getElem?
    intro i
    have l1 : (jW dA ad n M).length = n := by simp [jW]
    by_cases q1 : i < n
    · rw [List.append_assoc, List.getElem?_append_left (by omega), jW_get q1, jW_get (by omega), a3 i (Or.inl q1)]
      unfold mnaM
      rw [if_neg (by omega), if_neg (by omega), je_same a3 (h4 i q1)]
    · by_cases q2 : i = n
      · subst q2
        rw [List.getElem?_append_left (by rw [List.length_append, l1]; simp), List.getElem?_append_right (by omega), jW_get (by omega), a1, l1]
        unfold mnaM
        rw [if_pos rfl, Nat.sub_self]
        show (some (q, _) : Option (Nat × va_E)) = some (q, .inl (dA 5, N, .inr (.inr (.inr (.inr (fun j => (if j < N then some (i + 1 + j) else none : Option Nat).map ad'))))))
        have : (fun j => (if j < N then some (i + 1 + j) else none : Option Nat).map ad') = fun j => if j < N then some (r j) else none := by
          funext j
          by_cases qj : j < N
          · rw [if_pos qj, if_pos qj, Option.map_some, a2 j qj]
          · rw [if_neg qj, if_neg qj]; rfl
        rw [this]
      · by_cases q3 : i < n + 1 + N
        · rw [List.getElem?_append_right (by rw [List.length_append, l1]; simp; omega), jW_get q3]
          have e5 : i - (jW dA ad n M ++ [(q, .inl (dA 5, N, .inr (.inr (.inr (.inr (fun i => if i < N then some (r i) else none))))))] : va_W).length = i - n - 1 := by rw [List.length_append, l1]; simp; omega
          rw [e5]
          unfold va_pl
          rw [List.nil_append, List.getElem?_map, List.getElem?_map, List.getElem?_range (by omega)]
          have e6 := a2 (i - n - 1) (by omega)
          rw [show n + 1 + (i - n - 1) = i by omega] at e6
          rw [e6]
          unfold mnaM
          rw [if_neg q2, if_pos (by omega)]
          show (some (r (i - n - 1), vr_up _ _ _ (r (i - n - 1))) : Option (Nat × va_E)) = _
          rw [vr_up_in (List.mem_map.mpr ⟨i - n - 1, List.mem_range.mpr (by omega), rfl⟩)]
          rfl
        · rw [List.getElem?_eq_none (by rw [List.length_append, List.length_append, l1]; unfold va_pl; simp; omega), List.getElem?_eq_none (by simp [jW]; omega)]
  rw [eW] at hP1 hD1
  have hnn : n ≤ n + 1 + N := by omega
  have KK := kk ad' H1 locs la (fun k hk => (a3 k (hk.elim (fun q => Or.inl (Nat.lt_of_lt_of_le q h2)) Or.inr)).trans (h1 k hk)) (by omega) hn (fun k hk => ?_) (fun v hv => jok_mono hnn (h5 v hv)) (jk_cons (v := .ref n) (Or.inl (show n < n + 1 + N by omega)) (fun w hw => jok_mono hnn (jk_tl (jk_tl h6) w hw))) hP1 hD1 hS1 (by rw [jls_same a3 h5]; exact hl)
  · rw [List.map_cons, jst_same a3 (jk_tl (jk_tl h6)), show jv ad' (.ref n) = .ref q from congrArg Value.ref a1] at KK
    exact KK
  · unfold mnaM
    by_cases q1 : k = n
    · rw [if_pos q1]
      intro j y hj
      replace hj : (if j < N then some (n + 1 + j) else none) = some y := hj
      by_cases qj : j < N
      · rw [if_pos qj] at hj
        cases hj
        omega
      · rw [if_neg qj] at hj; cases hj
    · rw [if_neg q1]
      by_cases q2 : n < k ∧ k < n + 1 + N
      · rw [if_pos q2]; trivial
      · rw [if_neg q2]
        exact jokE_mono (by omega) (h4 k (by omega))
end JR2
