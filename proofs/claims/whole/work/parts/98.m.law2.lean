/-! 98.m: the law's rows: the script, equal numbers, its end -/
/-- the script that the law reads: L ints, in numbers X -/
def Sc (κ : jC) (L : Nat) (X : Nat → Int) : Prop :=
  match κ with
  | (p, l, e, R, s, m, args, below, meth, c0, Q, A, dC, dI, dA, n0, ad0) => ∃ xs : Nat → Int32, (∀ j, X j = (xs j).toInt) ∧ va_X (ad0 1000999) L xs s s.heap ∧ ad0 1000999 < s.heap.size ∧ ¬ A (ad0 1000999)
theorem Sc_r {κ : jC} {L : Nat} {X : Nat → Int} (h : Sc κ L X) (j : Nat) : -2147483648 ≤ X j ∧ X j < 2147483648 := by
  obtain ⟨p, l, e, R, s, m, args, below, meth, c0, Q, A, dC, dI, dA, n0, ad0⟩ := κ
  obtain ⟨xs, hX, -⟩ := h
  have h1 := Int32.le_toInt (xs j)
  have h2 := Int32.toInt_lt (xs j)
  rw [hX]
  constructor
  · exact Int.le_trans (by decide) h1
  · exact Int.lt_of_lt_of_le h2 (by decide)
section JL
variable {κ : jC} {own : String} {cc : ByteArray} {nL : Nat} {ret : Option FieldType} {c sl n pc : Nat} {ls : List (Option Value)} {st : List Value} {M : jdM}
theorem jr_slen (h : Ok κ own cc nL ret) {L : Nat} {X : Nat → Int} (hsc : Sc κ L X) (hd : decode cc pc = .ok (.arraylength, 1)) (k : J κ nL c sl n (pc + 1) ls (jI (L : Int) :: st) M) : J κ nL c sl n pc ls (.ref 1000999 :: st) M := by
  obtain ⟨p, l, e, R, s, m, args, below, meth, c0, Q, A, dC, dI, dA, n0, ad0⟩ := κ
  obtain ⟨hx, hb, hml, hown, hts, hK, hr, hlk, hA, hSF⟩ := h
  obtain ⟨xs, hX, hX2, hbl, hbA⟩ := hsc
  intro ad H locs la h1 h2 h3 h4 h5 h6 hP hD hS hl
  have e9 : ad 1000999 = ad0 1000999 := h1 _ (Or.inr (by omega))
  show W p l e R s m args below meth c0 H locs c sl Q (F0 m pc la (.ref (ad 1000999) :: st.map (jv ad)))
  rw [e9]
  refine va_slen hx hb hX2 hbl hbA hS hd ?_
  exact k ad H locs la h1 h2 h3 h4 h5 (fun v hv => by
    rcases List.mem_cons.mp hv with q | q
    · rw [q]; trivial
    · exact h6 v (List.mem_cons_of_mem _ q)) hP hD hS hl
theorem jr_sld (h : Ok κ own cc nL ret) {L : Nat} {X : Nat → Int} (hsc : Sc κ L X) {i : Int} (hd : decode cc pc = .ok (.iaload, 1)) (hi : 0 ≤ i ∧ i < L ∧ i < 2147483648) (k : J κ nL c sl n (pc + 1) ls (jI (X i.toNat) :: st) M) : J κ nL c sl n pc ls (jI i :: .ref 1000999 :: st) M := by
  obtain ⟨p, l, e, R, s, m, args, below, meth, c0, Q, A, dC, dI, dA, n0, ad0⟩ := κ
  obtain ⟨hx, hb, hml, hown, hts, hK, hr, hlk, hA, hSF⟩ := h
  obtain ⟨xs, hX, hX2, hbl, hbA⟩ := hsc
  intro ad H locs la h1 h2 h3 h4 h5 h6 hP hD hS hl
  have e9 : ad 1000999 = ad0 1000999 := h1 _ (Or.inr (by omega))
  show W p l e R s m args below meth c0 H locs c sl Q (F0 m pc la (jI i :: .ref (ad 1000999) :: st.map (jv ad)))
  rw [e9]
  refine va_sld hx hb hX2 hbl hbA hS (ji_in hi) hd ?_
  rw [ji_cl (by omega)]
  have e8 : Value.int (xs i.toNat) = jI (X i.toNat) := by
    show Value.int (xs i.toNat) = Value.int (Int32.ofInt (X i.toNat))
    rw [hX, Int32.ofInt_toInt]
  rw [e8]
  exact k ad H locs la h1 h2 h3 h4 h5 (fun v hv => by
    rcases List.mem_cons.mp hv with q | q
    · rw [q]; trivial
    · exact h6 v (List.mem_cons_of_mem _ (List.mem_cons_of_mem _ q))) hP hD hS hl
/-- two equal ints: it jumps -/
theorem jr_same2 (h : Ok κ own cc nL ret) {x : Int32} {off : Int} (tgt : Nat) (hd : decode cc pc = .ok (.if_icmp .eq off, 3)) (ht : (pc : Int) + off = (tgt : Int)) (k : J κ nL c sl n tgt ls st M) : J κ nL c sl n pc ls (.int x :: .int x :: st) M :=
  jr_lift h (fun a b => ⟨a, jk_tl (jk_tl b)⟩) (fun ad la hx hb hts hown hl kk => lv_icmp_eq hx hb hd ht (fun _ => kk la hl) (fun q => absurd rfl q)) k
/-- two equal longs -/
theorem jr_sameL (h : Ok κ own cc nL ret) {x : Int64} (hd : decode cc pc = .ok (.lcmp, 1)) (k : J κ nL c sl n (pc + 1) ls (jI 0 :: st) M) : J κ nL c sl n pc ls (.long x :: .long x :: st) M := by
  have e : lg_cmp x x = Int32.ofInt 0 := by
    unfold lg_cmp
    rw [if_neg (fun z => absurd z (by simp)), if_pos rfl]
    rfl
  exact jr_lift h (fun a b => ⟨a, jk_cons jok_i (jk_tl (jk_tl b))⟩) (fun ad la hx hb hts hown hl kk => W.lcmp hx hb hd (by have := kk la hl; rw [List.map_cons, show jv ad (jI 0) = .int (lg_cmp x x) from congrArg Value.int e.symm] at this; exact this)) k
/-- cells and slots are counted up -/
theorem jr_wide {c1 s1 : Nat} (hc : c ≤ c1) (hs : sl ≤ s1) (k : J κ nL c1 s1 n pc ls st M) : J κ nL c sl n pc ls st M := by
  obtain ⟨p, l, e, R, s, m, args, below, meth, c0, Q, A, dC, dI, dA, n0, ad0⟩ := κ
  intro ad H locs la h1 h2 h3 h4 h5 h6 hP hD hS hl
  exact W.widen hc hs (k ad H locs la h1 h2 h3 h4 h5 h6 hP hD hS hl)
end JL
theorem and63 (x : Int32) : ∃ z : Int, (0 ≤ z ∧ z < 64) ∧ x &&& Int32.ofInt 63 = Int32.ofInt z := by
  refine ⟨(x &&& Int32.ofInt 63).toInt, ?_, (Int32.ofInt_toInt _).symm⟩
  have h : (x &&& Int32.ofInt 63).toBitVec.toNat ≤ 63 := by
    show (x.toBitVec &&& (Int32.ofInt 63).toBitVec).toNat ≤ 63
    rw [BitVec.toNat_and]
    exact Nat.and_le_right
  have e : (x &&& Int32.ofInt 63).toInt = ((x &&& Int32.ofInt 63).toBitVec.toNat : Int) := by
    show (x &&& Int32.ofInt 63).toBitVec.toInt = _
    rw [BitVec.toInt_eq_toNat_of_lt (by omega)]
  rw [e]
  omega
