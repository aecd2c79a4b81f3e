/-! 07b: more rows: rests, long comparisons, arraycopy, new arrays -/
def lcz (x y : Int) : Int := if y < x then 1 else if x = y then 0 else -1
theorem lcz_s (x y : Int) : (0 < lcz x y ↔ y < x) ∧ (lcz x y = 0 ↔ x = y) ∧ (lcz x y < 0 ↔ x < y) ∧ -1 ≤ lcz x y ∧ lcz x y ≤ 1 := by
  unfold lcz
  split
  · omega
  · split <;> omega
theorem jl_to {a : Int} (ha : -9223372036854775808 ≤ a ∧ a < 9223372036854775808) : (Int64.ofInt a).toInt = a := Int64.toInt_ofInt_of_le (by omega) (by omega)
theorem jl_lt {a b : Int} (ha : -9223372036854775808 ≤ a ∧ a < 9223372036854775808) (hb : -9223372036854775808 ≤ b ∧ b < 9223372036854775808) : Int64.ofInt a < Int64.ofInt b ↔ a < b := by
  rw [Int64.lt_iff_toInt_lt, jl_to ha, jl_to hb]
theorem jl_eq {a b : Int} (ha : -9223372036854775808 ≤ a ∧ a < 9223372036854775808) (hb : -9223372036854775808 ≤ b ∧ b < 9223372036854775808) : Int64.ofInt a = Int64.ofInt b ↔ a = b := by
  rw [← Int64.toInt_inj, jl_to ha, jl_to hb]
theorem ji_rem {x y : Int} (hx : 0 ≤ x ∧ x < 2147483648) (hy : 0 < y ∧ y < 2147483648) : Int32.ofInt x - Int32.ofInt x / Int32.ofInt y * Int32.ofInt y = Int32.ofInt (x % y) := by
  rw [ji_div (by omega) hy, ← Int32.ofInt_mul, ← Int32.ofInt_sub, Int.tdiv_eq_ediv_of_nonneg hx.1]
  congr 1
  rw [Int.emod_def, Int.mul_comm]
theorem jl_div {x y : Int} (hx : 0 ≤ x ∧ x < 9223372036854775808) (hy : 0 < y ∧ y < 9223372036854775808) : Int64.ofInt x / Int64.ofInt y = Int64.ofInt (x / y) := by
  have h1 := Int.ediv_nonneg (a := x) (b := y) hx.1 (by omega)
  have h2 := Int.ediv_le_self (a := x) y hx.1
  rw [← Int64.toInt_inj, Int64.toInt_div, jl_to (by omega), jl_to (by omega), jl_to (by omega), Int.tdiv_eq_ediv_of_nonneg hx.1]
  exact Int.bmod_eq_of_le (by omega) (by omega)
theorem jl_rem {x y : Int} (hx : 0 ≤ x ∧ x < 9223372036854775808) (hy : 0 < y ∧ y < 9223372036854775808) : Int64.ofInt x - Int64.ofInt x / Int64.ofInt y * Int64.ofInt y = Int64.ofInt (x % y) := by
  rw [jl_div hx hy, ← Int64.ofInt_mul, ← Int64.ofInt_sub]
  congr 1
  rw [Int.emod_def, Int.mul_comm]
section JY
variable {κ : jC} {own : String} {cc : ByteArray} {nL : Nat} {ret : Option FieldType} {c sl n pc : Nat} {ls : List (Option Value)} {st : List Value} {M : jdM}
theorem jr_irem (h : Ok κ own cc nL ret) {x y : Int} (hd : decode cc pc = .ok (.irem, 1)) (hr : 0 ≤ x ∧ x < 2147483648) (hy : 0 < y ∧ y < 2147483648) (k : J κ nL c sl n (pc + 1) ls (jI (x % y) :: st) M) : J κ nL c sl n pc ls (jI y :: jI x :: st) M :=
  jr_lift h (fun a b => ⟨a, jk_cons jok_i (jk_tl (jk_tl b))⟩) (fun ad la hx hb hts hown hl kk => lv_irem hx hb hd (fun q => by rw [ji_0, ji_eq (by omega) ji_z] at q; omega) (by have := kk la hl; rw [List.map_cons, show jv ad (jI (x % y)) = .int (Int32.ofInt x - Int32.ofInt x / Int32.ofInt y * Int32.ofInt y) from congrArg Value.int (ji_rem hr hy).symm] at this; exact this)) k
theorem jr_lrem (h : Ok κ own cc nL ret) {x y : Int} (hd : decode cc pc = .ok (.lrem, 1)) (hr : 0 ≤ x ∧ x < 9223372036854775808) (hy : 0 < y ∧ y < 9223372036854775808) (k : J κ nL c sl n (pc + 1) ls (jL (x % y) :: st) M) : J κ nL c sl n pc ls (jL y :: jL x :: st) M :=
  jr_lift h (fun a b => ⟨a, jk_cons jok_l (jk_tl (jk_tl b))⟩) (fun ad la hx hb hts hown hl kk => lv_lrem hx hb hd (fun q => by rw [show (0 : Int64) = Int64.ofInt 0 from rfl, jl_eq (by omega) (by omega)] at q; omega) (by have := kk la hl; rw [List.map_cons, show jv ad (jL (x % y)) = .long (Int64.ofInt x - Int64.ofInt x / Int64.ofInt y * Int64.ofInt y) from congrArg Value.long (jl_rem hr hy).symm] at this; exact this)) k
theorem jr_lcmp (h : Ok κ own cc nL ret) {x y : Int} (hd : decode cc pc = .ok (.lcmp, 1)) (hx0 : -9223372036854775808 ≤ x ∧ x < 9223372036854775808) (hy0 : -9223372036854775808 ≤ y ∧ y < 9223372036854775808) (k : J κ nL c sl n (pc + 1) ls (jI (lcz x y) :: st) M) : J κ nL c sl n pc ls (jL y :: jL x :: st) M := by
  have e : lg_cmp (Int64.ofInt x) (Int64.ofInt y) = Int32.ofInt (lcz x y) := by
    unfold lg_cmp lcz
    by_cases q : y < x
    · rw [if_pos ((jl_lt hy0 hx0).mpr q), if_pos q]; rfl
    · rw [if_neg (fun z => q ((jl_lt hy0 hx0).mp z)), if_neg q]
      by_cases q2 : x = y
      · rw [if_pos ((jl_eq hx0 hy0).mpr q2), if_pos q2]; rfl
      · rw [if_neg (fun z => q2 ((jl_eq hx0 hy0).mp z)), if_neg q2]; rfl
  exact jr_lift h (fun a b => ⟨a, jk_cons jok_i (jk_tl (jk_tl b))⟩) (fun ad la hx hb hts hown hl kk => W.lcmp hx hb hd (by have := kk la hl; rw [List.map_cons, show jv ad (jI (lcz x y)) = .int (lg_cmp (Int64.ofInt x) (Int64.ofInt y)) from congrArg Value.int e.symm] at this; exact this)) k
/-- System.arraycopy from the start of one int array to the start of another -/
theorem jr_acopy (h : Ok κ own cc nL ret) {fr lo ce sl0 : Nat} (hRm : Rm κ fr lo ce sl0) {k1 k2 len : Nat} {f g : Nat → Int} {index : Nat} {rest : List Value} (w1 : Cond.methodLink own index arraycopyName ∈ wsL_law) (w2 : Cond.native arraycopyName ∈ wsL_law) (w3 : Cond.static arraycopyName ∈ wsL_law) (w4 : Cond.initialized "java/lang/System" ∈ wsL_law) (hd : decode cc pc = .ok (.invokestatic index, 3)) (hroom : 1 ≤ fr ∧ (rest.map fun v => v.category).sum + (nativeFrameWords "java/lang/System" "arraycopy" 5 + 11) ≤ lo)
    (hM1 : M k1 = jdA len f) (hk1 : k1 < n) (hM2 : M k2 = jdA len g) (hk2 : k2 < n) (hlen : len < 100000) (kk : J κ nL c sl n (pc + 3) ls rest (up M k2 (jdA len (fun j => if j < len then f j else g j)))) : J κ nL c sl n pc ls (jI (len : Int) :: jI 0 :: .ref k2 :: jI 0 :: .ref k1 :: rest) M := by
  obtain ⟨p, l2, e, R, s, m, args, below, meth, c0, Q, A, dC, dI, dA, n0, ad0⟩ := κ
  obtain ⟨hx, hb, hml, hown, hts, hK, hr, hlk, hA, hSF⟩ := h
  obtain ⟨r1, r2, r3, r4⟩ := hRm
  intro ad H locs la h1 h2 h3 h4 h5 h6 hP hD hS hl
  have e1 : ((rest.map (jv ad)).map fun v => v.category) = rest.map fun v => v.category := by
    rw [List.map_map]
    exact List.map_congr_left (fun v _ => jv_cat ad v)
  have z0 : (Int32.ofInt 0).toNatClampNeg = 0 := rfl
  have zl : (Int32.ofInt (len : Int)).toNatClampNeg = len := by rw [ji_cl (by omega)]; omega
  refine va_copyi (D := (dC, dI)) (c0 := dA 0) (c1 := dA 0) (n0 := len) (n1 := len) (f := fun j => Int32.ofInt (f j)) (g := fun j => Int32.ofInt (g j)) (ty := .int) hx hb (by rw [hml]; exact hl.1.symm) hown (hts _ w1) (hts _ w2) (hts _ w3) (hts _ w4) hK hP hD hS k1 k2 0 0 (by rw [jW_get hk1, hM1]; rfl) (by rw [jW_get hk2, hM2]; rfl) rfl rfl rfl ?_ ?_ ?_ (by rw [z0, zl]; omega) (by rw [z0, zl]; omega) (fun _ _ => rfl) (Nat.le_trans hroom.1 r1) (by rw [e1]; exact Nat.le_trans hroom.2 r2) hd (fun H1 locs1 hP1 hD1 hS1 => ?_)
  · rw [ji_0, ji_lt ji_z ji_z]; omega
  · rw [ji_0, ji_lt ji_z ji_z]; omega
  · rw [ji_0, ji_lt (by omega) ji_z]; omega
  · have e2 : va_cpy (fun j => Int32.ofInt (f j)) (fun j => Int32.ofInt (g j)) (Int32.ofInt 0).toNatClampNeg (Int32.ofInt 0).toNatClampNeg (Int32.ofInt (len : Int)).toNatClampNeg = fun j => Int32.ofInt (if j < len then f j else g j) := by
      rw [z0, zl]
      funext j
      unfold va_cpy
      by_cases q : j < len
      · rw [if_pos (by omega), if_pos q]; congr 2; omega
      · rw [if_neg (by omega), if_neg q]
    rw [e2] at hP1 hD1
    have e3 : ((ad k2, .inl (dA 0, len, .inl (fun j => Int32.ofInt (if j < len then f j else g j)))) : Nat × va_E) = (ad k2, je dA ad (jdA len (fun j => if j < len then f j else g j))) := rfl
    rw [e3, jW_set] at hP1 hD1
    exact kk ad H1 locs1 la h1 h2 h3 (jok_as (e := jdA len (fun j => if j < len then f j else g j)) h4 trivial) h5 (jk_tl (jk_tl (jk_tl (jk_tl (jk_tl h6))))) hP1 hD1 hS1 hl
theorem jr_newI (h : Ok κ own cc nL ret) {fr lo ce sl0 : Nat} (hRm : Rm κ fr lo ce sl0) {z : Int} (N : Nat) (w1 : Cond.arrayClass .int ∈ wsL_law) (hd : decode cc pc = .ok (.newarray .int, 2)) (hz : z = (N : Int)) (hz3 : N < 100000) (hroom : c + 1 ≤ ce ∧ sl + N ≤ sl0) (hn : n < 1000000) (kk : J κ nL (c + 1) (sl + N) (n + 1) (pc + 2) ls (.ref n :: st) (up M n (jdA N (fun _ => 0)))) : J κ nL c sl n pc ls (jI z :: st) M :=
  jr_newarr h hRm (t := 0) (ty := .int) (a0 := (N, .inl (fun _ => Int32.ofInt 0))) rfl (fun _ => rfl) (fun _ _ h => h) w1 hd hz (by show N * 4 ≤ _; omega) (by omega) hroom hn (fun _ => rfl) (fun _ => rfl) (fun _ => trivial) kk
theorem jr_newL (h : Ok κ own cc nL ret) {fr lo ce sl0 : Nat} (hRm : Rm κ fr lo ce sl0) {z : Int} (N : Nat) (w1 : Cond.arrayClass .long ∈ wsL_law) (hd : decode cc pc = .ok (.newarray .long, 2)) (hz : z = (N : Int)) (hz3 : N < 100000) (hroom : c + 1 ≤ ce ∧ sl + N ≤ sl0) (hn : n < 1000000) (kk : J κ nL (c + 1) (sl + N) (n + 1) (pc + 2) ls (.ref n :: st) (up M n (jdL N (fun _ => 0)))) : J κ nL c sl n pc ls (jI z :: st) M :=
  jr_newarr h hRm (t := 1) (ty := .long) (a0 := (N, .inr (.inl (fun _ => Int64.ofInt 0)))) rfl (fun _ => rfl) (fun _ _ h => h) w1 hd hz (by show N * 8 ≤ _; omega) (by omega) hroom hn (fun _ => rfl) (fun _ => rfl) (fun _ => trivial) kk
theorem jr_newY (h : Ok κ own cc nL ret) {fr lo ce sl0 : Nat} (hRm : Rm κ fr lo ce sl0) {z : Int} (N : Nat) (w1 : Cond.arrayClass .byte ∈ wsL_law) (hd : decode cc pc = .ok (.newarray .byte, 2)) (hz : z = (N : Int)) (hz3 : N < 100000) (hroom : c + 1 ≤ ce ∧ sl + N ≤ sl0) (hn : n < 1000000) (kk : J κ nL (c + 1) (sl + N) (n + 1) (pc + 2) ls (.ref n :: st) (up M n (jdY N (fun _ => 0)))) : J κ nL c sl n pc ls (jI z :: st) M :=
  jr_newarr h hRm (t := 2) (ty := .byte) (a0 := (N, .inl (fun _ => Int32.ofInt 0))) rfl (fun _ => rfl) (fun _ _ h => h) w1 hd hz (by show N * 1 ≤ _; omega) (by omega) hroom hn (fun _ => rfl) (fun _ => rfl) (fun _ => trivial) kk
theorem jr_newZ (h : Ok κ own cc nL ret) {fr lo ce sl0 : Nat} (hRm : Rm κ fr lo ce sl0) {z : Int} (N : Nat) (w1 : Cond.arrayClass .boolean ∈ wsL_law) (hd : decode cc pc = .ok (.newarray .boolean, 2)) (hz : z = (N : Int)) (hz3 : N < 100000) (hroom : c + 1 ≤ ce ∧ sl + N ≤ sl0) (hn : n < 1000000) (kk : J κ nL (c + 1) (sl + N) (n + 1) (pc + 2) ls (.ref n :: st) (up M n (jdZ N (fun _ => 0)))) : J κ nL c sl n pc ls (jI z :: st) M :=
  jr_newarr h hRm (t := 3) (ty := .boolean) (a0 := (N, .inl (fun _ => Int32.ofInt 0))) rfl (fun _ => rfl) (fun _ _ h => h) w1 hd hz (by show N * 1 ≤ _; omega) (by omega) hroom hn (fun _ => rfl) (fun _ => rfl) (fun _ => trivial) kk
/-- strings that are constants -/
theorem jr_ldcS (h : Ok κ own cc nL ret) {index : Nat} (i : Nat) (hi : i < 58) (ho : (jstr i).1 = own ∧ (jstr i).2.1 = index) (hd : decode cc pc = .ok (.ldc index, 2)) (kk : J κ nL c sl n (pc + 2) ls (.ref (1000000 + 100 + i) :: st) M) : J κ nL c sl n pc ls st M := by
  obtain ⟨rfl, rfl⟩ := ho
  refine jr_liftM h (fun a b => ⟨a, jk_cons (v := .ref (1000000 + 100 + i)) (Or.inr (Nat.le_trans (Nat.le_add_right 1000000 100) (Nat.le_add_right _ _))) b⟩) (fun {p l e R s m args below meth c0 H locs Q A dC dI dA} ad la hx hb hts hown hK hA hSF hM0 hP hD hS kk => ?_) kk
  exact va_ldcS hx hb hown (hSF.2.2.2.2.2.2 i hi).1 hd (kk H locs hP hD hS)
theorem jr_strV (h : Ok κ own cc nL ret) {index i : Nat} (hi : i < 58) (hlk : Cond.fieldLink own index "java/lang/String" "value" "[B" ∈ wsL_law) (hd : decode cc pc = .ok (.getfield index, 3)) (kk : J κ nL c sl n (pc + 3) ls (.ref (1000000 + 200 + i) :: st) M) : J κ nL c sl n pc ls (.ref (1000000 + 100 + i) :: st) M := by
  refine jr_liftM h (fun a b => ⟨a, jk_cons (v := .ref (1000000 + 200 + i)) (Or.inr (Nat.le_trans (Nat.le_add_right 1000000 200) (Nat.le_add_right _ _))) (jk_tl b)⟩) (fun {p l e R s m args below meth c0 H locs Q A dC dI dA} ad la hx hb hts hown hK hA hSF hM0 hP hD hS kk => ?_) kk
  exact vk_getf hx hb (hSF.2.2.2.2.2.2 i hi).2.2.2.1 hS hown (hts _ hlk) (fun _ h9 => h9) hd (kk H locs hP hD hS)
theorem jr_strC (h : Ok κ own cc nL ret) {index i : Nat} (hi : i < 58) (hlk : Cond.fieldLink own index "java/lang/String" "coder" "B" ∈ wsL_law) (hd : decode cc pc = .ok (.getfield index, 3)) (kk : J κ nL c sl n (pc + 3) ls (jI 0 :: st) M) : J κ nL c sl n pc ls (.ref (1000000 + 100 + i) :: st) M := by
  refine jr_liftM h (fun a b => ⟨a, jk_cons jok_i (jk_tl b)⟩) (fun {p l e R s m args below meth c0 H locs Q A dC dI dA} ad la hx hb hts hown hK hA hSF hM0 hP hD hS kk => ?_) kk
  exact vk_getf hx hb (hSF.2.2.2.2.2.2 i hi).2.2.1 hS hown (hts _ hlk) (fun _ h9 => h9) hd (kk H locs hP hD hS)
theorem jr_strL (h : Ok κ own cc nL ret) {i : Nat} (hi : i < 58) (hd : decode cc pc = .ok (.arraylength, 1)) (kk : J κ nL c sl n (pc + 1) ls (jI ((jtxt i).length : Int) :: st) M) : J κ nL c sl n pc ls (.ref (1000000 + 200 + i) :: st) M := by
  refine jr_liftM h (fun a b => ⟨a, jk_cons jok_i (jk_tl b)⟩) (fun {p l e R s m args below meth c0 H locs Q A dC dI dA} ad la hx hb hts hown hK hA hSF hM0 hP hD hS kk => ?_) kk
  exact va_tlen hx hb (hSF.2.2.2.2.2.2 i hi).2.2.2.2 hS (v := Int32.ofInt ((jtxt i).length : Int)) rfl hd (kk H locs hP hD hS)
theorem jr_strB (h : Ok κ own cc nL ret) {i : Nat} {j : Int} (hi : i < 58) (hd : decode cc pc = .ok (.baload, 1)) (hj : 0 ≤ j ∧ j < (jtxt i).length ∧ j < 2147483648) (kk : J κ nL c sl n (pc + 1) ls (jI ((jtxt i).getD j.toNat 0) :: st) M) : J κ nL c sl n pc ls (jI j :: .ref (1000000 + 200 + i) :: st) M := by
  refine jr_liftM h (fun a b => ⟨a, jk_cons jok_i (jk_tl (jk_tl b))⟩) (fun {p l e R s m args below meth c0 H locs Q A dC dI dA} ad la hx hb hts hown hK hA hSF hM0 hP hD hS kk => ?_) kk
  refine va_tb hx hb (hSF.2.2.2.2.2.2 i hi).2.2.2.2 hS (ji_in hj) (v := .int (Int32.ofInt ((jtxt i).getD j.toNat 0))) ?_ hd (kk H locs hP hD hS)
  rw [ji_cl (by omega)]
theorem jr_getq (h : Ok κ own cc nL ret) {index : Nat} (hlk : Cond.fieldLink own index "jdk/internal/util/Preconditions" "SIOOBE_FORMATTER" "Ljava/util/function/BiFunction;" ∈ wsL_law) (hd : decode cc pc = .ok (.getstatic index, 3)) (kk : ∀ v : Value, v = .null ∨ v = .ref 1000998 → J κ nL c sl n (pc + 3) ls (v :: st) M) : J κ nL c sl n pc ls st M := by
  intro ad H locs la h1 h2 h3 h4 h5 h6 hP hD hS hl
  have hq : jSio ad κ.2.2.2.2.2.2.2.2.2.2.2.1 κ.2.2.2.2.1 κ.2.2.2.2.1.heap := by
    obtain ⟨p, l, e, R, s, m, args, below, meth, c0, Q, A, dC, dI, dA, n0, ad0⟩ := κ
    obtain ⟨hx, hb, hml, hown, hts, hK, hr, hlk, hA, hSF⟩ := h
    exact (hSF.ad (fun k hk => h1 k (Or.inr hk))).2.2.2.1
  obtain ⟨p, l, e, R, s, m, args, below, meth, c0, Q, A, dC, dI, dA, n0, ad0⟩ := κ
  obtain ⟨hx, hb, hml, hown, hts, hK, hr, hlk2, hA, hSF⟩ := h
  rcases hq with q | q
  · exact va_gets hx hb q hS hown (hts _ hlk) (fun _ h9 => h9) hd (kk .null (Or.inl rfl) ad H locs la h1 h2 h3 h4 h5 (jk_cons (v := .null) trivial h6) hP hD hS hl)
  · exact va_gets hx hb q hS hown (hts _ hlk) (fun _ h9 => h9) hd (kk (.ref 1000998) (Or.inr rfl) ad H locs la h1 h2 h3 h4 h5 (jk_cons (v := .ref 1000998) (Or.inr (Nat.le_of_ble_eq_true rfl)) h6) hP hD hS hl)
theorem jr_i2c (h : Ok κ own cc nL ret) {x : Int} (hx0 : 0 ≤ x ∧ x < 65536) (hd : decode cc pc = .ok (.i2c, 1)) (k : J κ nL c sl n (pc + 1) ls (jI x :: st) M) : J κ nL c sl n pc ls (jI x :: st) M :=
  jr_lift h (fun a b => ⟨a, jk_cons jok_i (jk_tl b)⟩) (fun ad la hx hb hts hown hl kk => lv_i2c hx hb hd (v := Int32.ofInt x) (by
    apply Int32.toInt_inj.mp
    have e1 : (Int32.ofInt x).toUInt32.toNat = x.toNat := by
      have : (Int32.ofInt x).toInt = x := ji_to (by omega)
      have e2 : (Int32.ofInt x).toUInt32.toNat = ((Int32.ofInt x).toBitVec).toNat := rfl
      have e3 := BitVec.toInt_eq_toNat_cond (Int32.ofInt x).toBitVec
      have e4 : (Int32.ofInt x).toBitVec.toInt = x := this
      rw [e4] at e3
      rw [e2]
      split at e3 <;> omega
    have e5 : (Int32.ofInt x).toUInt32 % 65536 = (Int32.ofInt x).toUInt32 := by
      apply UInt32.toNat_inj.mp
      rw [UInt32.toNat_mod, e1]
      exact Nat.mod_eq_of_lt (show x.toNat < 65536 by omega)
    rw [e5]; rfl) (kk la hl)) k
theorem jr_invVS {Post : Option Value → Nat → jdM → Prop} (h : Ok κ own cc nL ret) {l : Launch} (hlκ : κ.2.1 = l) {fr lo ce sl0 : Nat} (hRm : Rm κ fr lo ce sl0) {y : MethodName} {bytes : ByteArray} {maxL : Nat} {ret' : Option FieldType} {rm : Room} {index : Nat} {k : Nat} {vs rest : List Value} (hi58 : k < 58) (hyC : y.cls = "java/lang/String")
    (w1 : Cond.methodLink own index y ∈ wsL_law) (w2 : Cond.instanceMethod y ∈ wsL_law) (w3 : Cond.selects "java/lang/String" y y ∈ wsL_law) (w4 : Cond.initialized "java/lang/String" ∈ wsL_law) (w5 : Cond.code y bytes maxL ret' ∈ wsL_law) (hnm : y.cls ≠ "java/lang/invoke/MethodHandle" ∧ y.cls ≠ "java/lang/invoke/VarHandle" ∧ (parseMethodDescriptor y.desc).map (fun d => d.parameters.length) = some vs.length) (hd : decode cc pc = .ok (.invokevirtual index, 3))
    (hroom : rm.frames + 1 ≤ fr ∧ 8 + (maxL + 11) + rm.locals ≤ lo ∧ c + rm.cells ≤ ce ∧ sl + rm.slots ≤ sl0) (hcat : (rest.map fun v => v.category).sum ≤ 8) (hst : st = vs.reverse ++ .ref (1000000 + 100 + k) :: rest)
    (hC : Ct l y bytes maxL ret' rm (.ref (1000000 + 100 + k) :: vs) n M Post) (kk : ∀ (v : Option Value) (n' : Nat) (M' : jdM), n ≤ n' → Post v n' M' → J κ nL (c + rm.cells) (sl + rm.slots) n' (pc + 3) ls (v.toList ++ rest) M') : J κ nL c sl n pc ls st M := by
  obtain ⟨p, l2, e, R, s, m, args, below, meth, c0, Q, A, dC, dI, dA, n0, ad0⟩ := κ
  obtain ⟨hx, hb, hml, hown, hts, hK, hr, hlk, hA, hSF⟩ := h
  obtain ⟨r1, r2, r3, r4⟩ := hRm
  cases hlκ
  subst hst
  intro ad H locs la h1 h2 h3 h4 h5 h6 hP hD hS hl
  have hF := jr_F hD hS hA
  have hvs : ∀ v ∈ Value.ref (1000000 + 100 + k) :: vs, jok n v := fun v hv => h6 v (by
    rcases List.mem_cons.mp hv with q | q
    · subst q; simp
    · simp [q])
  have hrest : ∀ v ∈ rest, jok n v := fun v hv => h6 v (by simp [hv])
  have hg : GoodIn wsL_law (wsV own index "java/lang/String" y (Cond.code y bytes maxL ret' :: wsL_law)) := by
    intro w hw
    have hm : w ∈ wsL_law := by
      unfold wsV at hw
      simp only [List.cons_append, List.nil_append, List.mem_cons] at hw
      rcases hw with rfl | rfl | rfl | rfl | rfl | hw
      · exact w1
      · exact w2
      · exact w3
      · exact w4
      · exact w5
      · exact hw
    exact wsL_ok w hm
  refine jr_ran (mc := rm.cells) (ms := rm.slots) (va_runV (nL := nL) (cc := cc) (Ts := wsL_law) (own := own) (As := vs.map (jv ad)) (rest := rest.map (jv ad)) (b := ad (1000000 + 100 + k)) ⟨hx, hb, hml, hown, hts⟩ (hC dC dI dA ad H.size) (cwV (vs.map (jv ad)).length hts hg rfl rfl rfl ⟨hyC, hnm.1, hnm.2.1, by rw [List.length_map]; exact hnm.2.2⟩ ⟨Nat.le_trans hroom.1 r1, Nat.le_trans hroom.2.1 r2⟩) ⟨jPc_blind, (by obtain ⟨cell, g1, g2, g3, -⟩ := (((hSF.ad (fun k hk => h1 k (Or.inr hk))).2.2.2.2.2.2 k hi58).2.1).kept hS.2.1; exact ⟨cell, g1, g2, g3⟩), jr_pre h3 h4 hvs hP hD hS hF hK (hSF.ad (fun k hk => h1 k (Or.inr hk)))⟩ rfl rfl hl.1 ?_ ?_ hd ⟨Nat.le_trans hroom.2.2.1 r3, Nat.le_trans hroom.2.2.2 r4⟩) h1 h2 h5 hrest hS hF hl kk
  · simp [jv]
  · refine lv_room ?_
    rw [List.map_map, show ((fun v : Value => v.category) ∘ jv ad) = fun v => v.category from funext (fun v => jv_cat ad v)]
    exact hcat
end JY
theorem jr_aald5 {κ : jC} {own : String} {cc : ByteArray} {nL : Nat} {ret : Option FieldType} {c sl n pc : Nat} {ls : List (Option Value)} {st : List Value} {M : jdM} (h : Ok κ own cc nL ret) {k len : Nat} (y : Nat) {f : Nat → Option Nat} {i : Int} (hd : decode cc pc = .ok (.aaload, 1)) (hM : M k = jdR 5 len f) (hk : k < n) (hi : 0 ≤ i ∧ i < len ∧ i < 2147483648) (hy : f i.toNat = some y) (kk : J κ nL c sl n (pc + 1) ls (.ref y :: st) M) : J κ nL c sl n pc ls (jI i :: .ref k :: st) M := by
  refine jr_liftM h (fun a b => ⟨a, jk_cons (v := .ref y) (Or.inl ?_) (jk_tl (jk_tl b))⟩) (fun {p l e R s m args below meth c0 H locs Q A dC dI dA} ad la hx hb hts hown hK hA hSF hM0 hP hD hS kk => ?_) kk
  · have := a k hk
    rw [hM] at this
    exact this _ _ hy
  · have hin := ji_in hi
    have hlt : (Int32.ofInt i).toNatClampNeg < len := Nat.not_le.mp fun q => hin (Or.inr q)
    have ha : (jW dA ad n M)[k]? = some (ad k, .inl (dA 5, len, .inr (.inr (.inr (.inr (fun j => (f j).map ad)))))) := by rw [jW_get hk, hM]; rfl
    refine W.aald (v := va_rf ((f (Int32.ofInt i).toNatClampNeg).map ad)) (ty := .array .int) hx hb (hP k _ ha) ((hK.2 5 _ rfl).1 len (fun j => va_rf ((f j).map ad))) rfl (fun q => by cases q) (by show ¬ (_ < 0 ∨ (arrV _ _ _).slots.size ≤ _); rw [arrV_size]; exact hin) (by show (arrV _ _ _).slots[_]? = _; rw [arrV_read _ _ hlt]) rfl rfl hd ?_
    rw [ji_cl (by omega), hy]
    exact kk H locs hP hD hS
