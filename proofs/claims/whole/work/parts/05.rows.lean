/-! 05: the rows of J: an instruction a row -/
theorem jk_cons {P : Value → Prop} {v : Value} {st : List Value} (hv : P v) (h : ∀ w ∈ st, P w) : ∀ w ∈ v :: st, P w := fun w hw => (List.mem_cons.mp hw).elim (fun e => e ▸ hv) (h w)
theorem jok_i {n : Nat} {x : Int32} : jok n (.int x) := trivial
theorem jok_l {n : Nat} {x : Int64} : jok n (.long x) := trivial
theorem jok_nu {n : Nat} : jok n .null := trivial
theorem jk_tl {P : Value → Prop} {v : Value} {st : List Value} (h : ∀ w ∈ v :: st, P w) : ∀ w ∈ st, P w := fun w hw => h w (List.mem_cons_of_mem _ hw)
theorem jk_hd {P : Value → Prop} {v : Value} {st : List Value} (h : ∀ w ∈ v :: st, P w) : P v := h v List.mem_cons_self
theorem ji_lt {a b : Int} (ha : -2147483648 ≤ a ∧ a < 2147483648) (hb : -2147483648 ≤ b ∧ b < 2147483648) : Int32.ofInt a < Int32.ofInt b ↔ a < b := by
  rw [Int32.lt_iff_toInt_lt, Int32.toInt_ofInt_of_le (by omega) (by omega), Int32.toInt_ofInt_of_le (by omega) (by omega)]
theorem ji_le {a b : Int} (ha : -2147483648 ≤ a ∧ a < 2147483648) (hb : -2147483648 ≤ b ∧ b < 2147483648) : Int32.ofInt a ≤ Int32.ofInt b ↔ a ≤ b := by
  rw [Int32.le_iff_toInt_le, Int32.toInt_ofInt_of_le (by omega) (by omega), Int32.toInt_ofInt_of_le (by omega) (by omega)]
theorem ji_to {a : Int} (ha : -2147483648 ≤ a ∧ a < 2147483648) : (Int32.ofInt a).toInt = a := Int32.toInt_ofInt_of_le (by omega) (by omega)
theorem ji_eq {a b : Int} (ha : -2147483648 ≤ a ∧ a < 2147483648) (hb : -2147483648 ≤ b ∧ b < 2147483648) : Int32.ofInt a = Int32.ofInt b ↔ a = b := by
  constructor
  · intro h
    rw [← ji_to ha, h, ji_to hb]
  · intro h; rw [h]
theorem ji_0 : (0 : Int32) = Int32.ofInt 0 := rfl
theorem ji_z : (-2147483648 : Int) ≤ 0 ∧ (0 : Int) < 2147483648 := by omega
section JR
variable {κ : jC} {own : String} {cc : ByteArray} {nL : Nat} {ret : Option FieldType} {c sl n pc : Nat} {ls ls' : List (Option Value)} {st : List Value} {M : jdM}
theorem jr_lift (h : Ok κ own cc nL ret) {pc' : Nat} {st' : List Value}
    (hw : (∀ v, some v ∈ ls → jok n v) → (∀ v ∈ st, jok n v) → (∀ v, some v ∈ ls' → jok n v) ∧ (∀ v ∈ st', jok n v))
    (hs : ∀ {p : Program} {l : Launch} {e : Env} {R : Room} {s : State} {m : MethodId} {args : Array Value} {below : List Frame} {meth : Method} {c0 : Code} {H : Heap} {locs : List Loc} {Q : State → Prop} (ad : Nat → Nat) (la : Array Slot), p.tables.exec = Jvm.exec → c0.code = cc → (∀ w ∈ wsL_law, w.before args s = true) → s.vm.findClass own = some m.cls → lv_has la nL (jls ad 0 ls) → (∀ la', lv_has la' nL (jls ad 0 ls') → W p l e R s m args below meth c0 H locs c sl Q (F0 m pc' la' (st'.map (jv ad)))) → W p l e R s m args below meth c0 H locs c sl Q (F0 m pc la (st.map (jv ad))))
    (k : J κ nL c sl n pc' ls' st' M) : J κ nL c sl n pc ls st M := by
  obtain ⟨p, l, e, R, s, m, args, below, meth, c0, Q, A, dC, dI, dA, n0, ad0⟩ := κ
  obtain ⟨hx, hb, hml, hown, hts, hK, hr, hlk, hA, hSF⟩ := h
  intro ad H locs la h1 h2 h3 h4 h5 h6 hP hD hS hl
  obtain ⟨g1, g2⟩ := hw h5 h6
  exact hs ad la hx hb hts hown hl (fun la' hl' => k ad H locs la' h1 h2 h3 h4 g1 g2 hP hD hS hl')
theorem jr_pcs {pc' : Nat} (e : pc' = pc) (k : J κ nL c sl n pc' ls st M) : J κ nL c sl n pc ls st M := e ▸ k
/-- other locals: some are forgotten -/
theorem jr_drop (h : Ok κ own cc nL ret) (hd : ∀ (j : Nat) (v : Value), ls'[j]? = some (some v) → ls[j]? = some (some v)) (k : J κ nL c sl n pc ls' st M) : J κ nL c sl n pc ls st M :=
  jr_lift h (fun a b => ⟨fun v hv => by obtain ⟨j, hj⟩ := List.getElem?_of_mem hv; exact a v (List.mem_of_getElem? (hd j v hj)), b⟩)
    (fun ad la _ _ _ _ hl kk => kk la ⟨hl.1, hl.2.1, fun q hq => by
      obtain ⟨j, v, h1, rfl⟩ := jls_of hq
      exact hl.2.2 _ (jls_mem (hd j v h1))⟩) k
theorem jr_iconst (h : Ok κ own cc nL ret) {z : Int} (hd : decode cc pc = .ok (.iconst z, 1)) (k : J κ nL c sl n (pc + 1) ls (jI z :: st) M) : J κ nL c sl n pc ls (st) M :=
  jr_lift h (fun a b => ⟨a, jk_cons jok_i b⟩) (fun ad la hx hb hts hown hl kk => lv_iconst hx hb hd rfl (kk la hl)) k
theorem jr_bipush (h : Ok κ own cc nL ret) {z : Int} (hd : decode cc pc = .ok (.bipush z, 2)) (hv : (Int8.ofInt z).toInt32 = Int32.ofInt z) (k : J κ nL c sl n (pc + 2) ls (jI z :: st) M) : J κ nL c sl n pc ls (st) M :=
  jr_lift h (fun a b => ⟨a, jk_cons jok_i b⟩) (fun ad la hx hb hts hown hl kk => lv_bipush hx hb hd hv (kk la hl)) k
theorem jr_sipush (h : Ok κ own cc nL ret) {z : Int} (hd : decode cc pc = .ok (.sipush z, 3)) (hv : (Int16.ofInt z).toInt32 = Int32.ofInt z) (k : J κ nL c sl n (pc + 3) ls (jI z :: st) M) : J κ nL c sl n pc ls (st) M :=
  jr_lift h (fun a b => ⟨a, jk_cons jok_i b⟩) (fun ad la hx hb hts hown hl kk => lv_sipush hx hb hd hv (kk la hl)) k
theorem jr_lconst (h : Ok κ own cc nL ret) {z : Fin 2} (hd : decode cc pc = .ok (.lconst z, 1)) (k : J κ nL c sl n (pc + 1) ls (jL ((z : Nat) : Int) :: st) M) : J κ nL c sl n pc ls (st) M :=
  jr_lift h (fun a b => ⟨a, jk_cons jok_l b⟩) (fun ad la hx hb hts hown hl kk => lv_lconst hx hb hd (by match z with | 0 => rfl | 1 => rfl) (kk la hl)) k
theorem jr_ldc (h : Ok κ own cc nL ret) {i : Nat} {x : Int32} (hd : decode cc pc = .ok (.ldc i, 2)) (hc : Jvm.Cond.constant own i x ∈ wsL_law) (k : J κ nL c sl n (pc + 2) ls (.int x :: st) M) : J κ nL c sl n pc ls (st) M :=
  jr_lift h (fun a b => ⟨a, jk_cons jok_i b⟩) (fun ad la hx hb hts hown hl kk => lv_ldc hx hb hown (hts _ hc) hd (kk la hl)) k
theorem jr_ldcw (h : Ok κ own cc nL ret) {i : Nat} {x : Int32} (hd : decode cc pc = .ok (.ldc_w i, 3)) (hc : Jvm.Cond.constant own i x ∈ wsL_law) (k : J κ nL c sl n (pc + 3) ls (.int x :: st) M) : J κ nL c sl n pc ls (st) M :=
  jr_lift h (fun a b => ⟨a, jk_cons jok_i b⟩) (fun ad la hx hb hts hown hl kk => lv_ldcw hx hb hown (hts _ hc) hd (kk la hl)) k
theorem jr_ldc2 (h : Ok κ own cc nL ret) {i : Nat} {x : Int64} (hd : decode cc pc = .ok (.ldc2_w i, 3)) (hc : Jvm.Cond.constantLong own i x ∈ wsL_law) (k : J κ nL c sl n (pc + 3) ls (.long x :: st) M) : J κ nL c sl n pc ls (st) M :=
  jr_lift h (fun a b => ⟨a, jk_cons jok_l b⟩) (fun ad la hx hb hts hown hl kk => lv_ldc2 hx hb hown (hts _ hc) hd (kk la hl)) k
theorem jr_aconst_null (h : Ok κ own cc nL ret)  (hd : decode cc pc = .ok (.aconst_null, 1)) (k : J κ nL c sl n (pc + 1) ls (.null :: st) M) : J κ nL c sl n pc ls (st) M :=
  jr_lift h (fun a b => ⟨a, jk_cons jok_nu b⟩) (fun ad la hx hb hts hown hl kk => lv_null hx hb hd (kk la hl)) k
theorem jr_iload_n (h : Ok κ own cc nL ret) {i : Fin 4} {x : Int32} (hd : decode cc pc = .ok (.iload_n i, 1)) (hi : ls[(i : Nat)]? = some (some (.int x))) (k : J κ nL c sl n (pc + 1) ls (.int x :: st) M) : J κ nL c sl n pc ls (st) M :=
  jr_lift h (fun a b => ⟨a, jk_cons (a _ (List.mem_of_getElem? hi)) b⟩) (fun ad la hx hb hts hown hl kk => lv_iload_n hx hb hd rfl (jls_at hl hi) (kk la hl)) k
theorem jr_iload (h : Ok κ own cc nL ret) {i : Nat} {x : Int32} (hd : decode cc pc = .ok (.iload i, 2)) (hi : ls[i]? = some (some (.int x))) (k : J κ nL c sl n (pc + 2) ls (.int x :: st) M) : J κ nL c sl n pc ls (st) M :=
  jr_lift h (fun a b => ⟨a, jk_cons (a _ (List.mem_of_getElem? hi)) b⟩) (fun ad la hx hb hts hown hl kk => lv_iload hx hb hd (jls_at hl hi) (kk la hl)) k
theorem jr_istore_n (h : Ok κ own cc nL ret) {i : Fin 4} {x : Int32} (ls' : List (Option Value)) (hd : decode cc pc = .ok (.istore_n i, 1)) (hn : (i : Nat) < nL) (hls : jst (.int x) (i : Nat) ls = ls') (k : J κ nL c sl n (pc + 1) ls' st M) : J κ nL c sl n pc ls (.int x :: st) M := by
  subst hls
  exact jr_lift h (fun a b => ⟨jst_ok a (jk_hd b), jk_tl b⟩) (fun ad la hx hb hts hown hl kk => lv_istore_n hx hb hd rfl hl hn rfl (fun la' hl' => kk la' (jls_st hl'))) k
theorem jr_istore (h : Ok κ own cc nL ret) {i : Nat} {x : Int32} (ls' : List (Option Value)) (hd : decode cc pc = .ok (.istore i, 2)) (hn : i < nL) (hls : jst (.int x) i ls = ls') (k : J κ nL c sl n (pc + 2) ls' st M) : J κ nL c sl n pc ls (.int x :: st) M := by
  subst hls
  exact jr_lift h (fun a b => ⟨jst_ok a (jk_hd b), jk_tl b⟩) (fun ad la hx hb hts hown hl kk => lv_istore hx hb hd hl hn rfl (fun la' hl' => kk la' (jls_st hl'))) k
theorem jr_lload_n (h : Ok κ own cc nL ret) {i : Fin 4} {x : Int64} (hd : decode cc pc = .ok (.lload_n i, 1)) (hi : ls[(i : Nat)]? = some (some (.long x))) (k : J κ nL c sl n (pc + 1) ls (.long x :: st) M) : J κ nL c sl n pc ls (st) M :=
  jr_lift h (fun a b => ⟨a, jk_cons (a _ (List.mem_of_getElem? hi)) b⟩) (fun ad la hx hb hts hown hl kk => lv_lload_n hx hb hd rfl (jls_at hl hi) (kk la hl)) k
theorem jr_lload (h : Ok κ own cc nL ret) {i : Nat} {x : Int64} (hd : decode cc pc = .ok (.lload i, 2)) (hi : ls[i]? = some (some (.long x))) (k : J κ nL c sl n (pc + 2) ls (.long x :: st) M) : J κ nL c sl n pc ls (st) M :=
  jr_lift h (fun a b => ⟨a, jk_cons (a _ (List.mem_of_getElem? hi)) b⟩) (fun ad la hx hb hts hown hl kk => lv_lload hx hb hd (jls_at hl hi) (kk la hl)) k
theorem jr_lstore_n (h : Ok κ own cc nL ret) {i : Fin 4} {x : Int64} (ls' : List (Option Value)) (hd : decode cc pc = .ok (.lstore_n i, 1)) (hn : (i : Nat) + 1 < nL) (hls : jst2 (.long x) (i : Nat) ls = ls') (k : J κ nL c sl n (pc + 1) ls' st M) : J κ nL c sl n pc ls (.long x :: st) M := by
  subst hls
  exact jr_lift h (fun a b => ⟨jst2_ok a (jk_hd b), jk_tl b⟩) (fun ad la hx hb hts hown hl kk => lv_lstore_n hx hb hd rfl hl hn rfl (fun la' hl' => kk la' (jls_st2 hl'))) k
theorem jr_lstore (h : Ok κ own cc nL ret) {i : Nat} {x : Int64} (ls' : List (Option Value)) (hd : decode cc pc = .ok (.lstore i, 2)) (hn : i + 1 < nL) (hls : jst2 (.long x) i ls = ls') (k : J κ nL c sl n (pc + 2) ls' st M) : J κ nL c sl n pc ls (.long x :: st) M := by
  subst hls
  exact jr_lift h (fun a b => ⟨jst2_ok a (jk_hd b), jk_tl b⟩) (fun ad la hx hb hts hown hl kk => lv_lstore hx hb hd hl hn rfl (fun la' hl' => kk la' (jls_st2 hl'))) k
theorem jr_aload_n (h : Ok κ own cc nL ret) {i : Fin 4} {x : Nat} (hd : decode cc pc = .ok (.aload_n i, 1)) (hi : ls[(i : Nat)]? = some (some (.ref x))) (k : J κ nL c sl n (pc + 1) ls (.ref x :: st) M) : J κ nL c sl n pc ls (st) M :=
  jr_lift h (fun a b => ⟨a, jk_cons (a _ (List.mem_of_getElem? hi)) b⟩) (fun ad la hx hb hts hown hl kk => lv_aload_n hx hb hd rfl (jls_at hl hi) (kk la hl)) k
theorem jr_aload (h : Ok κ own cc nL ret) {i : Nat} {x : Nat} (hd : decode cc pc = .ok (.aload i, 2)) (hi : ls[i]? = some (some (.ref x))) (k : J κ nL c sl n (pc + 2) ls (.ref x :: st) M) : J κ nL c sl n pc ls (st) M :=
  jr_lift h (fun a b => ⟨a, jk_cons (a _ (List.mem_of_getElem? hi)) b⟩) (fun ad la hx hb hts hown hl kk => lv_aload hx hb hd (jls_at hl hi) (kk la hl)) k
theorem jr_astore_n (h : Ok κ own cc nL ret) {i : Fin 4} {x : Nat} (ls' : List (Option Value)) (hd : decode cc pc = .ok (.astore_n i, 1)) (hn : (i : Nat) < nL) (hls : jst (.ref x) (i : Nat) ls = ls') (k : J κ nL c sl n (pc + 1) ls' st M) : J κ nL c sl n pc ls (.ref x :: st) M := by
  subst hls
  exact jr_lift h (fun a b => ⟨jst_ok a (jk_hd b), jk_tl b⟩) (fun ad la hx hb hts hown hl kk => lv_astore_n hx hb hd rfl hl hn rfl (fun la' hl' => kk la' (jls_st hl'))) k
theorem jr_astore (h : Ok κ own cc nL ret) {i : Nat} {x : Nat} (ls' : List (Option Value)) (hd : decode cc pc = .ok (.astore i, 2)) (hn : i < nL) (hls : jst (.ref x) i ls = ls') (k : J κ nL c sl n (pc + 2) ls' st M) : J κ nL c sl n pc ls (.ref x :: st) M := by
  subst hls
  exact jr_lift h (fun a b => ⟨jst_ok a (jk_hd b), jk_tl b⟩) (fun ad la hx hb hts hown hl kk => lv_astore hx hb hd hl hn rfl (fun la' hl' => kk la' (jls_st hl'))) k
theorem jr_iinc (h : Ok κ own cc nL ret) {i : Nat} {z x : Int} (ls' : List (Option Value)) (hd : decode cc pc = .ok (.iinc i z, 3)) (hn : i < nL) (hi : ls[i]? = some (some (jI x))) (hls : jst (jI (x + z)) i ls = ls') (k : J κ nL c sl n (pc + 3) ls' st M) : J κ nL c sl n pc ls st M := by
  subst hls
  refine jr_lift h (fun a b => ⟨jst_ok (v := jI (x + z)) a jok_i, b⟩) (fun ad la hx hb hts hown hl kk => ?_) k
  obtain ⟨j, hj⟩ := List.getElem?_of_mem (jls_mem (ad := ad) (i := 0) hi)
  rw [Nat.zero_add] at hj
  exact lv_iinc hx hb hd hl hj (v := Int32.ofInt (x + z)) (by rw [Int32.ofInt_add]) hn rfl (fun la' hl' => kk la' (jls_st (v := jI (x + z)) hl'))
theorem jr_iadd (h : Ok κ own cc nL ret) {x y : Int} (hd : decode cc pc = .ok (.iadd, 1)) (k : J κ nL c sl n (pc + 1) ls (jI (x + y) :: st) M) : J κ nL c sl n pc ls (jI y :: jI x :: st) M :=
  jr_lift h (fun a b => ⟨a, jk_cons jok_i (jk_tl (jk_tl b))⟩) (fun ad la hx hb hts hown hl kk => lv_iadd hx hb hd (by have := kk la hl; rw [List.map_cons, show jv ad (jI (x + y)) = .int (Int32.ofInt x + Int32.ofInt y) from congrArg Value.int (Int32.ofInt_add _ _)] at this; exact this)) k
theorem jr_isub (h : Ok κ own cc nL ret) {x y : Int} (hd : decode cc pc = .ok (.isub, 1)) (k : J κ nL c sl n (pc + 1) ls (jI (x - y) :: st) M) : J κ nL c sl n pc ls (jI y :: jI x :: st) M :=
  jr_lift h (fun a b => ⟨a, jk_cons jok_i (jk_tl (jk_tl b))⟩) (fun ad la hx hb hts hown hl kk => lv_isub hx hb hd (by have := kk la hl; rw [List.map_cons, show jv ad (jI (x - y)) = .int (Int32.ofInt x - Int32.ofInt y) from congrArg Value.int (Int32.ofInt_sub _ _)] at this; exact this)) k
theorem jr_imul (h : Ok κ own cc nL ret) {x y : Int} (hd : decode cc pc = .ok (.imul, 1)) (k : J κ nL c sl n (pc + 1) ls (jI (x * y) :: st) M) : J κ nL c sl n pc ls (jI y :: jI x :: st) M :=
  jr_lift h (fun a b => ⟨a, jk_cons jok_i (jk_tl (jk_tl b))⟩) (fun ad la hx hb hts hown hl kk => lv_imul hx hb hd (by have := kk la hl; rw [List.map_cons, show jv ad (jI (x * y)) = .int (Int32.ofInt x * Int32.ofInt y) from congrArg Value.int (Int32.ofInt_mul _ _)] at this; exact this)) k
theorem jr_ladd (h : Ok κ own cc nL ret) {x y : Int} (hd : decode cc pc = .ok (.ladd, 1)) (k : J κ nL c sl n (pc + 1) ls (jL (x + y) :: st) M) : J κ nL c sl n pc ls (jL y :: jL x :: st) M :=
  jr_lift h (fun a b => ⟨a, jk_cons jok_l (jk_tl (jk_tl b))⟩) (fun ad la hx hb hts hown hl kk => lv_ladd hx hb hd (by have := kk la hl; rw [List.map_cons, show jv ad (jL (x + y)) = .long (Int64.ofInt x + Int64.ofInt y) from congrArg Value.long (Int64.ofInt_add _ _)] at this; exact this)) k
theorem jr_lsub (h : Ok κ own cc nL ret) {x y : Int} (hd : decode cc pc = .ok (.lsub, 1)) (k : J κ nL c sl n (pc + 1) ls (jL (x - y) :: st) M) : J κ nL c sl n pc ls (jL y :: jL x :: st) M :=
  jr_lift h (fun a b => ⟨a, jk_cons jok_l (jk_tl (jk_tl b))⟩) (fun ad la hx hb hts hown hl kk => lv_lsub hx hb hd (by have := kk la hl; rw [List.map_cons, show jv ad (jL (x - y)) = .long (Int64.ofInt x - Int64.ofInt y) from congrArg Value.long (Int64.ofInt_sub _ _)] at this; exact this)) k
theorem jr_lmul (h : Ok κ own cc nL ret) {x y : Int} (hd : decode cc pc = .ok (.lmul, 1)) (k : J κ nL c sl n (pc + 1) ls (jL (x * y) :: st) M) : J κ nL c sl n pc ls (jL y :: jL x :: st) M :=
  jr_lift h (fun a b => ⟨a, jk_cons jok_l (jk_tl (jk_tl b))⟩) (fun ad la hx hb hts hown hl kk => lv_lmul hx hb hd (by have := kk la hl; rw [List.map_cons, show jv ad (jL (x * y)) = .long (Int64.ofInt x * Int64.ofInt y) from congrArg Value.long (Int64.ofInt_mul _ _)] at this; exact this)) k
theorem jr_iand (h : Ok κ own cc nL ret) {x y : Int32} (hd : decode cc pc = .ok (.iand, 1)) (k : J κ nL c sl n (pc + 1) ls (.int (x &&& y) :: st) M) : J κ nL c sl n pc ls (.int y :: .int x :: st) M :=
  jr_lift h (fun a b => ⟨a, jk_cons jok_i (jk_tl (jk_tl b))⟩) (fun ad la hx hb hts hown hl kk => lv_iand hx hb hd (kk la hl)) k
theorem jr_ior (h : Ok κ own cc nL ret) {x y : Int32} (hd : decode cc pc = .ok (.ior, 1)) (k : J κ nL c sl n (pc + 1) ls (.int (x ||| y) :: st) M) : J κ nL c sl n pc ls (.int y :: .int x :: st) M :=
  jr_lift h (fun a b => ⟨a, jk_cons jok_i (jk_tl (jk_tl b))⟩) (fun ad la hx hb hts hown hl kk => lv_ior hx hb hd (kk la hl)) k
theorem jr_ishl (h : Ok κ own cc nL ret) {x y : Int32} (hd : decode cc pc = .ok (.ishl, 1)) (k : J κ nL c sl n (pc + 1) ls (.int (x <<< (y &&& 31)) :: st) M) : J κ nL c sl n pc ls (.int y :: .int x :: st) M :=
  jr_lift h (fun a b => ⟨a, jk_cons jok_i (jk_tl (jk_tl b))⟩) (fun ad la hx hb hts hown hl kk => lv_ishl hx hb hd (kk la hl)) k
theorem jr_ishr (h : Ok κ own cc nL ret) {x y : Int32} (hd : decode cc pc = .ok (.ishr, 1)) (k : J κ nL c sl n (pc + 1) ls (.int (x >>> (y &&& 31)) :: st) M) : J κ nL c sl n pc ls (.int y :: .int x :: st) M :=
  jr_lift h (fun a b => ⟨a, jk_cons jok_i (jk_tl (jk_tl b))⟩) (fun ad la hx hb hts hown hl kk => lv_ishr hx hb hd (kk la hl)) k
theorem jr_lor (h : Ok κ own cc nL ret) {x y : Int64} (hd : decode cc pc = .ok (.lor, 1)) (k : J κ nL c sl n (pc + 1) ls (.long (x ||| y) :: st) M) : J κ nL c sl n pc ls (.long y :: .long x :: st) M :=
  jr_lift h (fun a b => ⟨a, jk_cons jok_l (jk_tl (jk_tl b))⟩) (fun ad la hx hb hts hown hl kk => lv_lor hx hb hd (kk la hl)) k
theorem jr_lshl (h : Ok κ own cc nL ret) {x : Int64} {y : Int32} (hd : decode cc pc = .ok (.lshl, 1)) (k : J κ nL c sl n (pc + 1) ls (.long (x <<< (y.toInt64 &&& 63)) :: st) M) : J κ nL c sl n pc ls (.int y :: .long x :: st) M :=
  jr_lift h (fun a b => ⟨a, jk_cons jok_l (jk_tl (jk_tl b))⟩) (fun ad la hx hb hts hown hl kk => lv_lshl hx hb hd rfl (kk la hl)) k
theorem jr_i2l (h : Ok κ own cc nL ret) {x : Int} (hd : decode cc pc = .ok (.i2l, 1)) (hr : -2147483648 ≤ x ∧ x < 2147483648) (k : J κ nL c sl n (pc + 1) ls (jL x :: st) M) : J κ nL c sl n pc ls (jI x :: st) M :=
  jr_lift h (fun a b => ⟨a, jk_cons jok_l (jk_tl b)⟩) (fun ad la hx hb hts hown hl kk => lv_i2l hx hb hd (v := Int64.ofInt x) (by rw [← Int64.toInt_inj, Int32.toInt_toInt64, ji_to hr, Int64.toInt_ofInt_of_le (by omega) (by omega)]) (kk la hl)) k
theorem jr_l2i (h : Ok κ own cc nL ret) {x : Int64} (hd : decode cc pc = .ok (.l2i, 1)) (k : J κ nL c sl n (pc + 1) ls (.int x.toInt32 :: st) M) : J κ nL c sl n pc ls (.long x :: st) M :=
  jr_lift h (fun a b => ⟨a, jk_cons jok_i (jk_tl b)⟩) (fun ad la hx hb hts hown hl kk => lv_l2i hx hb hd rfl (kk la hl)) k
theorem jr_i2b (h : Ok κ own cc nL ret) {x : Int32} (hd : decode cc pc = .ok (.i2b, 1)) (k : J κ nL c sl n (pc + 1) ls (.int x.toInt8.toInt32 :: st) M) : J κ nL c sl n pc ls (.int x :: st) M :=
  jr_lift h (fun a b => ⟨a, jk_cons jok_i (jk_tl b)⟩) (fun ad la hx hb hts hown hl kk => lv_i2b hx hb hd rfl (kk la hl)) k
theorem ji_div {x y : Int} (hx : -2147483648 ≤ x ∧ x < 2147483648) (hy : 0 < y ∧ y < 2147483648) : Int32.ofInt x / Int32.ofInt y = Int32.ofInt (x.tdiv y) := by
  have hb := Int.natAbs_tdiv x y
  rw [← Int32.toInt_inj, Int32.toInt_div, ji_to hx, ji_to (by omega)]
  have h1 : (x.tdiv y).natAbs ≤ x.natAbs := by rw [hb]; exact Nat.div_le_self _ _
  rw [ji_to ⟨by omega, ?_⟩]
  · exact Int.bmod_eq_of_le (by omega) (by rcases Int.lt_or_le x 0 with q | q
                                           · have := Int.tdiv_nonneg (a := -x) (b := y) (by omega) (by omega); rw [Int.neg_tdiv] at this
                                             omega
                                           · omega)
  · rcases Int.lt_or_le x 0 with q | q
    · have := Int.tdiv_nonneg (a := -x) (b := y) (by omega) (by omega); rw [Int.neg_tdiv] at this
      omega
    · omega
theorem jr_idiv (h : Ok κ own cc nL ret) {x y : Int} (hd : decode cc pc = .ok (.idiv, 1)) (hr : -2147483648 ≤ x ∧ x < 2147483648) (hy : 0 < y ∧ y < 2147483648) (k : J κ nL c sl n (pc + 1) ls (jI (x.tdiv y) :: st) M) : J κ nL c sl n pc ls (jI y :: jI x :: st) M :=
  jr_lift h (fun a b => ⟨a, jk_cons jok_i (jk_tl (jk_tl b))⟩) (fun ad la hx hb hts hown hl kk => lv_idiv hx hb hd (fun q => by rw [ji_0, ji_eq (by omega) ji_z] at q; omega) (by have := kk la hl; rw [List.map_cons, show jv ad (jI (x.tdiv y)) = .int (Int32.ofInt x / Int32.ofInt y) from congrArg Value.int (ji_div hr hy).symm] at this; exact this)) k
theorem jr_idivp (h : Ok κ own cc nL ret) {x y : Int} (hd : decode cc pc = .ok (.idiv, 1)) (hr : 0 ≤ x ∧ x < 2147483648) (hy : 0 < y ∧ y < 2147483648) (k : J κ nL c sl n (pc + 1) ls (jI (x / y) :: st) M) : J κ nL c sl n pc ls (jI y :: jI x :: st) M := by
  refine jr_idiv h hd (by omega) hy ?_
  rw [Int.tdiv_eq_ediv_of_nonneg hr.1]
  exact k
theorem jr_dup (h : Ok κ own cc nL ret) {v : Value} (hd : decode cc pc = .ok (.dup, 1)) (hv : v.category = 1) (k : J κ nL c sl n (pc + 1) ls (v :: v :: st) M) : J κ nL c sl n pc ls (v :: st) M :=
  jr_lift h (fun a b => ⟨a, jk_cons (jk_hd b) b⟩) (fun ad la hx hb hts hown hl kk => lv_dup hx hb hd (by rw [jv_cat]; exact hv) (kk la hl)) k
theorem jr_dup2 (h : Ok κ own cc nL ret) {v w : Value} (hd : decode cc pc = .ok (.dup2, 1)) (hv : v.category = 1) (hw : w.category = 1) (k : J κ nL c sl n (pc + 1) ls (v :: w :: v :: w :: st) M) : J κ nL c sl n pc ls (v :: w :: st) M :=
  jr_lift h (fun a b => ⟨a, jk_cons (jk_hd b) (jk_cons (jk_hd (jk_tl b)) b)⟩) (fun ad la hx hb hts hown hl kk => lv_dup2_11 hx hb hd (by rw [jv_cat]; exact hv) (by rw [jv_cat]; exact hw) (kk la hl)) k
theorem jr_pop (h : Ok κ own cc nL ret) {v : Value} (hd : decode cc pc = .ok (.pop, 1)) (hv : v.category = 1) (k : J κ nL c sl n (pc + 1) ls st M) : J κ nL c sl n pc ls (v :: st) M :=
  jr_lift h (fun a b => ⟨a, jk_tl b⟩) (fun ad la hx hb hts hown hl kk => lv_pop hx hb hd (by rw [jv_cat]; exact hv) (kk la hl)) k
theorem jr_goto (h : Ok κ own cc nL ret) {off : Int} (tgt : Nat) (hd : decode cc pc = .ok (.goto off, 3)) (ht : (pc : Int) + off = (tgt : Int)) (k : J κ nL c sl n tgt ls st M) : J κ nL c sl n pc ls st M :=
  jr_lift h (fun a b => ⟨a, b⟩) (fun ad la hx hb hts hown hl kk => lv_goto hx hb hd ht (kk la hl)) k
theorem jr_if_eq (h : Ok κ own cc nL ret) {x : Int} {off : Int} (tgt : Nat) (hd : decode cc pc = .ok (.ifCond .eq off, 3)) (ht : (pc : Int) + off = (tgt : Int)) (hx0 : -2147483648 ≤ x ∧ x < 2147483648) (kt : x = 0 → J κ nL c sl n tgt ls st M) (kf : x ≠ 0 → J κ nL c sl n (pc + 3) ls st M) : J κ nL c sl n pc ls (jI x :: st) M := by
  have hiff := ji_eq hx0 ji_z
  rw [← ji_0] at hiff
  by_cases hc : x = 0
  · exact jr_lift h (fun a b => ⟨a, jk_tl b⟩) (fun ad la hx hb hts hown hl kk => lv_if_eq hx hb hd ht (fun _ => kk la hl) (fun q => absurd (hiff.mpr hc) q)) (kt hc)
  · exact jr_lift h (fun a b => ⟨a, jk_tl b⟩) (fun ad la hx hb hts hown hl kk => lv_if_eq hx hb hd ht (fun q => absurd (hiff.mp q) hc) (fun _ => kk la hl)) (kf (by omega))
theorem jr_if_ne (h : Ok κ own cc nL ret) {x : Int} {off : Int} (tgt : Nat) (hd : decode cc pc = .ok (.ifCond .ne off, 3)) (ht : (pc : Int) + off = (tgt : Int)) (hx0 : -2147483648 ≤ x ∧ x < 2147483648) (kt : x ≠ 0 → J κ nL c sl n tgt ls st M) (kf : x = 0 → J κ nL c sl n (pc + 3) ls st M) : J κ nL c sl n pc ls (jI x :: st) M := by
  have hiff := ji_eq hx0 ji_z
  rw [← ji_0] at hiff
  by_cases hc : x ≠ 0
  · exact jr_lift h (fun a b => ⟨a, jk_tl b⟩) (fun ad la hx hb hts hown hl kk => lv_if_ne hx hb hd ht (fun _ => kk la hl) (fun q => absurd (hiff.mp q) hc)) (kt hc)
  · exact jr_lift h (fun a b => ⟨a, jk_tl b⟩) (fun ad la hx hb hts hown hl kk => lv_if_ne hx hb hd ht (fun q => absurd (hiff.mpr (by omega)) q) (fun _ => kk la hl)) (kf (by omega))
theorem jr_if_lt (h : Ok κ own cc nL ret) {x : Int} {off : Int} (tgt : Nat) (hd : decode cc pc = .ok (.ifCond .lt off, 3)) (ht : (pc : Int) + off = (tgt : Int)) (hx0 : -2147483648 ≤ x ∧ x < 2147483648) (kt : x < 0 → J κ nL c sl n tgt ls st M) (kf : 0 ≤ x → J κ nL c sl n (pc + 3) ls st M) : J κ nL c sl n pc ls (jI x :: st) M := by
  have hiff := ji_lt hx0 ji_z
  rw [← ji_0] at hiff
  by_cases hc : x < 0
  · exact jr_lift h (fun a b => ⟨a, jk_tl b⟩) (fun ad la hx hb hts hown hl kk => lv_if_lt hx hb hd ht (fun _ => kk la hl) (fun q => absurd (hiff.mpr hc) q)) (kt hc)
  · exact jr_lift h (fun a b => ⟨a, jk_tl b⟩) (fun ad la hx hb hts hown hl kk => lv_if_lt hx hb hd ht (fun q => absurd (hiff.mp q) hc) (fun _ => kk la hl)) (kf (by omega))
theorem jr_if_ge (h : Ok κ own cc nL ret) {x : Int} {off : Int} (tgt : Nat) (hd : decode cc pc = .ok (.ifCond .ge off, 3)) (ht : (pc : Int) + off = (tgt : Int)) (hx0 : -2147483648 ≤ x ∧ x < 2147483648) (kt : 0 ≤ x → J κ nL c sl n tgt ls st M) (kf : x < 0 → J κ nL c sl n (pc + 3) ls st M) : J κ nL c sl n pc ls (jI x :: st) M := by
  have hiff := ji_le ji_z hx0
  rw [← ji_0] at hiff
  by_cases hc : 0 ≤ x
  · exact jr_lift h (fun a b => ⟨a, jk_tl b⟩) (fun ad la hx hb hts hown hl kk => lv_if_ge hx hb hd ht (fun _ => kk la hl) (fun q => absurd (hiff.mpr hc) q)) (kt hc)
  · exact jr_lift h (fun a b => ⟨a, jk_tl b⟩) (fun ad la hx hb hts hown hl kk => lv_if_ge hx hb hd ht (fun q => absurd (hiff.mp q) hc) (fun _ => kk la hl)) (kf (by omega))
theorem jr_if_gt (h : Ok κ own cc nL ret) {x : Int} {off : Int} (tgt : Nat) (hd : decode cc pc = .ok (.ifCond .gt off, 3)) (ht : (pc : Int) + off = (tgt : Int)) (hx0 : -2147483648 ≤ x ∧ x < 2147483648) (kt : 0 < x → J κ nL c sl n tgt ls st M) (kf : x ≤ 0 → J κ nL c sl n (pc + 3) ls st M) : J κ nL c sl n pc ls (jI x :: st) M := by
  have hiff := ji_lt ji_z hx0
  rw [← ji_0] at hiff
  by_cases hc : 0 < x
  · exact jr_lift h (fun a b => ⟨a, jk_tl b⟩) (fun ad la hx hb hts hown hl kk => lv_if_gt hx hb hd ht (fun _ => kk la hl) (fun q => absurd (hiff.mpr hc) q)) (kt hc)
  · exact jr_lift h (fun a b => ⟨a, jk_tl b⟩) (fun ad la hx hb hts hown hl kk => lv_if_gt hx hb hd ht (fun q => absurd (hiff.mp q) hc) (fun _ => kk la hl)) (kf (by omega))
theorem jr_if_le (h : Ok κ own cc nL ret) {x : Int} {off : Int} (tgt : Nat) (hd : decode cc pc = .ok (.ifCond .le off, 3)) (ht : (pc : Int) + off = (tgt : Int)) (hx0 : -2147483648 ≤ x ∧ x < 2147483648) (kt : x ≤ 0 → J κ nL c sl n tgt ls st M) (kf : 0 < x → J κ nL c sl n (pc + 3) ls st M) : J κ nL c sl n pc ls (jI x :: st) M := by
  have hiff := ji_le hx0 ji_z
  rw [← ji_0] at hiff
  by_cases hc : x ≤ 0
  · exact jr_lift h (fun a b => ⟨a, jk_tl b⟩) (fun ad la hx hb hts hown hl kk => lv_if_le hx hb hd ht (fun _ => kk la hl) (fun q => absurd (hiff.mpr hc) q)) (kt hc)
  · exact jr_lift h (fun a b => ⟨a, jk_tl b⟩) (fun ad la hx hb hts hown hl kk => lv_if_le hx hb hd ht (fun q => absurd (hiff.mp q) hc) (fun _ => kk la hl)) (kf (by omega))
theorem jr_icmp_eq (h : Ok κ own cc nL ret) {x y : Int} {off : Int} (tgt : Nat) (hd : decode cc pc = .ok (.if_icmp .eq off, 3)) (ht : (pc : Int) + off = (tgt : Int)) (hx0 : -2147483648 ≤ x ∧ x < 2147483648) (hy0 : -2147483648 ≤ y ∧ y < 2147483648) (kt : x = y → J κ nL c sl n tgt ls st M) (kf : x ≠ y → J κ nL c sl n (pc + 3) ls st M) : J κ nL c sl n pc ls (jI y :: jI x :: st) M := by
  have hiff := ji_eq hx0 hy0
  by_cases hc : x = y
  · exact jr_lift h (fun a b => ⟨a, jk_tl (jk_tl b)⟩) (fun ad la hx hb hts hown hl kk => lv_icmp_eq hx hb hd ht (fun _ => kk la hl) (fun q => absurd (hiff.mpr hc) q)) (kt hc)
  · exact jr_lift h (fun a b => ⟨a, jk_tl (jk_tl b)⟩) (fun ad la hx hb hts hown hl kk => lv_icmp_eq hx hb hd ht (fun q => absurd (hiff.mp q) hc) (fun _ => kk la hl)) (kf (by omega))
theorem jr_icmp_ne (h : Ok κ own cc nL ret) {x y : Int} {off : Int} (tgt : Nat) (hd : decode cc pc = .ok (.if_icmp .ne off, 3)) (ht : (pc : Int) + off = (tgt : Int)) (hx0 : -2147483648 ≤ x ∧ x < 2147483648) (hy0 : -2147483648 ≤ y ∧ y < 2147483648) (kt : x ≠ y → J κ nL c sl n tgt ls st M) (kf : x = y → J κ nL c sl n (pc + 3) ls st M) : J κ nL c sl n pc ls (jI y :: jI x :: st) M := by
  have hiff := ji_eq hx0 hy0
  by_cases hc : x ≠ y
  · exact jr_lift h (fun a b => ⟨a, jk_tl (jk_tl b)⟩) (fun ad la hx hb hts hown hl kk => lv_icmp_ne hx hb hd ht (fun _ => kk la hl) (fun q => absurd (hiff.mp q) hc)) (kt hc)
  · exact jr_lift h (fun a b => ⟨a, jk_tl (jk_tl b)⟩) (fun ad la hx hb hts hown hl kk => lv_icmp_ne hx hb hd ht (fun q => absurd (hiff.mpr (by omega)) q) (fun _ => kk la hl)) (kf (by omega))
theorem jr_icmp_lt (h : Ok κ own cc nL ret) {x y : Int} {off : Int} (tgt : Nat) (hd : decode cc pc = .ok (.if_icmp .lt off, 3)) (ht : (pc : Int) + off = (tgt : Int)) (hx0 : -2147483648 ≤ x ∧ x < 2147483648) (hy0 : -2147483648 ≤ y ∧ y < 2147483648) (kt : x < y → J κ nL c sl n tgt ls st M) (kf : y ≤ x → J κ nL c sl n (pc + 3) ls st M) : J κ nL c sl n pc ls (jI y :: jI x :: st) M := by
  have hiff := ji_lt hx0 hy0
  by_cases hc : x < y
  · exact jr_lift h (fun a b => ⟨a, jk_tl (jk_tl b)⟩) (fun ad la hx hb hts hown hl kk => lv_icmp_lt hx hb hd ht (fun _ => kk la hl) (fun q => absurd (hiff.mpr hc) q)) (kt hc)
  · exact jr_lift h (fun a b => ⟨a, jk_tl (jk_tl b)⟩) (fun ad la hx hb hts hown hl kk => lv_icmp_lt hx hb hd ht (fun q => absurd (hiff.mp q) hc) (fun _ => kk la hl)) (kf (by omega))
theorem jr_icmp_ge (h : Ok κ own cc nL ret) {x y : Int} {off : Int} (tgt : Nat) (hd : decode cc pc = .ok (.if_icmp .ge off, 3)) (ht : (pc : Int) + off = (tgt : Int)) (hx0 : -2147483648 ≤ x ∧ x < 2147483648) (hy0 : -2147483648 ≤ y ∧ y < 2147483648) (kt : y ≤ x → J κ nL c sl n tgt ls st M) (kf : x < y → J κ nL c sl n (pc + 3) ls st M) : J κ nL c sl n pc ls (jI y :: jI x :: st) M := by
  have hiff := ji_le hy0 hx0
  by_cases hc : y ≤ x
  · exact jr_lift h (fun a b => ⟨a, jk_tl (jk_tl b)⟩) (fun ad la hx hb hts hown hl kk => lv_icmp_ge hx hb hd ht (fun _ => kk la hl) (fun q => absurd (hiff.mpr hc) q)) (kt hc)
  · exact jr_lift h (fun a b => ⟨a, jk_tl (jk_tl b)⟩) (fun ad la hx hb hts hown hl kk => lv_icmp_ge hx hb hd ht (fun q => absurd (hiff.mp q) hc) (fun _ => kk la hl)) (kf (by omega))
theorem jr_icmp_gt (h : Ok κ own cc nL ret) {x y : Int} {off : Int} (tgt : Nat) (hd : decode cc pc = .ok (.if_icmp .gt off, 3)) (ht : (pc : Int) + off = (tgt : Int)) (hx0 : -2147483648 ≤ x ∧ x < 2147483648) (hy0 : -2147483648 ≤ y ∧ y < 2147483648) (kt : y < x → J κ nL c sl n tgt ls st M) (kf : x ≤ y → J κ nL c sl n (pc + 3) ls st M) : J κ nL c sl n pc ls (jI y :: jI x :: st) M := by
  have hiff := ji_lt hy0 hx0
  by_cases hc : y < x
  · exact jr_lift h (fun a b => ⟨a, jk_tl (jk_tl b)⟩) (fun ad la hx hb hts hown hl kk => lv_icmp_gt hx hb hd ht (fun _ => kk la hl) (fun q => absurd (hiff.mpr hc) q)) (kt hc)
  · exact jr_lift h (fun a b => ⟨a, jk_tl (jk_tl b)⟩) (fun ad la hx hb hts hown hl kk => lv_icmp_gt hx hb hd ht (fun q => absurd (hiff.mp q) hc) (fun _ => kk la hl)) (kf (by omega))
theorem jr_icmp_le (h : Ok κ own cc nL ret) {x y : Int} {off : Int} (tgt : Nat) (hd : decode cc pc = .ok (.if_icmp .le off, 3)) (ht : (pc : Int) + off = (tgt : Int)) (hx0 : -2147483648 ≤ x ∧ x < 2147483648) (hy0 : -2147483648 ≤ y ∧ y < 2147483648) (kt : x ≤ y → J κ nL c sl n tgt ls st M) (kf : y < x → J κ nL c sl n (pc + 3) ls st M) : J κ nL c sl n pc ls (jI y :: jI x :: st) M := by
  have hiff := ji_le hx0 hy0
  by_cases hc : x ≤ y
  · exact jr_lift h (fun a b => ⟨a, jk_tl (jk_tl b)⟩) (fun ad la hx hb hts hown hl kk => lv_icmp_le hx hb hd ht (fun _ => kk la hl) (fun q => absurd (hiff.mpr hc) q)) (kt hc)
  · exact jr_lift h (fun a b => ⟨a, jk_tl (jk_tl b)⟩) (fun ad la hx hb hts hown hl kk => lv_icmp_le hx hb hd ht (fun q => absurd (hiff.mp q) hc) (fun _ => kk la hl)) (kf (by omega))
theorem jr_ifnull (h : Ok κ own cc nL ret) {x : Nat} {off : Int} (hd : decode cc pc = .ok (.ifnull off, 3)) (k : J κ nL c sl n (pc + 3) ls st M) : J κ nL c sl n pc ls (.ref x :: st) M :=
  jr_lift h (fun a b => ⟨a, jk_tl b⟩) (fun ad la hx hb hts hown hl kk => lv_ifnull hx hb hd (kk la hl)) k
theorem jr_ifnonnull (h : Ok κ own cc nL ret) {x : Nat} {off : Int} (tgt : Nat) (hd : decode cc pc = .ok (.ifnonnull off, 3)) (ht : (pc : Int) + off = (tgt : Int)) (k : J κ nL c sl n tgt ls st M) : J κ nL c sl n pc ls (.ref x :: st) M :=
  jr_lift h (fun a b => ⟨a, jk_tl b⟩) (fun ad la hx hb hts hown hl kk => lv_ifnonnull hx hb hd ht (kk la hl)) k
theorem jr_ifnullN (h : Ok κ own cc nL ret) {off : Int} (tgt : Nat) (hd : decode cc pc = .ok (.ifnull off, 3)) (ht : (pc : Int) + off = (tgt : Int)) (k : J κ nL c sl n tgt ls st M) : J κ nL c sl n pc ls (.null :: st) M :=
  jr_lift h (fun a b => ⟨a, jk_tl b⟩) (fun ad la hx hb hts hown hl kk => lv_ifnullN hx hb hd ht (kk la hl)) k
theorem jr_ifnonnullN (h : Ok κ own cc nL ret) {off : Int} (hd : decode cc pc = .ok (.ifnonnull off, 3)) (k : J κ nL c sl n (pc + 3) ls st M) : J κ nL c sl n pc ls (.null :: st) M :=
  jr_lift h (fun a b => ⟨a, jk_tl b⟩) (fun ad la hx hb hts hown hl kk => lv_ifnonnullN hx hb hd (kk la hl)) k
theorem jr_tableIn (h : Ok κ own cc nL ret) {dflt lo hi : Int} {offs : Array Int} {len : Nat} {x off : Int} (tgt : Nat) (hd : decode cc pc = .ok (.tableswitch dflt lo hi offs, len)) (hr : -2147483648 ≤ x ∧ x < 2147483648) (h1 : lo ≤ x) (h2 : x ≤ hi) (ho : offs[(x - lo).toNat]? = some off) (ht : (pc : Int) + off = (tgt : Int)) (k : J κ nL c sl n tgt ls st M) : J κ nL c sl n pc ls (jI x :: st) M :=
  jr_lift h (fun a b => ⟨a, jk_tl b⟩) (fun ad la hx hb hts hown hl kk => lv_tableIn hx hb hd (by rw [ji_to hr]; omega) (by rw [ji_to hr]; omega) (by rw [ji_to hr]; exact ho) ht (kk la hl)) k
theorem jr_tableOut (h : Ok κ own cc nL ret) {dflt lo hi : Int} {offs : Array Int} {len : Nat} {x : Int} (tgt : Nat) (hd : decode cc pc = .ok (.tableswitch dflt lo hi offs, len)) (hr : -2147483648 ≤ x ∧ x < 2147483648) (h1 : x < lo ∨ hi < x) (ht : (pc : Int) + dflt = (tgt : Int)) (k : J κ nL c sl n tgt ls st M) : J κ nL c sl n pc ls (jI x :: st) M :=
  jr_lift h (fun a b => ⟨a, jk_tl b⟩) (fun ad la hx hb hts hown hl kk => lv_tableOut hx hb hd (by rw [ji_to hr]; exact h1) ht (kk la hl)) k
theorem jr_lookup (h : Ok κ own cc nL ret) {dflt : Int} {ps : Array (Int × Int)} {len : Nat} {x off : Int} (tgt : Nat) (hd : decode cc pc = .ok (.lookupswitch dflt ps, len)) (hr : -2147483648 ≤ x ∧ x < 2147483648) (hp : (ps.toList.zip (ps.toList.drop 1)).all (fun (a, next) => a.1 < next.1) = true) (ho : Op.lookupswitch.offset ps.toList dflt x = off) (ht : (pc : Int) + off = (tgt : Int)) (k : J κ nL c sl n tgt ls st M) : J κ nL c sl n pc ls (jI x :: st) M :=
  jr_lift h (fun a b => ⟨a, jk_tl b⟩) (fun ad la hx hb hts hown hl kk => lv_lookup hx hb hd hp (by rw [ji_to hr]; exact ho) ht (kk la hl)) k
end JR
