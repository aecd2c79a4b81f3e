/-! 98.v: the start's world: words, classes, what the launch has made -/
theorem ba {a b : Cond} {args : Array Value} {s : State} (h : (Cond.and a b).before args s = true) : a.before args s = true ∧ b.before args s = true := by
  rw [Cond.before_and, Bool.and_eq_true] at h
  exact h
/-- what is said of an array's first places -/
def allEl (t : Term) (args : Array Value) (s : State) : Nat → List Int32 → Prop
  | _, [] => True
  | j, z :: zs => (Cond.eq (.elem t (.int (Int32.ofNat j))) (.int z)).before args s = true ∧ allEl t args s (j + 1) zs
theorem allEl_at {t : Term} {args : Array Value} {s : State} : ∀ {zs : List Int32} {j : Nat}, allEl t args s j zs → ∀ k, k < zs.length → (Term.elem t (.int (Int32.ofNat (j + k)))).eval args s none [] s = some (.int (zs.getD k 0))
  | [], j, _, k, hk => absurd hk (Nat.not_lt_zero k)
  | z :: zs, j, h, 0, _ => va_eqt h.1
  | z :: zs, j, h, k + 1, hk => by
    have := allEl_at h.2 k (Nat.lt_of_succ_lt_succ hk)
    rw [show j + 1 + k = j + (k + 1) by omega] at this
    exact this
def arrF (t : Term) (ty : FieldType) (args : Array Value) (s : State) (zs : List Int32) : Prop :=
  (Cond.arrayOf t ty).before args s = true ∧ (Cond.eq (.length t) (.int (Int32.ofNat zs.length))).before args s = true ∧ allEl t args s 0 zs
theorem arrF_w {t : Term} {ty : FieldType} {args : Array Value} {s : State} {zs : List Int32} {A : Nat → Prop} (h : arrF t ty args s zs) (hN : zs.length < 2 ^ 31) (hA : ∀ a : Nat, a < s.heap.size → ¬ A a) : ∃ v : Nat, t.eval args s none [] s = some (.ref v) ∧ va_T ty v zs.length (fun j => .int (zs.getD j 0)) A s s.heap :=
  va_Tof hN h.1 (va_eqt h.2.1) (fun j hj => by
    have := allEl_at h.2.2 j hj
    rw [Nat.zero_add] at this
    exact this) hA
abbrev tStr (own : String) (k : Nat) : Term := .string own k
abbrev tVal (own : String) (k : Nat) : Term := .field (.string own k) "java/lang/String" "value" "[B"
def strF (args : Array Value) (s : State) (own : String) (k : Nat) (zs : List Int32) : Prop :=
  (Cond.exactly (tStr own k) "java/lang/String").before args s = true ∧ (Cond.eq (.field (tStr own k) "java/lang/String" "coder" "B") (.int 0)).before args s = true ∧ arrF (tVal own k) .byte args s zs
theorem strF_w {args : Array Value} {s : State} {own : String} {k : Nat} {zs : List Int32} {A : Nat → Prop} (h : strF args s own k zs) (hN : zs.length < 2 ^ 31) (hA : ∀ a : Nat, a < s.heap.size → ¬ A a) : ∃ a v : Nat, (tStr own k).eval args s none [] s = some (.ref a) ∧ va_O "java/lang/String" a A s s.heap ∧ va_OF "java/lang/String" "coder" "B" (.int 0) a A s s.heap ∧ va_OF "java/lang/String" "value" "[B" (.ref v) a A s s.heap ∧ va_T .byte v zs.length (fun j => .int (zs.getD j 0)) A s s.heap := by
  obtain ⟨a, c, cA, kA, q1, -⟩ := Cond.exactly_spec (args := args) (first := s) (o := none) (s := s) (idx := []) (t := tStr own k) (cls := "java/lang/String") h.1
  obtain ⟨v, hv, hT⟩ := arrF_w h.2.2 hN hA
  exact ⟨a, v, q1, va_Oof h.1 q1 hA, vk_OFof q1 (va_eqt h.2.1) hA, vk_OFof q1 hv hA, hT⟩
theorem mapD {l : List Int} {j : Nat} : (l.map Int32.ofInt).getD j 0 = Int32.ofInt (l.getD j 0) := by
  rw [List.getD_eq_getElem?_getD, List.getD_eq_getElem?_getD, List.getElem?_map]
  cases l[j]? <;> rfl
theorem tx_0 : (jtxt 0).map Int32.ofInt = ([99, 97, 98, 105, 110, 32, 32, 32, 104, 101, 97, 116, 32, 32, 32, 32, 107, 105, 110, 100, 32, 32, 32, 32, 98, 97, 116, 99, 104, 32, 32, 32, 116, 111, 111, 107, 32, 32, 32, 32, 116, 114, 111, 108, 108, 101, 121, 32, 108, 111, 97, 100, 32, 32, 32, 32, 98, 108, 111, 99, 107, 32, 32, 32, 110, 97, 109, 101, 100, 32, 32, 32, 98, 101, 108, 116, 115, 32, 32, 32, 103, 97, 112, 32, 32, 32, 32, 32, 112, 97, 115, 116, 32, 32, 32, 32, 100, 114, 105, 110, 107, 32, 32, 32, 99, 104, 105, 108, 100, 32, 32, 32] : List Int32) := by decide +kernel
theorem nar_0 {args : Array Value} {s : State} (hg : narrow_1.before args s = true) : strF args s (jstr 0).1 (jstr 0).2.1 ((jtxt 0).map Int32.ofInt) := by
  rw [tx_0]
  exact ⟨(ba (ba (ba (ba (ba (ba (ba (ba (ba (ba hg).1).1).1).2).1).2).2).1).2).1, (ba (ba (ba (ba (ba (ba (ba (ba (ba (ba hg).1).1).1).2).1).2).2).1).2).2, ⟨(ba (ba (ba (ba (ba (ba (ba (ba (ba hg).1).1).1).2).1).2).2).2).1, (ba (ba (ba (ba (ba (ba (ba (ba (ba (ba hg).1).1).1).2).1).2).2).2).2).1, (ba (ba (ba (ba (ba (ba (ba (ba (ba (ba hg).1).1).1).2).1).2).2).2).2).2, (ba (ba (ba (ba (ba (ba (ba (ba (ba hg).1).1).1).2).2).1).1).1).1, (ba (ba (ba (ba (ba (ba (ba (ba (ba hg).1).1).1).2).2).1).1).1).2, (ba (ba (ba (ba (ba (ba (ba (ba (ba hg).1).1).1).2).2).1).1).2).1, (ba (ba (ba (ba (ba (ba (ba (ba (ba (ba hg).1).1).1).2).2).1).1).2).2).1, (ba (ba (ba (ba (ba (ba (ba (ba (ba (ba hg).1).1).1).2).2).1).1).2).2).2, (ba (ba (ba (ba (ba (ba (ba (ba (ba hg).1).1).1).2).2).1).2).1).1, (ba (ba (ba (ba (ba (ba (ba (ba (ba hg).1).1).1).2).2).1).2).1).2, (ba (ba (ba (ba (ba (ba (ba (ba (ba hg).1).1).1).2).2).1).2).2).1, (ba (ba (ba (ba (ba (ba (ba (ba (ba (ba hg).1).1).1).2).2).1).2).2).2).1, (ba (ba (ba (ba (ba (ba (ba (ba (ba (ba hg).1).1).1).2).2).1).2).2).2).2, (ba (ba (ba (ba (ba (ba (ba (ba (ba hg).1).1).1).2).2).2).1).1).1, (ba (ba (ba (ba (ba (ba (ba (ba (ba hg).1).1).1).2).2).2).1).1).2, (ba (ba (ba (ba (ba (ba (ba (ba (ba hg).1).1).1).2).2).2).1).2).1, (ba (ba (ba (ba (ba (ba (ba (ba (ba (ba hg).1).1).1).2).2).2).1).2).2).1, (ba (ba (ba (ba (ba (ba (ba (ba (ba (ba hg).1).1).1).2).2).2).1).2).2).2, (ba (ba (ba (ba (ba (ba (ba (ba (ba hg).1).1).1).2).2).2).2).1).1, (ba (ba (ba (ba (ba (ba (ba (ba (ba (ba hg).1).1).1).2).2).2).2).1).2).1, (ba (ba (ba (ba (ba (ba (ba (ba (ba (ba hg).1).1).1).2).2).2).2).1).2).2, (ba (ba (ba (ba (ba (ba (ba (ba (ba hg).1).1).1).2).2).2).2).2).1, (ba (ba (ba (ba (ba (ba (ba (ba (ba (ba hg).1).1).1).2).2).2).2).2).2).1, (ba (ba (ba (ba (ba (ba (ba (ba (ba (ba hg).1).1).1).2).2).2).2).2).2).2, (ba (ba (ba (ba (ba (ba (ba (ba (ba hg).1).1).2).1).1).1).1).1).1, (ba (ba (ba (ba (ba (ba (ba (ba (ba hg).1).1).2).1).1).1).1).1).2, (ba (ba (ba (ba (ba (ba (ba (ba (ba hg).1).1).2).1).1).1).1).2).1, (ba (ba (ba (ba (ba (ba (ba (ba (ba (ba hg).1).1).2).1).1).1).1).2).2).1, (ba (ba (ba (ba (ba (ba (ba (ba (ba (ba hg).1).1).2).1).1).1).1).2).2).2, (ba (ba (ba (ba (ba (ba (ba (ba (ba hg).1).1).2).1).1).1).2).1).1, (ba (ba (ba (ba (ba (ba (ba (ba (ba hg).1).1).2).1).1).1).2).1).2, (ba (ba (ba (ba (ba (ba (ba (ba (ba hg).1).1).2).1).1).1).2).2).1, (ba (ba (ba (ba (ba (ba (ba (ba (ba (ba hg).1).1).2).1).1).1).2).2).2).1, (ba (ba (ba (ba (ba (ba (ba (ba (ba (ba hg).1).1).2).1).1).1).2).2).2).2, (ba (ba (ba (ba (ba (ba (ba (ba (ba hg).1).1).2).1).1).2).1).1).1, (ba (ba (ba (ba (ba (ba (ba (ba (ba hg).1).1).2).1).1).2).1).1).2, (ba (ba (ba (ba (ba (ba (ba (ba (ba hg).1).1).2).1).1).2).1).2).1, (ba (ba (ba (ba (ba (ba (ba (ba (ba (ba hg).1).1).2).1).1).2).1).2).2).1, (ba (ba (ba (ba (ba (ba (ba (ba (ba (ba hg).1).1).2).1).1).2).1).2).2).2, (ba (ba (ba (ba (ba (ba (ba (ba (ba hg).1).1).2).1).1).2).2).1).1, (ba (ba (ba (ba (ba (ba (ba (ba (ba (ba hg).1).1).2).1).1).2).2).1).2).1, (ba (ba (ba (ba (ba (ba (ba (ba (ba (ba hg).1).1).2).1).1).2).2).1).2).2, (ba (ba (ba (ba (ba (ba (ba (ba (ba hg).1).1).2).1).1).2).2).2).1, (ba (ba (ba (ba (ba (ba (ba (ba (ba (ba hg).1).1).2).1).1).2).2).2).2).1, (ba (ba (ba (ba (ba (ba (ba (ba (ba (ba hg).1).1).2).1).1).2).2).2).2).2, (ba (ba (ba (ba (ba (ba (ba (ba (ba hg).1).1).2).1).2).1).1).1).1, (ba (ba (ba (ba (ba (ba (ba (ba (ba hg).1).1).2).1).2).1).1).1).2, (ba (ba (ba (ba (ba (ba (ba (ba (ba hg).1).1).2).1).2).1).1).2).1, (ba (ba (ba (ba (ba (ba (ba (ba (ba (ba hg).1).1).2).1).2).1).1).2).2).1, (ba (ba (ba (ba (ba (ba (ba (ba (ba (ba hg).1).1).2).1).2).1).1).2).2).2, (ba (ba (ba (ba (ba (ba (ba (ba (ba hg).1).1).2).1).2).1).2).1).1, (ba (ba (ba (ba (ba (ba (ba (ba (ba hg).1).1).2).1).2).1).2).1).2, (ba (ba (ba (ba (ba (ba (ba (ba (ba hg).1).1).2).1).2).1).2).2).1, (ba (ba (ba (ba (ba (ba (ba (ba (ba (ba hg).1).1).2).1).2).1).2).2).2).1, (ba (ba (ba (ba (ba (ba (ba (ba (ba (ba hg).1).1).2).1).2).1).2).2).2).2, (ba (ba (ba (ba (ba (ba (ba (ba (ba hg).1).1).2).1).2).2).1).1).1, (ba (ba (ba (ba (ba (ba (ba (ba (ba hg).1).1).2).1).2).2).1).1).2, (ba (ba (ba (ba (ba (ba (ba (ba (ba hg).1).1).2).1).2).2).1).2).1, (ba (ba (ba (ba (ba (ba (ba (ba (ba (ba hg).1).1).2).1).2).2).1).2).2).1, (ba (ba (ba (ba (ba (ba (ba (ba (ba (ba hg).1).1).2).1).2).2).1).2).2).2, (ba (ba (ba (ba (ba (ba (ba (ba (ba hg).1).1).2).1).2).2).2).1).1, (ba (ba (ba (ba (ba (ba (ba (ba (ba (ba hg).1).1).2).1).2).2).2).1).2).1, (ba (ba (ba (ba (ba (ba (ba (ba (ba (ba hg).1).1).2).1).2).2).2).1).2).2, (ba (ba (ba (ba (ba (ba (ba (ba (ba hg).1).1).2).1).2).2).2).2).1, (ba (ba (ba (ba (ba (ba (ba (ba (ba (ba hg).1).1).2).1).2).2).2).2).2).1, (ba (ba (ba (ba (ba (ba (ba (ba (ba (ba hg).1).1).2).1).2).2).2).2).2).2, (ba (ba (ba (ba (ba (ba (ba (ba (ba hg).1).1).2).2).1).1).1).1).1, (ba (ba (ba (ba (ba (ba (ba (ba (ba hg).1).1).2).2).1).1).1).1).2, (ba (ba (ba (ba (ba (ba (ba (ba (ba hg).1).1).2).2).1).1).1).2).1, (ba (ba (ba (ba (ba (ba (ba (ba (ba (ba hg).1).1).2).2).1).1).1).2).2).1, (ba (ba (ba (ba (ba (ba (ba (ba (ba (ba hg).1).1).2).2).1).1).1).2).2).2, (ba (ba (ba (ba (ba (ba (ba (ba (ba hg).1).1).2).2).1).1).2).1).1, (ba (ba (ba (ba (ba (ba (ba (ba (ba hg).1).1).2).2).1).1).2).1).2, (ba (ba (ba (ba (ba (ba (ba (ba (ba hg).1).1).2).2).1).1).2).2).1, (ba (ba (ba (ba (ba (ba (ba (ba (ba (ba hg).1).1).2).2).1).1).2).2).2).1, (ba (ba (ba (ba (ba (ba (ba (ba (ba (ba hg).1).1).2).2).1).1).2).2).2).2, (ba (ba (ba (ba (ba (ba (ba (ba (ba hg).1).1).2).2).1).2).1).1).1, (ba (ba (ba (ba (ba (ba (ba (ba (ba hg).1).1).2).2).1).2).1).1).2, (ba (ba (ba (ba (ba (ba (ba (ba (ba hg).1).1).2).2).1).2).1).2).1, (ba (ba (ba (ba (ba (ba (ba (ba (ba (ba hg).1).1).2).2).1).2).1).2).2).1, (ba (ba (ba (ba (ba (ba (ba (ba (ba (ba hg).1).1).2).2).1).2).1).2).2).2, (ba (ba (ba (ba (ba (ba (ba (ba (ba hg).1).1).2).2).1).2).2).1).1, (ba (ba (ba (ba (ba (ba (ba (ba (ba (ba hg).1).1).2).2).1).2).2).1).2).1, (ba (ba (ba (ba (ba (ba (ba (ba (ba (ba hg).1).1).2).2).1).2).2).1).2).2, (ba (ba (ba (ba (ba (ba (ba (ba (ba hg).1).1).2).2).1).2).2).2).1, (ba (ba (ba (ba (ba (ba (ba (ba (ba (ba hg).1).1).2).2).1).2).2).2).2).1, (ba (ba (ba (ba (ba (ba (ba (ba (ba (ba hg).1).1).2).2).1).2).2).2).2).2, (ba (ba (ba (ba (ba (ba (ba (ba (ba hg).1).1).2).2).2).1).1).1).1, (ba (ba (ba (ba (ba (ba (ba (ba (ba hg).1).1).2).2).2).1).1).1).2, (ba (ba (ba (ba (ba (ba (ba (ba (ba hg).1).1).2).2).2).1).1).2).1, (ba (ba (ba (ba (ba (ba (ba (ba (ba (ba hg).1).1).2).2).2).1).1).2).2).1, (ba (ba (ba (ba (ba (ba (ba (ba (ba (ba hg).1).1).2).2).2).1).1).2).2).2, (ba (ba (ba (ba (ba (ba (ba (ba (ba hg).1).1).2).2).2).1).2).1).1, (ba (ba (ba (ba (ba (ba (ba (ba (ba hg).1).1).2).2).2).1).2).1).2, (ba (ba (ba (ba (ba (ba (ba (ba (ba hg).1).1).2).2).2).1).2).2).1, (ba (ba (ba (ba (ba (ba (ba (ba (ba (ba hg).1).1).2).2).2).1).2).2).2).1, (ba (ba (ba (ba (ba (ba (ba (ba (ba (ba hg).1).1).2).2).2).1).2).2).2).2, (ba (ba (ba (ba (ba (ba (ba (ba (ba hg).1).1).2).2).2).2).1).1).1, (ba (ba (ba (ba (ba (ba (ba (ba (ba hg).1).1).2).2).2).2).1).1).2, (ba (ba (ba (ba (ba (ba (ba (ba (ba hg).1).1).2).2).2).2).1).2).1, (ba (ba (ba (ba (ba (ba (ba (ba (ba (ba hg).1).1).2).2).2).2).1).2).2).1, (ba (ba (ba (ba (ba (ba (ba (ba (ba (ba hg).1).1).2).2).2).2).1).2).2).2, (ba (ba (ba (ba (ba (ba (ba (ba (ba hg).1).1).2).2).2).2).2).1).1, (ba (ba (ba (ba (ba (ba (ba (ba (ba (ba hg).1).1).2).2).2).2).2).1).2).1, (ba (ba (ba (ba (ba (ba (ba (ba (ba (ba hg).1).1).2).2).2).2).2).1).2).2, (ba (ba (ba (ba (ba (ba (ba (ba (ba hg).1).1).2).2).2).2).2).2).1, (ba (ba (ba (ba (ba (ba (ba (ba (ba (ba hg).1).1).2).2).2).2).2).2).2).1, (ba (ba (ba (ba (ba (ba (ba (ba (ba (ba hg).1).1).2).2).2).2).2).2).2).2, (ba (ba (ba (ba (ba (ba (ba (ba (ba hg).1).2).1).1).1).1).1).1).1, (ba (ba (ba (ba (ba (ba (ba (ba (ba hg).1).2).1).1).1).1).1).1).2, (ba (ba (ba (ba (ba (ba (ba (ba (ba hg).1).2).1).1).1).1).1).2).1, (ba (ba (ba (ba (ba (ba (ba (ba (ba (ba hg).1).2).1).1).1).1).1).2).2).1, (ba (ba (ba (ba (ba (ba (ba (ba (ba (ba hg).1).2).1).1).1).1).1).2).2).2, (ba (ba (ba (ba (ba (ba (ba (ba (ba hg).1).2).1).1).1).1).2).1).1, trivial⟩⟩
theorem srf_0 : Cond.stringRef (jstr 0).1 (jstr 0).2.1 (jstr 0).2.2 ∈ tables_1 := List.mem_of_getElem? (i := 286) (by decide +kernel)
theorem tx_1 : (jtxt 1).map Int32.ofInt = ([115, 104, 97, 112, 101] : List Int32) := by decide +kernel
theorem nar_1 {args : Array Value} {s : State} (hg : narrow_1.before args s = true) : strF args s (jstr 1).1 (jstr 1).2.1 ((jtxt 1).map Int32.ofInt) := by
  rw [tx_1]
  exact ⟨(ba (ba (ba (ba (ba (ba (ba (ba (ba hg).1).2).1).1).1).1).2).1).2, (ba (ba (ba (ba (ba (ba (ba (ba (ba hg).1).2).1).1).1).1).2).2).1, ⟨(ba (ba (ba (ba (ba (ba (ba (ba (ba (ba hg).1).2).1).1).1).1).2).2).2).1, (ba (ba (ba (ba (ba (ba (ba (ba (ba (ba hg).1).2).1).1).1).1).2).2).2).2, (ba (ba (ba (ba (ba (ba (ba (ba (ba hg).1).2).1).1).1).2).1).1).1, (ba (ba (ba (ba (ba (ba (ba (ba (ba hg).1).2).1).1).1).2).1).1).2, (ba (ba (ba (ba (ba (ba (ba (ba (ba hg).1).2).1).1).1).2).1).2).1, (ba (ba (ba (ba (ba (ba (ba (ba (ba (ba hg).1).2).1).1).1).2).1).2).2).1, (ba (ba (ba (ba (ba (ba (ba (ba (ba (ba hg).1).2).1).1).1).2).1).2).2).2, trivial⟩⟩
theorem srf_1 : Cond.stringRef (jstr 1).1 (jstr 1).2.1 (jstr 1).2.2 ∈ tables_1 := List.mem_of_getElem? (i := 376) (by decide +kernel)
theorem tx_2 : (jtxt 2).map Int32.ofInt = ([104, 111, 116] : List Int32) := by decide +kernel
theorem nar_2 {args : Array Value} {s : State} (hg : narrow_1.before args s = true) : strF args s (jstr 2).1 (jstr 2).2.1 ((jtxt 2).map Int32.ofInt) := by
  rw [tx_2]
  exact ⟨(ba (ba (ba (ba (ba (ba (ba (ba (ba hg).1).2).1).1).1).2).2).1).1, (ba (ba (ba (ba (ba (ba (ba (ba (ba (ba hg).1).2).1).1).1).2).2).1).2).1, ⟨(ba (ba (ba (ba (ba (ba (ba (ba (ba (ba hg).1).2).1).1).1).2).2).1).2).2, (ba (ba (ba (ba (ba (ba (ba (ba (ba hg).1).2).1).1).1).2).2).2).1, (ba (ba (ba (ba (ba (ba (ba (ba (ba (ba hg).1).2).1).1).1).2).2).2).2).1, (ba (ba (ba (ba (ba (ba (ba (ba (ba (ba hg).1).2).1).1).1).2).2).2).2).2, (ba (ba (ba (ba (ba (ba (ba (ba (ba hg).1).2).1).1).2).1).1).1).1, trivial⟩⟩
theorem srf_2 : Cond.stringRef (jstr 2).1 (jstr 2).2.1 (jstr 2).2.2 ∈ tables_1 := List.mem_of_getElem? (i := 394) (by decide +kernel)
theorem tx_3 : (jtxt 3).map Int32.ofInt = ([98, 97, 99, 107] : List Int32) := by decide +kernel
theorem nar_3 {args : Array Value} {s : State} (hg : narrow_1.before args s = true) : strF args s (jstr 3).1 (jstr 3).2.1 ((jtxt 3).map Int32.ofInt) := by
  rw [tx_3]
  exact ⟨(ba (ba (ba (ba (ba (ba (ba (ba (ba hg).1).2).1).1).2).1).1).1).2, (ba (ba (ba (ba (ba (ba (ba (ba (ba hg).1).2).1).1).2).1).1).2).1, ⟨(ba (ba (ba (ba (ba (ba (ba (ba (ba (ba hg).1).2).1).1).2).1).1).2).2).1, (ba (ba (ba (ba (ba (ba (ba (ba (ba (ba hg).1).2).1).1).2).1).1).2).2).2, (ba (ba (ba (ba (ba (ba (ba (ba (ba hg).1).2).1).1).2).1).2).1).1, (ba (ba (ba (ba (ba (ba (ba (ba (ba hg).1).2).1).1).2).1).2).1).2, (ba (ba (ba (ba (ba (ba (ba (ba (ba hg).1).2).1).1).2).1).2).2).1, (ba (ba (ba (ba (ba (ba (ba (ba (ba (ba hg).1).2).1).1).2).1).2).2).2).1, trivial⟩⟩
theorem srf_3 : Cond.stringRef (jstr 3).1 (jstr 3).2.1 (jstr 3).2.2 ∈ tables_1 := List.mem_of_getElem? (i := 399) (by decide +kernel)
theorem tx_4 : (jtxt 4).map Int32.ofInt = ([102, 114, 111, 110, 116] : List Int32) := by decide +kernel
theorem nar_4 {args : Array Value} {s : State} (hg : narrow_1.before args s = true) : strF args s (jstr 4).1 (jstr 4).2.1 ((jtxt 4).map Int32.ofInt) := by
  rw [tx_4]
  exact ⟨(ba (ba (ba (ba (ba (ba (ba (ba (ba (ba hg).1).2).1).1).2).1).2).2).2).2, (ba (ba (ba (ba (ba (ba (ba (ba (ba hg).1).2).1).1).2).2).1).1).1, ⟨(ba (ba (ba (ba (ba (ba (ba (ba (ba hg).1).2).1).1).2).2).1).1).2, (ba (ba (ba (ba (ba (ba (ba (ba (ba hg).1).2).1).1).2).2).1).2).1, (ba (ba (ba (ba (ba (ba (ba (ba (ba (ba hg).1).2).1).1).2).2).1).2).2).1, (ba (ba (ba (ba (ba (ba (ba (ba (ba (ba hg).1).2).1).1).2).2).1).2).2).2, (ba (ba (ba (ba (ba (ba (ba (ba (ba hg).1).2).1).1).2).2).2).1).1, (ba (ba (ba (ba (ba (ba (ba (ba (ba (ba hg).1).2).1).1).2).2).2).1).2).1, (ba (ba (ba (ba (ba (ba (ba (ba (ba (ba hg).1).2).1).1).2).2).2).1).2).2, trivial⟩⟩
theorem srf_4 : Cond.stringRef (jstr 4).1 (jstr 4).2.1 (jstr 4).2.2 ∈ tables_1 := List.mem_of_getElem? (i := 401) (by decide +kernel)
theorem tx_5 : (jtxt 5).map Int32.ofInt = ([100, 114, 97, 119, 101, 114, 115] : List Int32) := by decide +kernel
theorem nar_5 {args : Array Value} {s : State} (hg : narrow_1.before args s = true) : strF args s (jstr 5).1 (jstr 5).2.1 ((jtxt 5).map Int32.ofInt) := by
  rw [tx_5]
  exact ⟨(ba (ba (ba (ba (ba (ba (ba (ba (ba hg).1).2).1).1).2).2).2).2).1, (ba (ba (ba (ba (ba (ba (ba (ba (ba (ba hg).1).2).1).1).2).2).2).2).2).1, ⟨(ba (ba (ba (ba (ba (ba (ba (ba (ba (ba hg).1).2).1).1).2).2).2).2).2).2, (ba (ba (ba (ba (ba (ba (ba (ba (ba hg).1).2).1).2).1).1).1).1).1, (ba (ba (ba (ba (ba (ba (ba (ba (ba hg).1).2).1).2).1).1).1).1).2, (ba (ba (ba (ba (ba (ba (ba (ba (ba hg).1).2).1).2).1).1).1).2).1, (ba (ba (ba (ba (ba (ba (ba (ba (ba (ba hg).1).2).1).2).1).1).1).2).2).1, (ba (ba (ba (ba (ba (ba (ba (ba (ba (ba hg).1).2).1).2).1).1).1).2).2).2, (ba (ba (ba (ba (ba (ba (ba (ba (ba hg).1).2).1).2).1).1).2).1).1, (ba (ba (ba (ba (ba (ba (ba (ba (ba hg).1).2).1).2).1).1).2).1).2, (ba (ba (ba (ba (ba (ba (ba (ba (ba hg).1).2).1).2).1).1).2).2).1, trivial⟩⟩
theorem srf_5 : Cond.stringRef (jstr 5).1 (jstr 5).2.1 (jstr 5).2.2 ∈ tables_1 := List.mem_of_getElem? (i := 410) (by decide +kernel)
theorem tx_6 : (jtxt 6).map Int32.ofInt = ([104, 111, 108, 100, 115] : List Int32) := by decide +kernel
theorem nar_6 {args : Array Value} {s : State} (hg : narrow_1.before args s = true) : strF args s (jstr 6).1 (jstr 6).2.1 ((jtxt 6).map Int32.ofInt) := by
  rw [tx_6]
  exact ⟨(ba (ba (ba (ba (ba (ba (ba (ba (ba (ba hg).1).2).1).2).1).1).2).2).2).1, (ba (ba (ba (ba (ba (ba (ba (ba (ba (ba hg).1).2).1).2).1).1).2).2).2).2, ⟨(ba (ba (ba (ba (ba (ba (ba (ba (ba hg).1).2).1).2).1).2).1).1).1, (ba (ba (ba (ba (ba (ba (ba (ba (ba hg).1).2).1).2).1).2).1).1).2, (ba (ba (ba (ba (ba (ba (ba (ba (ba hg).1).2).1).2).1).2).1).2).1, (ba (ba (ba (ba (ba (ba (ba (ba (ba (ba hg).1).2).1).2).1).2).1).2).2).1, (ba (ba (ba (ba (ba (ba (ba (ba (ba (ba hg).1).2).1).2).1).2).1).2).2).2, (ba (ba (ba (ba (ba (ba (ba (ba (ba hg).1).2).1).2).1).2).2).1).1, (ba (ba (ba (ba (ba (ba (ba (ba (ba (ba hg).1).2).1).2).1).2).2).1).2).1, trivial⟩⟩
theorem srf_6 : Cond.stringRef (jstr 6).1 (jstr 6).2.1 (jstr 6).2.2 ∈ tables_1 := List.mem_of_getElem? (i := 411) (by decide +kernel)
theorem tx_7 : (jtxt 7).map Int32.ofInt = ([114, 111, 119] : List Int32) := by decide +kernel
theorem nar_7 {args : Array Value} {s : State} (hg : narrow_1.before args s = true) : strF args s (jstr 7).1 (jstr 7).2.1 ((jtxt 7).map Int32.ofInt) := by
  rw [tx_7]
  exact ⟨(ba (ba (ba (ba (ba (ba (ba (ba (ba (ba hg).1).2).1).2).1).2).2).1).2).2, (ba (ba (ba (ba (ba (ba (ba (ba (ba hg).1).2).1).2).1).2).2).2).1, ⟨(ba (ba (ba (ba (ba (ba (ba (ba (ba (ba hg).1).2).1).2).1).2).2).2).2).1, (ba (ba (ba (ba (ba (ba (ba (ba (ba (ba hg).1).2).1).2).1).2).2).2).2).2, (ba (ba (ba (ba (ba (ba (ba (ba (ba hg).1).2).1).2).2).1).1).1).1, (ba (ba (ba (ba (ba (ba (ba (ba (ba hg).1).2).1).2).2).1).1).1).2, (ba (ba (ba (ba (ba (ba (ba (ba (ba hg).1).2).1).2).2).1).1).2).1, trivial⟩⟩
theorem srf_7 : Cond.stringRef (jstr 7).1 (jstr 7).2.1 (jstr 7).2.2 ∈ tables_1 := List.mem_of_getElem? (i := 412) (by decide +kernel)
theorem tx_8 : (jtxt 8).map Int32.ofInt = ([101, 97, 116, 115] : List Int32) := by decide +kernel
theorem nar_8 {args : Array Value} {s : State} (hg : narrow_1.before args s = true) : strF args s (jstr 8).1 (jstr 8).2.1 ((jtxt 8).map Int32.ofInt) := by
  rw [tx_8]
  exact ⟨(ba (ba (ba (ba (ba (ba (ba (ba (ba (ba hg).1).2).1).2).2).1).1).2).2).1, (ba (ba (ba (ba (ba (ba (ba (ba (ba (ba hg).1).2).1).2).2).1).1).2).2).2, ⟨(ba (ba (ba (ba (ba (ba (ba (ba (ba hg).1).2).1).2).2).1).2).1).1, (ba (ba (ba (ba (ba (ba (ba (ba (ba hg).1).2).1).2).2).1).2).1).2, (ba (ba (ba (ba (ba (ba (ba (ba (ba hg).1).2).1).2).2).1).2).2).1, (ba (ba (ba (ba (ba (ba (ba (ba (ba (ba hg).1).2).1).2).2).1).2).2).2).1, (ba (ba (ba (ba (ba (ba (ba (ba (ba (ba hg).1).2).1).2).2).1).2).2).2).2, (ba (ba (ba (ba (ba (ba (ba (ba (ba hg).1).2).1).2).2).2).1).1).1, trivial⟩⟩
theorem srf_8 : Cond.stringRef (jstr 8).1 (jstr 8).2.1 (jstr 8).2.2 ∈ tables_1 := List.mem_of_getElem? (i := 413) (by decide +kernel)
theorem tx_9 : (jtxt 9).map Int32.ofInt = ([99, 104, 105, 108, 100] : List Int32) := by decide +kernel
theorem nar_9 {args : Array Value} {s : State} (hg : narrow_1.before args s = true) : strF args s (jstr 9).1 (jstr 9).2.1 ((jtxt 9).map Int32.ofInt) := by
  rw [tx_9]
  exact ⟨(ba (ba (ba (ba (ba (ba (ba (ba (ba hg).1).2).1).2).2).2).1).1).2, (ba (ba (ba (ba (ba (ba (ba (ba (ba hg).1).2).1).2).2).2).1).2).1, ⟨(ba (ba (ba (ba (ba (ba (ba (ba (ba (ba hg).1).2).1).2).2).2).1).2).2).1, (ba (ba (ba (ba (ba (ba (ba (ba (ba (ba hg).1).2).1).2).2).2).1).2).2).2, (ba (ba (ba (ba (ba (ba (ba (ba (ba hg).1).2).1).2).2).2).2).1).1, (ba (ba (ba (ba (ba (ba (ba (ba (ba (ba hg).1).2).1).2).2).2).2).1).2).1, (ba (ba (ba (ba (ba (ba (ba (ba (ba (ba hg).1).2).1).2).2).2).2).1).2).2, (ba (ba (ba (ba (ba (ba (ba (ba (ba hg).1).2).1).2).2).2).2).2).1, (ba (ba (ba (ba (ba (ba (ba (ba (ba (ba hg).1).2).1).2).2).2).2).2).2).1, trivial⟩⟩
theorem srf_9 : Cond.stringRef (jstr 9).1 (jstr 9).2.1 (jstr 9).2.2 ∈ tables_1 := List.mem_of_getElem? (i := 422) (by decide +kernel)
theorem tx_10 : (jtxt 10).map Int32.ofInt = ([112, 114, 105, 99, 101] : List Int32) := by decide +kernel
theorem nar_10 {args : Array Value} {s : State} (hg : narrow_1.before args s = true) : strF args s (jstr 10).1 (jstr 10).2.1 ((jtxt 10).map Int32.ofInt) := by
  rw [tx_10]
  exact ⟨(ba (ba (ba (ba (ba (ba (ba (ba (ba (ba hg).1).2).1).2).2).2).2).2).2).2, (ba (ba (ba (ba (ba (ba (ba (ba (ba hg).1).2).2).1).1).1).1).1).1, ⟨(ba (ba (ba (ba (ba (ba (ba (ba (ba hg).1).2).2).1).1).1).1).1).2, (ba (ba (ba (ba (ba (ba (ba (ba (ba hg).1).2).2).1).1).1).1).2).1, (ba (ba (ba (ba (ba (ba (ba (ba (ba (ba hg).1).2).2).1).1).1).1).2).2).1, (ba (ba (ba (ba (ba (ba (ba (ba (ba (ba hg).1).2).2).1).1).1).1).2).2).2, (ba (ba (ba (ba (ba (ba (ba (ba (ba hg).1).2).2).1).1).1).2).1).1, (ba (ba (ba (ba (ba (ba (ba (ba (ba hg).1).2).2).1).1).1).2).1).2, (ba (ba (ba (ba (ba (ba (ba (ba (ba hg).1).2).2).1).1).1).2).2).1, trivial⟩⟩
theorem srf_10 : Cond.stringRef (jstr 10).1 (jstr 10).2.1 (jstr 10).2.2 ∈ tables_1 := List.mem_of_getElem? (i := 423) (by decide +kernel)
theorem tx_11 : (jtxt 11).map Int32.ofInt = ([97, 116] : List Int32) := by decide +kernel
theorem nar_11 {args : Array Value} {s : State} (hg : narrow_1.before args s = true) : strF args s (jstr 11).1 (jstr 11).2.1 ((jtxt 11).map Int32.ofInt) := by
  rw [tx_11]
  exact ⟨(ba (ba (ba (ba (ba (ba (ba (ba (ba (ba hg).1).2).2).1).1).1).2).2).2).1, (ba (ba (ba (ba (ba (ba (ba (ba (ba (ba hg).1).2).2).1).1).1).2).2).2).2, ⟨(ba (ba (ba (ba (ba (ba (ba (ba (ba hg).1).2).2).1).1).2).1).1).1, (ba (ba (ba (ba (ba (ba (ba (ba (ba hg).1).2).2).1).1).2).1).1).2, (ba (ba (ba (ba (ba (ba (ba (ba (ba hg).1).2).2).1).1).2).1).2).1, (ba (ba (ba (ba (ba (ba (ba (ba (ba (ba hg).1).2).2).1).1).2).1).2).2).1, trivial⟩⟩
theorem srf_11 : Cond.stringRef (jstr 11).1 (jstr 11).2.1 (jstr 11).2.2 ∈ tables_1 := List.mem_of_getElem? (i := 428) (by decide +kernel)
theorem tx_12 : (jtxt 12).map Int32.ofInt = ([111, 102] : List Int32) := by decide +kernel
theorem nar_12 {args : Array Value} {s : State} (hg : narrow_1.before args s = true) : strF args s (jstr 12).1 (jstr 12).2.1 ((jtxt 12).map Int32.ofInt) := by
  rw [tx_12]
  exact ⟨(ba (ba (ba (ba (ba (ba (ba (ba (ba (ba hg).1).2).2).1).1).2).1).2).2).2, (ba (ba (ba (ba (ba (ba (ba (ba (ba hg).1).2).2).1).1).2).2).1).1, ⟨(ba (ba (ba (ba (ba (ba (ba (ba (ba (ba hg).1).2).2).1).1).2).2).1).2).1, (ba (ba (ba (ba (ba (ba (ba (ba (ba (ba hg).1).2).2).1).1).2).2).1).2).2, (ba (ba (ba (ba (ba (ba (ba (ba (ba hg).1).2).2).1).1).2).2).2).1, (ba (ba (ba (ba (ba (ba (ba (ba (ba (ba hg).1).2).2).1).1).2).2).2).2).1, trivial⟩⟩
theorem srf_12 : Cond.stringRef (jstr 12).1 (jstr 12).2.1 (jstr 12).2.2 ∈ tables_1 := List.mem_of_getElem? (i := 429) (by decide +kernel)
theorem tx_13 : (jtxt 13).map Int32.ofInt = ([109, 97, 110, 121] : List Int32) := by decide +kernel
theorem nar_13 {args : Array Value} {s : State} (hg : narrow_1.before args s = true) : strF args s (jstr 13).1 (jstr 13).2.1 ((jtxt 13).map Int32.ofInt) := by
  rw [tx_13]
  exact ⟨(ba (ba (ba (ba (ba (ba (ba (ba (ba (ba hg).1).2).2).1).1).2).2).2).2).2, (ba (ba (ba (ba (ba (ba (ba (ba (ba hg).1).2).2).1).2).1).1).1).1, ⟨(ba (ba (ba (ba (ba (ba (ba (ba (ba hg).1).2).2).1).2).1).1).1).2, (ba (ba (ba (ba (ba (ba (ba (ba (ba hg).1).2).2).1).2).1).1).2).1, (ba (ba (ba (ba (ba (ba (ba (ba (ba (ba hg).1).2).2).1).2).1).1).2).2).1, (ba (ba (ba (ba (ba (ba (ba (ba (ba (ba hg).1).2).2).1).2).1).1).2).2).2, (ba (ba (ba (ba (ba (ba (ba (ba (ba hg).1).2).2).1).2).1).2).1).1, (ba (ba (ba (ba (ba (ba (ba (ba (ba hg).1).2).2).1).2).1).2).1).2, trivial⟩⟩
theorem srf_13 : Cond.stringRef (jstr 13).1 (jstr 13).2.1 (jstr 13).2.2 ∈ tables_1 := List.mem_of_getElem? (i := 433) (by decide +kernel)
theorem tx_14 : (jtxt 14).map Int32.ofInt = ([116, 111] : List Int32) := by decide +kernel
theorem nar_14 {args : Array Value} {s : State} (hg : narrow_1.before args s = true) : strF args s (jstr 14).1 (jstr 14).2.1 ((jtxt 14).map Int32.ofInt) := by
  rw [tx_14]
  exact ⟨(ba (ba (ba (ba (ba (ba (ba (ba (ba hg).1).2).2).1).2).1).2).2).1, (ba (ba (ba (ba (ba (ba (ba (ba (ba (ba hg).1).2).2).1).2).1).2).2).2).1, ⟨(ba (ba (ba (ba (ba (ba (ba (ba (ba (ba hg).1).2).2).1).2).1).2).2).2).2, (ba (ba (ba (ba (ba (ba (ba (ba (ba hg).1).2).2).1).2).2).1).1).1, (ba (ba (ba (ba (ba (ba (ba (ba (ba hg).1).2).2).1).2).2).1).1).2, (ba (ba (ba (ba (ba (ba (ba (ba (ba hg).1).2).2).1).2).2).1).2).1, trivial⟩⟩
theorem srf_14 : Cond.stringRef (jstr 14).1 (jstr 14).2.1 (jstr 14).2.2 ∈ tables_1 := List.mem_of_getElem? (i := 438) (by decide +kernel)
theorem tx_15 : (jtxt 15).map Int32.ofInt = ([115, 101, 97, 116, 115] : List Int32) := by decide +kernel
theorem nar_15 {args : Array Value} {s : State} (hg : narrow_1.before args s = true) : strF args s (jstr 15).1 (jstr 15).2.1 ((jtxt 15).map Int32.ofInt) := by
  rw [tx_15]
  exact ⟨(ba (ba (ba (ba (ba (ba (ba (ba (ba (ba hg).1).2).2).1).2).2).1).2).2).1, (ba (ba (ba (ba (ba (ba (ba (ba (ba (ba hg).1).2).2).1).2).2).1).2).2).2, ⟨(ba (ba (ba (ba (ba (ba (ba (ba (ba hg).1).2).2).1).2).2).2).1).1, (ba (ba (ba (ba (ba (ba (ba (ba (ba (ba hg).1).2).2).1).2).2).2).1).2).1, (ba (ba (ba (ba (ba (ba (ba (ba (ba (ba hg).1).2).2).1).2).2).2).1).2).2, (ba (ba (ba (ba (ba (ba (ba (ba (ba hg).1).2).2).1).2).2).2).2).1, (ba (ba (ba (ba (ba (ba (ba (ba (ba (ba hg).1).2).2).1).2).2).2).2).2).1, (ba (ba (ba (ba (ba (ba (ba (ba (ba (ba hg).1).2).2).1).2).2).2).2).2).2, (ba (ba (ba (ba (ba (ba (ba (ba (ba hg).1).2).2).2).1).1).1).1).1, trivial⟩⟩
theorem srf_15 : Cond.stringRef (jstr 15).1 (jstr 15).2.1 (jstr 15).2.2 ∈ tables_1 := List.mem_of_getElem? (i := 439) (by decide +kernel)
theorem tx_16 : (jtxt 16).map Int32.ofInt = ([108, 105, 107, 101, 115] : List Int32) := by decide +kernel
theorem nar_16 {args : Array Value} {s : State} (hg : narrow_1.before args s = true) : strF args s (jstr 16).1 (jstr 16).2.1 ((jtxt 16).map Int32.ofInt) := by
  rw [tx_16]
  exact ⟨(ba (ba (ba (ba (ba (ba (ba (ba (ba hg).1).2).2).2).1).1).1).1).2, (ba (ba (ba (ba (ba (ba (ba (ba (ba hg).1).2).2).2).1).1).1).2).1, ⟨(ba (ba (ba (ba (ba (ba (ba (ba (ba (ba hg).1).2).2).2).1).1).1).2).2).1, (ba (ba (ba (ba (ba (ba (ba (ba (ba (ba hg).1).2).2).2).1).1).1).2).2).2, (ba (ba (ba (ba (ba (ba (ba (ba (ba hg).1).2).2).2).1).1).2).1).1, (ba (ba (ba (ba (ba (ba (ba (ba (ba hg).1).2).2).2).1).1).2).1).2, (ba (ba (ba (ba (ba (ba (ba (ba (ba hg).1).2).2).2).1).1).2).2).1, (ba (ba (ba (ba (ba (ba (ba (ba (ba (ba hg).1).2).2).2).1).1).2).2).2).1, (ba (ba (ba (ba (ba (ba (ba (ba (ba (ba hg).1).2).2).2).1).1).2).2).2).2, trivial⟩⟩
theorem srf_16 : Cond.stringRef (jstr 16).1 (jstr 16).2.1 (jstr 16).2.2 ∈ tables_1 := List.mem_of_getElem? (i := 440) (by decide +kernel)
theorem tx_17 : (jtxt 17).map Int32.ofInt = ([114, 111, 119, 115] : List Int32) := by decide +kernel
theorem nar_17 {args : Array Value} {s : State} (hg : narrow_1.before args s = true) : strF args s (jstr 17).1 (jstr 17).2.1 ((jtxt 17).map Int32.ofInt) := by
  rw [tx_17]
  exact ⟨(ba (ba (ba (ba (ba (ba (ba (ba (ba hg).1).2).2).2).1).2).1).1).1, (ba (ba (ba (ba (ba (ba (ba (ba (ba hg).1).2).2).2).1).2).1).1).2, ⟨(ba (ba (ba (ba (ba (ba (ba (ba (ba hg).1).2).2).2).1).2).1).2).1, (ba (ba (ba (ba (ba (ba (ba (ba (ba (ba hg).1).2).2).2).1).2).1).2).2).1, (ba (ba (ba (ba (ba (ba (ba (ba (ba (ba hg).1).2).2).2).1).2).1).2).2).2, (ba (ba (ba (ba (ba (ba (ba (ba (ba hg).1).2).2).2).1).2).2).1).1, (ba (ba (ba (ba (ba (ba (ba (ba (ba (ba hg).1).2).2).2).1).2).2).1).2).1, (ba (ba (ba (ba (ba (ba (ba (ba (ba (ba hg).1).2).2).2).1).2).2).1).2).2, trivial⟩⟩
theorem srf_17 : Cond.stringRef (jstr 17).1 (jstr 17).2.1 (jstr 17).2.2 ∈ tables_1 := List.mem_of_getElem? (i := 463) (by decide +kernel)
theorem tx_18 : (jtxt 18).map Int32.ofInt = ([119, 97, 108, 107] : List Int32) := by decide +kernel
theorem nar_18 {args : Array Value} {s : State} (hg : narrow_1.before args s = true) : strF args s (jstr 18).1 (jstr 18).2.1 ((jtxt 18).map Int32.ofInt) := by
  rw [tx_18]
  exact ⟨(ba (ba (ba (ba (ba (ba (ba (ba (ba hg).1).2).2).2).1).2).2).2).1, (ba (ba (ba (ba (ba (ba (ba (ba (ba (ba hg).1).2).2).2).1).2).2).2).2).1, ⟨(ba (ba (ba (ba (ba (ba (ba (ba (ba (ba hg).1).2).2).2).1).2).2).2).2).2, (ba (ba (ba (ba (ba (ba (ba (ba (ba hg).1).2).2).2).2).1).1).1).1, (ba (ba (ba (ba (ba (ba (ba (ba (ba hg).1).2).2).2).2).1).1).1).2, (ba (ba (ba (ba (ba (ba (ba (ba (ba hg).1).2).2).2).2).1).1).2).1, (ba (ba (ba (ba (ba (ba (ba (ba (ba (ba hg).1).2).2).2).2).1).1).2).2).1, (ba (ba (ba (ba (ba (ba (ba (ba (ba (ba hg).1).2).2).2).2).1).1).2).2).2, trivial⟩⟩
theorem srf_18 : Cond.stringRef (jstr 18).1 (jstr 18).2.1 (jstr 18).2.2 ∈ tables_1 := List.mem_of_getElem? (i := 464) (by decide +kernel)
theorem tx_19 : (jtxt 19).map Int32.ofInt = ([115, 101, 114, 118, 101] : List Int32) := by decide +kernel
theorem nar_19 {args : Array Value} {s : State} (hg : narrow_1.before args s = true) : strF args s (jstr 19).1 (jstr 19).2.1 ((jtxt 19).map Int32.ofInt) := by
  rw [tx_19]
  exact ⟨(ba (ba (ba (ba (ba (ba (ba (ba (ba hg).1).2).2).2).2).1).2).1).1, (ba (ba (ba (ba (ba (ba (ba (ba (ba hg).1).2).2).2).2).1).2).1).2, ⟨(ba (ba (ba (ba (ba (ba (ba (ba (ba hg).1).2).2).2).2).1).2).2).1, (ba (ba (ba (ba (ba (ba (ba (ba (ba (ba hg).1).2).2).2).2).1).2).2).2).1, (ba (ba (ba (ba (ba (ba (ba (ba (ba (ba hg).1).2).2).2).2).1).2).2).2).2, (ba (ba (ba (ba (ba (ba (ba (ba (ba hg).1).2).2).2).2).2).1).1).1, (ba (ba (ba (ba (ba (ba (ba (ba (ba hg).1).2).2).2).2).2).1).1).2, (ba (ba (ba (ba (ba (ba (ba (ba (ba hg).1).2).2).2).2).2).1).2).1, (ba (ba (ba (ba (ba (ba (ba (ba (ba (ba hg).1).2).2).2).2).2).1).2).2).1, trivial⟩⟩
theorem srf_19 : Cond.stringRef (jstr 19).1 (jstr 19).2.1 (jstr 19).2.2 ∈ tables_1 := List.mem_of_getElem? (i := 465) (by decide +kernel)
theorem tx_20 : (jtxt 20).map Int32.ofInt = ([108, 101, 97, 115, 116] : List Int32) := by decide +kernel
theorem nar_20 {args : Array Value} {s : State} (hg : narrow_1.before args s = true) : strF args s (jstr 20).1 (jstr 20).2.1 ((jtxt 20).map Int32.ofInt) := by
  rw [tx_20]
  exact ⟨(ba (ba (ba (ba (ba (ba (ba (ba (ba (ba hg).1).2).2).2).2).2).1).2).2).2, (ba (ba (ba (ba (ba (ba (ba (ba (ba hg).1).2).2).2).2).2).2).1).1, ⟨(ba (ba (ba (ba (ba (ba (ba (ba (ba (ba hg).1).2).2).2).2).2).2).1).2).1, (ba (ba (ba (ba (ba (ba (ba (ba (ba (ba hg).1).2).2).2).2).2).2).1).2).2, (ba (ba (ba (ba (ba (ba (ba (ba (ba hg).1).2).2).2).2).2).2).2).1, (ba (ba (ba (ba (ba (ba (ba (ba (ba (ba hg).1).2).2).2).2).2).2).2).2).1, (ba (ba (ba (ba (ba (ba (ba (ba (ba (ba hg).1).2).2).2).2).2).2).2).2).2, (ba (ba (ba (ba (ba (ba (ba (ba (ba hg).2).1).1).1).1).1).1).1).1, (ba (ba (ba (ba (ba (ba (ba (ba (ba hg).2).1).1).1).1).1).1).1).2, trivial⟩⟩
theorem srf_20 : Cond.stringRef (jstr 20).1 (jstr 20).2.1 (jstr 20).2.2 ∈ tables_1 := List.mem_of_getElem? (i := 466) (by decide +kernel)
theorem tx_21 : (jtxt 21).map Int32.ofInt = ([99, 111, 111, 108, 115] : List Int32) := by decide +kernel
theorem nar_21 {args : Array Value} {s : State} (hg : narrow_1.before args s = true) : strF args s (jstr 21).1 (jstr 21).2.1 ((jtxt 21).map Int32.ofInt) := by
  rw [tx_21]
  exact ⟨(ba (ba (ba (ba (ba (ba (ba (ba (ba hg).2).1).1).1).1).1).1).2).1, (ba (ba (ba (ba (ba (ba (ba (ba (ba (ba hg).2).1).1).1).1).1).1).2).2).1, ⟨(ba (ba (ba (ba (ba (ba (ba (ba (ba (ba hg).2).1).1).1).1).1).1).2).2).2, (ba (ba (ba (ba (ba (ba (ba (ba (ba hg).2).1).1).1).1).1).2).1).1, (ba (ba (ba (ba (ba (ba (ba (ba (ba hg).2).1).1).1).1).1).2).1).2, (ba (ba (ba (ba (ba (ba (ba (ba (ba hg).2).1).1).1).1).1).2).2).1, (ba (ba (ba (ba (ba (ba (ba (ba (ba (ba hg).2).1).1).1).1).1).2).2).2).1, (ba (ba (ba (ba (ba (ba (ba (ba (ba (ba hg).2).1).1).1).1).1).2).2).2).2, (ba (ba (ba (ba (ba (ba (ba (ba (ba hg).2).1).1).1).1).2).1).1).1, trivial⟩⟩
theorem srf_21 : Cond.stringRef (jstr 21).1 (jstr 21).2.1 (jstr 21).2.2 ∈ tables_1 := List.mem_of_getElem? (i := 467) (by decide +kernel)
theorem tx_22 : (jtxt 22).map Int32.ofInt = ([102, 114, 111, 109] : List Int32) := by decide +kernel
theorem nar_22 {args : Array Value} {s : State} (hg : narrow_1.before args s = true) : strF args s (jstr 22).1 (jstr 22).2.1 ((jtxt 22).map Int32.ofInt) := by
  rw [tx_22]
  exact ⟨(ba (ba (ba (ba (ba (ba (ba (ba (ba hg).2).1).1).1).1).2).1).1).2, (ba (ba (ba (ba (ba (ba (ba (ba (ba hg).2).1).1).1).1).2).1).2).1, ⟨(ba (ba (ba (ba (ba (ba (ba (ba (ba (ba hg).2).1).1).1).1).2).1).2).2).1, (ba (ba (ba (ba (ba (ba (ba (ba (ba (ba hg).2).1).1).1).1).2).1).2).2).2, (ba (ba (ba (ba (ba (ba (ba (ba (ba hg).2).1).1).1).1).2).2).1).1, (ba (ba (ba (ba (ba (ba (ba (ba (ba (ba hg).2).1).1).1).1).2).2).1).2).1, (ba (ba (ba (ba (ba (ba (ba (ba (ba (ba hg).2).1).1).1).1).2).2).1).2).2, (ba (ba (ba (ba (ba (ba (ba (ba (ba hg).2).1).1).1).1).2).2).2).1, trivial⟩⟩
theorem srf_22 : Cond.stringRef (jstr 22).1 (jstr 22).2.1 (jstr 22).2.2 ∈ tables_1 := List.mem_of_getElem? (i := 468) (by decide +kernel)
theorem tx_23 : (jtxt 23).map Int32.ofInt = ([99, 97, 98, 105, 110] : List Int32) := by decide +kernel
theorem nar_23 {args : Array Value} {s : State} (hg : narrow_1.before args s = true) : strF args s (jstr 23).1 (jstr 23).2.1 ((jtxt 23).map Int32.ofInt) := by
  rw [tx_23]
  exact ⟨(ba (ba (ba (ba (ba (ba (ba (ba (ba (ba hg).2).1).1).1).1).2).2).2).2).1, (ba (ba (ba (ba (ba (ba (ba (ba (ba (ba hg).2).1).1).1).1).2).2).2).2).2, ⟨(ba (ba (ba (ba (ba (ba (ba (ba (ba hg).2).1).1).1).2).1).1).1).1, (ba (ba (ba (ba (ba (ba (ba (ba (ba hg).2).1).1).1).2).1).1).1).2, (ba (ba (ba (ba (ba (ba (ba (ba (ba hg).2).1).1).1).2).1).1).2).1, (ba (ba (ba (ba (ba (ba (ba (ba (ba (ba hg).2).1).1).1).2).1).1).2).2).1, (ba (ba (ba (ba (ba (ba (ba (ba (ba (ba hg).2).1).1).1).2).1).1).2).2).2, (ba (ba (ba (ba (ba (ba (ba (ba (ba hg).2).1).1).1).2).1).2).1).1, (ba (ba (ba (ba (ba (ba (ba (ba (ba hg).2).1).1).1).2).1).2).1).2, trivial⟩⟩
theorem srf_23 : Cond.stringRef (jstr 23).1 (jstr 23).2.1 (jstr 23).2.2 ∈ tables_1 := List.mem_of_getElem? (i := 1459) (by decide +kernel)
theorem tx_24 : (jtxt 24).map Int32.ofInt = ([114, 111, 119, 115] : List Int32) := by decide +kernel
theorem nar_24 {args : Array Value} {s : State} (hg : narrow_1.before args s = true) : strF args s (jstr 24).1 (jstr 24).2.1 ((jtxt 24).map Int32.ofInt) := by
  rw [tx_24]
  exact ⟨(ba (ba (ba (ba (ba (ba (ba (ba (ba hg).2).1).1).1).2).1).2).2).1, (ba (ba (ba (ba (ba (ba (ba (ba (ba (ba hg).2).1).1).1).2).1).2).2).2).1, ⟨(ba (ba (ba (ba (ba (ba (ba (ba (ba (ba hg).2).1).1).1).2).1).2).2).2).2, (ba (ba (ba (ba (ba (ba (ba (ba (ba hg).2).1).1).1).2).2).1).1).1, (ba (ba (ba (ba (ba (ba (ba (ba (ba hg).2).1).1).1).2).2).1).1).2, (ba (ba (ba (ba (ba (ba (ba (ba (ba hg).2).1).1).1).2).2).1).2).1, (ba (ba (ba (ba (ba (ba (ba (ba (ba (ba hg).2).1).1).1).2).2).1).2).2).1, (ba (ba (ba (ba (ba (ba (ba (ba (ba (ba hg).2).1).1).1).2).2).1).2).2).2, trivial⟩⟩
theorem srf_24 : Cond.stringRef (jstr 24).1 (jstr 24).2.1 (jstr 24).2.2 ∈ tables_1 := List.mem_of_getElem? (i := 1477) (by decide +kernel)
theorem tx_25 : (jtxt 25).map Int32.ofInt = ([119, 97, 108, 107] : List Int32) := by decide +kernel
theorem nar_25 {args : Array Value} {s : State} (hg : narrow_1.before args s = true) : strF args s (jstr 25).1 (jstr 25).2.1 ((jtxt 25).map Int32.ofInt) := by
  rw [tx_25]
  exact ⟨(ba (ba (ba (ba (ba (ba (ba (ba (ba (ba hg).2).1).1).1).2).2).2).1).2).1, (ba (ba (ba (ba (ba (ba (ba (ba (ba (ba hg).2).1).1).1).2).2).2).1).2).2, ⟨(ba (ba (ba (ba (ba (ba (ba (ba (ba hg).2).1).1).1).2).2).2).2).1, (ba (ba (ba (ba (ba (ba (ba (ba (ba (ba hg).2).1).1).1).2).2).2).2).2).1, (ba (ba (ba (ba (ba (ba (ba (ba (ba (ba hg).2).1).1).1).2).2).2).2).2).2, (ba (ba (ba (ba (ba (ba (ba (ba (ba hg).2).1).1).2).1).1).1).1).1, (ba (ba (ba (ba (ba (ba (ba (ba (ba hg).2).1).1).2).1).1).1).1).2, (ba (ba (ba (ba (ba (ba (ba (ba (ba hg).2).1).1).2).1).1).1).2).1, trivial⟩⟩
theorem srf_25 : Cond.stringRef (jstr 25).1 (jstr 25).2.1 (jstr 25).2.2 ∈ tables_1 := List.mem_of_getElem? (i := 1493) (by decide +kernel)
theorem tx_26 : (jtxt 26).map Int32.ofInt = ([115, 101, 114, 118, 101] : List Int32) := by decide +kernel
theorem nar_26 {args : Array Value} {s : State} (hg : narrow_1.before args s = true) : strF args s (jstr 26).1 (jstr 26).2.1 ((jtxt 26).map Int32.ofInt) := by
  rw [tx_26]
  exact ⟨(ba (ba (ba (ba (ba (ba (ba (ba (ba (ba hg).2).1).1).2).1).1).1).2).2).2, (ba (ba (ba (ba (ba (ba (ba (ba (ba hg).2).1).1).2).1).1).2).1).1, ⟨(ba (ba (ba (ba (ba (ba (ba (ba (ba hg).2).1).1).2).1).1).2).1).2, (ba (ba (ba (ba (ba (ba (ba (ba (ba hg).2).1).1).2).1).1).2).2).1, (ba (ba (ba (ba (ba (ba (ba (ba (ba (ba hg).2).1).1).2).1).1).2).2).2).1, (ba (ba (ba (ba (ba (ba (ba (ba (ba (ba hg).2).1).1).2).1).1).2).2).2).2, (ba (ba (ba (ba (ba (ba (ba (ba (ba hg).2).1).1).2).1).2).1).1).1, (ba (ba (ba (ba (ba (ba (ba (ba (ba hg).2).1).1).2).1).2).1).1).2, (ba (ba (ba (ba (ba (ba (ba (ba (ba hg).2).1).1).2).1).2).1).2).1, trivial⟩⟩
theorem srf_26 : Cond.stringRef (jstr 26).1 (jstr 26).2.1 (jstr 26).2.2 ∈ tables_1 := List.mem_of_getElem? (i := 1494) (by decide +kernel)
theorem tx_27 : (jtxt 27).map Int32.ofInt = ([104, 101, 97, 116] : List Int32) := by decide +kernel
theorem nar_27 {args : Array Value} {s : State} (hg : narrow_1.before args s = true) : strF args s (jstr 27).1 (jstr 27).2.1 ((jtxt 27).map Int32.ofInt) := by
  rw [tx_27]
  exact ⟨(ba (ba (ba (ba (ba (ba (ba (ba (ba (ba hg).2).1).1).2).1).2).1).2).2).2, (ba (ba (ba (ba (ba (ba (ba (ba (ba hg).2).1).1).2).1).2).2).1).1, ⟨(ba (ba (ba (ba (ba (ba (ba (ba (ba (ba hg).2).1).1).2).1).2).2).1).2).1, (ba (ba (ba (ba (ba (ba (ba (ba (ba (ba hg).2).1).1).2).1).2).2).1).2).2, (ba (ba (ba (ba (ba (ba (ba (ba (ba hg).2).1).1).2).1).2).2).2).1, (ba (ba (ba (ba (ba (ba (ba (ba (ba (ba hg).2).1).1).2).1).2).2).2).2).1, (ba (ba (ba (ba (ba (ba (ba (ba (ba (ba hg).2).1).1).2).1).2).2).2).2).2, (ba (ba (ba (ba (ba (ba (ba (ba (ba hg).2).1).1).2).2).1).1).1).1, trivial⟩⟩
theorem srf_27 : Cond.stringRef (jstr 27).1 (jstr 27).2.1 (jstr 27).2.2 ∈ tables_1 := List.mem_of_getElem? (i := 1495) (by decide +kernel)
theorem tx_28 : (jtxt 28).map Int32.ofInt = ([108, 101, 97, 115, 116] : List Int32) := by decide +kernel
theorem nar_28 {args : Array Value} {s : State} (hg : narrow_1.before args s = true) : strF args s (jstr 28).1 (jstr 28).2.1 ((jtxt 28).map Int32.ofInt) := by
  rw [tx_28]
  exact ⟨(ba (ba (ba (ba (ba (ba (ba (ba (ba hg).2).1).1).2).2).1).1).1).2, (ba (ba (ba (ba (ba (ba (ba (ba (ba hg).2).1).1).2).2).1).1).2).1, ⟨(ba (ba (ba (ba (ba (ba (ba (ba (ba (ba hg).2).1).1).2).2).1).1).2).2).1, (ba (ba (ba (ba (ba (ba (ba (ba (ba (ba hg).2).1).1).2).2).1).1).2).2).2, (ba (ba (ba (ba (ba (ba (ba (ba (ba hg).2).1).1).2).2).1).2).1).1, (ba (ba (ba (ba (ba (ba (ba (ba (ba hg).2).1).1).2).2).1).2).1).2, (ba (ba (ba (ba (ba (ba (ba (ba (ba hg).2).1).1).2).2).1).2).2).1, (ba (ba (ba (ba (ba (ba (ba (ba (ba (ba hg).2).1).1).2).2).1).2).2).2).1, (ba (ba (ba (ba (ba (ba (ba (ba (ba (ba hg).2).1).1).2).2).1).2).2).2).2, trivial⟩⟩
theorem srf_28 : Cond.stringRef (jstr 28).1 (jstr 28).2.1 (jstr 28).2.2 ∈ tables_1 := List.mem_of_getElem? (i := 1500) (by decide +kernel)
theorem tx_29 : (jtxt 29).map Int32.ofInt = ([99, 111, 111, 108, 115] : List Int32) := by decide +kernel
theorem nar_29 {args : Array Value} {s : State} (hg : narrow_1.before args s = true) : strF args s (jstr 29).1 (jstr 29).2.1 ((jtxt 29).map Int32.ofInt) := by
  rw [tx_29]
  exact ⟨(ba (ba (ba (ba (ba (ba (ba (ba (ba hg).2).1).1).2).2).2).1).1).2, (ba (ba (ba (ba (ba (ba (ba (ba (ba hg).2).1).1).2).2).2).1).2).1, ⟨(ba (ba (ba (ba (ba (ba (ba (ba (ba (ba hg).2).1).1).2).2).2).1).2).2).1, (ba (ba (ba (ba (ba (ba (ba (ba (ba (ba hg).2).1).1).2).2).2).1).2).2).2, (ba (ba (ba (ba (ba (ba (ba (ba (ba hg).2).1).1).2).2).2).2).1).1, (ba (ba (ba (ba (ba (ba (ba (ba (ba (ba hg).2).1).1).2).2).2).2).1).2).1, (ba (ba (ba (ba (ba (ba (ba (ba (ba (ba hg).2).1).1).2).2).2).2).1).2).2, (ba (ba (ba (ba (ba (ba (ba (ba (ba hg).2).1).1).2).2).2).2).2).1, (ba (ba (ba (ba (ba (ba (ba (ba (ba (ba hg).2).1).1).2).2).2).2).2).2).1, trivial⟩⟩
theorem srf_29 : Cond.stringRef (jstr 29).1 (jstr 29).2.1 (jstr 29).2.2 ∈ tables_1 := List.mem_of_getElem? (i := 1501) (by decide +kernel)
theorem tx_30 : (jtxt 30).map Int32.ofInt = ([107, 105, 110, 100] : List Int32) := by decide +kernel
theorem nar_30 {args : Array Value} {s : State} (hg : narrow_1.before args s = true) : strF args s (jstr 30).1 (jstr 30).2.1 ((jtxt 30).map Int32.ofInt) := by
  rw [tx_30]
  exact ⟨(ba (ba (ba (ba (ba (ba (ba (ba (ba hg).2).1).2).1).1).1).1).1).1, (ba (ba (ba (ba (ba (ba (ba (ba (ba hg).2).1).2).1).1).1).1).1).2, ⟨(ba (ba (ba (ba (ba (ba (ba (ba (ba hg).2).1).2).1).1).1).1).2).1, (ba (ba (ba (ba (ba (ba (ba (ba (ba (ba hg).2).1).2).1).1).1).1).2).2).1, (ba (ba (ba (ba (ba (ba (ba (ba (ba (ba hg).2).1).2).1).1).1).1).2).2).2, (ba (ba (ba (ba (ba (ba (ba (ba (ba hg).2).1).2).1).1).1).2).1).1, (ba (ba (ba (ba (ba (ba (ba (ba (ba hg).2).1).2).1).1).1).2).1).2, (ba (ba (ba (ba (ba (ba (ba (ba (ba hg).2).1).2).1).1).1).2).2).1, trivial⟩⟩
theorem srf_30 : Cond.stringRef (jstr 30).1 (jstr 30).2.1 (jstr 30).2.2 ∈ tables_1 := List.mem_of_getElem? (i := 1502) (by decide +kernel)
theorem tx_31 : (jtxt 31).map Int32.ofInt = ([98, 97, 116, 99, 104] : List Int32) := by decide +kernel
theorem nar_31 {args : Array Value} {s : State} (hg : narrow_1.before args s = true) : strF args s (jstr 31).1 (jstr 31).2.1 ((jtxt 31).map Int32.ofInt) := by
  rw [tx_31]
  exact ⟨(ba (ba (ba (ba (ba (ba (ba (ba (ba (ba hg).2).1).2).1).1).1).2).2).2).1, (ba (ba (ba (ba (ba (ba (ba (ba (ba (ba hg).2).1).2).1).1).1).2).2).2).2, ⟨(ba (ba (ba (ba (ba (ba (ba (ba (ba hg).2).1).2).1).1).2).1).1).1, (ba (ba (ba (ba (ba (ba (ba (ba (ba hg).2).1).2).1).1).2).1).1).2, (ba (ba (ba (ba (ba (ba (ba (ba (ba hg).2).1).2).1).1).2).1).2).1, (ba (ba (ba (ba (ba (ba (ba (ba (ba (ba hg).2).1).2).1).1).2).1).2).2).1, (ba (ba (ba (ba (ba (ba (ba (ba (ba (ba hg).2).1).2).1).1).2).1).2).2).2, (ba (ba (ba (ba (ba (ba (ba (ba (ba hg).2).1).2).1).1).2).2).1).1, (ba (ba (ba (ba (ba (ba (ba (ba (ba (ba hg).2).1).2).1).1).2).2).1).2).1, trivial⟩⟩
theorem srf_31 : Cond.stringRef (jstr 31).1 (jstr 31).2.1 (jstr 31).2.2 ∈ tables_1 := List.mem_of_getElem? (i := 1519) (by decide +kernel)
theorem tx_32 : (jtxt 32).map Int32.ofInt = ([116, 111, 111, 107] : List Int32) := by decide +kernel
theorem nar_32 {args : Array Value} {s : State} (hg : narrow_1.before args s = true) : strF args s (jstr 32).1 (jstr 32).2.1 ((jtxt 32).map Int32.ofInt) := by
  rw [tx_32]
  exact ⟨(ba (ba (ba (ba (ba (ba (ba (ba (ba (ba hg).2).1).2).1).1).2).2).1).2).2, (ba (ba (ba (ba (ba (ba (ba (ba (ba hg).2).1).2).1).1).2).2).2).1, ⟨(ba (ba (ba (ba (ba (ba (ba (ba (ba (ba hg).2).1).2).1).1).2).2).2).2).1, (ba (ba (ba (ba (ba (ba (ba (ba (ba (ba hg).2).1).2).1).1).2).2).2).2).2, (ba (ba (ba (ba (ba (ba (ba (ba (ba hg).2).1).2).1).2).1).1).1).1, (ba (ba (ba (ba (ba (ba (ba (ba (ba hg).2).1).2).1).2).1).1).1).2, (ba (ba (ba (ba (ba (ba (ba (ba (ba hg).2).1).2).1).2).1).1).2).1, (ba (ba (ba (ba (ba (ba (ba (ba (ba (ba hg).2).1).2).1).2).1).1).2).2).1, trivial⟩⟩
theorem srf_32 : Cond.stringRef (jstr 32).1 (jstr 32).2.1 (jstr 32).2.2 ∈ tables_1 := List.mem_of_getElem? (i := 1520) (by decide +kernel)
theorem tx_33 : (jtxt 33).map Int32.ofInt = ([116, 114, 111, 108, 108, 101, 121] : List Int32) := by decide +kernel
theorem nar_33 {args : Array Value} {s : State} (hg : narrow_1.before args s = true) : strF args s (jstr 33).1 (jstr 33).2.1 ((jtxt 33).map Int32.ofInt) := by
  rw [tx_33]
  exact ⟨(ba (ba (ba (ba (ba (ba (ba (ba (ba (ba hg).2).1).2).1).2).1).1).2).2).2, (ba (ba (ba (ba (ba (ba (ba (ba (ba hg).2).1).2).1).2).1).2).1).1, ⟨(ba (ba (ba (ba (ba (ba (ba (ba (ba hg).2).1).2).1).2).1).2).1).2, (ba (ba (ba (ba (ba (ba (ba (ba (ba hg).2).1).2).1).2).1).2).2).1, (ba (ba (ba (ba (ba (ba (ba (ba (ba (ba hg).2).1).2).1).2).1).2).2).2).1, (ba (ba (ba (ba (ba (ba (ba (ba (ba (ba hg).2).1).2).1).2).1).2).2).2).2, (ba (ba (ba (ba (ba (ba (ba (ba (ba hg).2).1).2).1).2).2).1).1).1, (ba (ba (ba (ba (ba (ba (ba (ba (ba hg).2).1).2).1).2).2).1).1).2, (ba (ba (ba (ba (ba (ba (ba (ba (ba hg).2).1).2).1).2).2).1).2).1, (ba (ba (ba (ba (ba (ba (ba (ba (ba (ba hg).2).1).2).1).2).2).1).2).2).1, (ba (ba (ba (ba (ba (ba (ba (ba (ba (ba hg).2).1).2).1).2).2).1).2).2).2, trivial⟩⟩
theorem srf_33 : Cond.stringRef (jstr 33).1 (jstr 33).2.1 (jstr 33).2.2 ∈ tables_1 := List.mem_of_getElem? (i := 1521) (by decide +kernel)
theorem tx_34 : (jtxt 34).map Int32.ofInt = ([108, 111, 97, 100] : List Int32) := by decide +kernel
theorem nar_34 {args : Array Value} {s : State} (hg : narrow_1.before args s = true) : strF args s (jstr 34).1 (jstr 34).2.1 ((jtxt 34).map Int32.ofInt) := by
  rw [tx_34]
  exact ⟨(ba (ba (ba (ba (ba (ba (ba (ba (ba hg).2).1).2).1).2).2).2).1).1, (ba (ba (ba (ba (ba (ba (ba (ba (ba (ba hg).2).1).2).1).2).2).2).1).2).1, ⟨(ba (ba (ba (ba (ba (ba (ba (ba (ba (ba hg).2).1).2).1).2).2).2).1).2).2, (ba (ba (ba (ba (ba (ba (ba (ba (ba hg).2).1).2).1).2).2).2).2).1, (ba (ba (ba (ba (ba (ba (ba (ba (ba (ba hg).2).1).2).1).2).2).2).2).2).1, (ba (ba (ba (ba (ba (ba (ba (ba (ba (ba hg).2).1).2).1).2).2).2).2).2).2, (ba (ba (ba (ba (ba (ba (ba (ba (ba hg).2).1).2).2).1).1).1).1).1, (ba (ba (ba (ba (ba (ba (ba (ba (ba hg).2).1).2).2).1).1).1).1).2, trivial⟩⟩
theorem srf_34 : Cond.stringRef (jstr 34).1 (jstr 34).2.1 (jstr 34).2.2 ∈ tables_1 := List.mem_of_getElem? (i := 1522) (by decide +kernel)
theorem tx_35 : (jtxt 35).map Int32.ofInt = ([98, 108, 111, 99, 107] : List Int32) := by decide +kernel
theorem nar_35 {args : Array Value} {s : State} (hg : narrow_1.before args s = true) : strF args s (jstr 35).1 (jstr 35).2.1 ((jtxt 35).map Int32.ofInt) := by
  rw [tx_35]
  exact ⟨(ba (ba (ba (ba (ba (ba (ba (ba (ba hg).2).1).2).2).1).1).1).2).1, (ba (ba (ba (ba (ba (ba (ba (ba (ba (ba hg).2).1).2).2).1).1).1).2).2).1, ⟨(ba (ba (ba (ba (ba (ba (ba (ba (ba (ba hg).2).1).2).2).1).1).1).2).2).2, (ba (ba (ba (ba (ba (ba (ba (ba (ba hg).2).1).2).2).1).1).2).1).1, (ba (ba (ba (ba (ba (ba (ba (ba (ba hg).2).1).2).2).1).1).2).1).2, (ba (ba (ba (ba (ba (ba (ba (ba (ba hg).2).1).2).2).1).1).2).2).1, (ba (ba (ba (ba (ba (ba (ba (ba (ba (ba hg).2).1).2).2).1).1).2).2).2).1, (ba (ba (ba (ba (ba (ba (ba (ba (ba (ba hg).2).1).2).2).1).1).2).2).2).2, (ba (ba (ba (ba (ba (ba (ba (ba (ba hg).2).1).2).2).1).2).1).1).1, trivial⟩⟩
theorem srf_35 : Cond.stringRef (jstr 35).1 (jstr 35).2.1 (jstr 35).2.2 ∈ tables_1 := List.mem_of_getElem? (i := 1523) (by decide +kernel)
theorem tx_36 : (jtxt 36).map Int32.ofInt = ([110, 97, 109, 101, 100] : List Int32) := by decide +kernel
theorem nar_36 {args : Array Value} {s : State} (hg : narrow_1.before args s = true) : strF args s (jstr 36).1 (jstr 36).2.1 ((jtxt 36).map Int32.ofInt) := by
  rw [tx_36]
  exact ⟨(ba (ba (ba (ba (ba (ba (ba (ba (ba hg).2).1).2).2).1).2).1).1).2, (ba (ba (ba (ba (ba (ba (ba (ba (ba hg).2).1).2).2).1).2).1).2).1, ⟨(ba (ba (ba (ba (ba (ba (ba (ba (ba (ba hg).2).1).2).2).1).2).1).2).2).1, (ba (ba (ba (ba (ba (ba (ba (ba (ba (ba hg).2).1).2).2).1).2).1).2).2).2, (ba (ba (ba (ba (ba (ba (ba (ba (ba hg).2).1).2).2).1).2).2).1).1, (ba (ba (ba (ba (ba (ba (ba (ba (ba (ba hg).2).1).2).2).1).2).2).1).2).1, (ba (ba (ba (ba (ba (ba (ba (ba (ba (ba hg).2).1).2).2).1).2).2).1).2).2, (ba (ba (ba (ba (ba (ba (ba (ba (ba hg).2).1).2).2).1).2).2).2).1, (ba (ba (ba (ba (ba (ba (ba (ba (ba (ba hg).2).1).2).2).1).2).2).2).2).1, trivial⟩⟩
theorem srf_36 : Cond.stringRef (jstr 36).1 (jstr 36).2.1 (jstr 36).2.2 ∈ tables_1 := List.mem_of_getElem? (i := 1524) (by decide +kernel)
theorem tx_37 : (jtxt 37).map Int32.ofInt = ([98, 101, 108, 116, 115] : List Int32) := by decide +kernel
theorem nar_37 {args : Array Value} {s : State} (hg : narrow_1.before args s = true) : strF args s (jstr 37).1 (jstr 37).2.1 ((jtxt 37).map Int32.ofInt) := by
  rw [tx_37]
  exact ⟨(ba (ba (ba (ba (ba (ba (ba (ba (ba (ba hg).2).1).2).2).1).2).2).2).2).2, (ba (ba (ba (ba (ba (ba (ba (ba (ba hg).2).1).2).2).2).1).1).1).1, ⟨(ba (ba (ba (ba (ba (ba (ba (ba (ba hg).2).1).2).2).2).1).1).1).2, (ba (ba (ba (ba (ba (ba (ba (ba (ba hg).2).1).2).2).2).1).1).2).1, (ba (ba (ba (ba (ba (ba (ba (ba (ba (ba hg).2).1).2).2).2).1).1).2).2).1, (ba (ba (ba (ba (ba (ba (ba (ba (ba (ba hg).2).1).2).2).2).1).1).2).2).2, (ba (ba (ba (ba (ba (ba (ba (ba (ba hg).2).1).2).2).2).1).2).1).1, (ba (ba (ba (ba (ba (ba (ba (ba (ba hg).2).1).2).2).2).1).2).1).2, (ba (ba (ba (ba (ba (ba (ba (ba (ba hg).2).1).2).2).2).1).2).2).1, trivial⟩⟩
theorem srf_37 : Cond.stringRef (jstr 37).1 (jstr 37).2.1 (jstr 37).2.2 ∈ tables_1 := List.mem_of_getElem? (i := 1525) (by decide +kernel)
theorem tx_38 : (jtxt 38).map Int32.ofInt = ([103, 97, 112] : List Int32) := by decide +kernel
theorem nar_38 {args : Array Value} {s : State} (hg : narrow_1.before args s = true) : strF args s (jstr 38).1 (jstr 38).2.1 ((jtxt 38).map Int32.ofInt) := by
  rw [tx_38]
  exact ⟨(ba (ba (ba (ba (ba (ba (ba (ba (ba (ba hg).2).1).2).2).2).1).2).2).2).1, (ba (ba (ba (ba (ba (ba (ba (ba (ba (ba hg).2).1).2).2).2).1).2).2).2).2, ⟨(ba (ba (ba (ba (ba (ba (ba (ba (ba hg).2).1).2).2).2).2).1).1).1, (ba (ba (ba (ba (ba (ba (ba (ba (ba hg).2).1).2).2).2).2).1).1).2, (ba (ba (ba (ba (ba (ba (ba (ba (ba hg).2).1).2).2).2).2).1).2).1, (ba (ba (ba (ba (ba (ba (ba (ba (ba (ba hg).2).1).2).2).2).2).1).2).2).1, (ba (ba (ba (ba (ba (ba (ba (ba (ba (ba hg).2).1).2).2).2).2).1).2).2).2, trivial⟩⟩
theorem srf_38 : Cond.stringRef (jstr 38).1 (jstr 38).2.1 (jstr 38).2.2 ∈ tables_1 := List.mem_of_getElem? (i := 1526) (by decide +kernel)
theorem tx_39 : (jtxt 39).map Int32.ofInt = ([112, 97, 115, 116] : List Int32) := by decide +kernel
theorem nar_39 {args : Array Value} {s : State} (hg : narrow_1.before args s = true) : strF args s (jstr 39).1 (jstr 39).2.1 ((jtxt 39).map Int32.ofInt) := by
  rw [tx_39]
  exact ⟨(ba (ba (ba (ba (ba (ba (ba (ba (ba hg).2).1).2).2).2).2).2).1).1, (ba (ba (ba (ba (ba (ba (ba (ba (ba (ba hg).2).1).2).2).2).2).2).1).2).1, ⟨(ba (ba (ba (ba (ba (ba (ba (ba (ba (ba hg).2).1).2).2).2).2).2).1).2).2, (ba (ba (ba (ba (ba (ba (ba (ba (ba hg).2).1).2).2).2).2).2).2).1, (ba (ba (ba (ba (ba (ba (ba (ba (ba (ba hg).2).1).2).2).2).2).2).2).2).1, (ba (ba (ba (ba (ba (ba (ba (ba (ba (ba hg).2).1).2).2).2).2).2).2).2).2, (ba (ba (ba (ba (ba (ba (ba (ba (ba hg).2).2).1).1).1).1).1).1).1, (ba (ba (ba (ba (ba (ba (ba (ba (ba hg).2).2).1).1).1).1).1).1).2, trivial⟩⟩
theorem srf_39 : Cond.stringRef (jstr 39).1 (jstr 39).2.1 (jstr 39).2.2 ∈ tables_1 := List.mem_of_getElem? (i := 1527) (by decide +kernel)
theorem tx_40 : (jtxt 40).map Int32.ofInt = ([100, 114, 105, 110, 107] : List Int32) := by decide +kernel
theorem nar_40 {args : Array Value} {s : State} (hg : narrow_1.before args s = true) : strF args s (jstr 40).1 (jstr 40).2.1 ((jtxt 40).map Int32.ofInt) := by
  rw [tx_40]
  exact ⟨(ba (ba (ba (ba (ba (ba (ba (ba (ba hg).2).2).1).1).1).1).1).2).1, (ba (ba (ba (ba (ba (ba (ba (ba (ba (ba hg).2).2).1).1).1).1).1).2).2).1, ⟨(ba (ba (ba (ba (ba (ba (ba (ba (ba (ba hg).2).2).1).1).1).1).1).2).2).2, (ba (ba (ba (ba (ba (ba (ba (ba (ba hg).2).2).1).1).1).1).2).1).1, (ba (ba (ba (ba (ba (ba (ba (ba (ba hg).2).2).1).1).1).1).2).1).2, (ba (ba (ba (ba (ba (ba (ba (ba (ba hg).2).2).1).1).1).1).2).2).1, (ba (ba (ba (ba (ba (ba (ba (ba (ba (ba hg).2).2).1).1).1).1).2).2).2).1, (ba (ba (ba (ba (ba (ba (ba (ba (ba (ba hg).2).2).1).1).1).1).2).2).2).2, (ba (ba (ba (ba (ba (ba (ba (ba (ba hg).2).2).1).1).1).2).1).1).1, trivial⟩⟩
theorem srf_40 : Cond.stringRef (jstr 40).1 (jstr 40).2.1 (jstr 40).2.2 ∈ tables_1 := List.mem_of_getElem? (i := 1528) (by decide +kernel)
theorem tx_41 : (jtxt 41).map Int32.ofInt = ([99, 104, 105, 108, 100] : List Int32) := by decide +kernel
theorem nar_41 {args : Array Value} {s : State} (hg : narrow_1.before args s = true) : strF args s (jstr 41).1 (jstr 41).2.1 ((jtxt 41).map Int32.ofInt) := by
  rw [tx_41]
  exact ⟨(ba (ba (ba (ba (ba (ba (ba (ba (ba hg).2).2).1).1).1).2).1).1).2, (ba (ba (ba (ba (ba (ba (ba (ba (ba hg).2).2).1).1).1).2).1).2).1, ⟨(ba (ba (ba (ba (ba (ba (ba (ba (ba (ba hg).2).2).1).1).1).2).1).2).2).1, (ba (ba (ba (ba (ba (ba (ba (ba (ba (ba hg).2).2).1).1).1).2).1).2).2).2, (ba (ba (ba (ba (ba (ba (ba (ba (ba hg).2).2).1).1).1).2).2).1).1, (ba (ba (ba (ba (ba (ba (ba (ba (ba (ba hg).2).2).1).1).1).2).2).1).2).1, (ba (ba (ba (ba (ba (ba (ba (ba (ba (ba hg).2).2).1).1).1).2).2).1).2).2, (ba (ba (ba (ba (ba (ba (ba (ba (ba hg).2).2).1).1).1).2).2).2).1, (ba (ba (ba (ba (ba (ba (ba (ba (ba (ba hg).2).2).1).1).1).2).2).2).2).1, trivial⟩⟩
theorem srf_41 : Cond.stringRef (jstr 41).1 (jstr 41).2.1 (jstr 41).2.2 ∈ tables_1 := List.mem_of_getElem? (i := 1529) (by decide +kernel)
theorem tx_42 : (jtxt 42).map Int32.ofInt = ([115, 104, 97, 112, 101] : List Int32) := by decide +kernel
theorem nar_42 {args : Array Value} {s : State} (hg : narrow_1.before args s = true) : strF args s (jstr 42).1 (jstr 42).2.1 ((jtxt 42).map Int32.ofInt) := by
  rw [tx_42]
  exact ⟨(ba (ba (ba (ba (ba (ba (ba (ba (ba hg).2).2).1).1).2).1).1).1).1, (ba (ba (ba (ba (ba (ba (ba (ba (ba hg).2).2).1).1).2).1).1).1).2, ⟨(ba (ba (ba (ba (ba (ba (ba (ba (ba hg).2).2).1).1).2).1).1).2).1, (ba (ba (ba (ba (ba (ba (ba (ba (ba (ba hg).2).2).1).1).2).1).1).2).2).1, (ba (ba (ba (ba (ba (ba (ba (ba (ba (ba hg).2).2).1).1).2).1).1).2).2).2, (ba (ba (ba (ba (ba (ba (ba (ba (ba hg).2).2).1).1).2).1).2).1).1, (ba (ba (ba (ba (ba (ba (ba (ba (ba hg).2).2).1).1).2).1).2).1).2, (ba (ba (ba (ba (ba (ba (ba (ba (ba hg).2).2).1).1).2).1).2).2).1, (ba (ba (ba (ba (ba (ba (ba (ba (ba (ba hg).2).2).1).1).2).1).2).2).2).1, trivial⟩⟩
theorem srf_42 : Cond.stringRef (jstr 42).1 (jstr 42).2.1 (jstr 42).2.2 ∈ tables_1 := List.mem_of_getElem? (i := 1534) (by decide +kernel)
theorem tx_43 : (jtxt 43).map Int32.ofInt = ([104, 111, 116] : List Int32) := by decide +kernel
theorem nar_43 {args : Array Value} {s : State} (hg : narrow_1.before args s = true) : strF args s (jstr 43).1 (jstr 43).2.1 ((jtxt 43).map Int32.ofInt) := by
  rw [tx_43]
  exact ⟨(ba (ba (ba (ba (ba (ba (ba (ba (ba hg).2).2).1).1).2).2).1).1).1, (ba (ba (ba (ba (ba (ba (ba (ba (ba hg).2).2).1).1).2).2).1).1).2, ⟨(ba (ba (ba (ba (ba (ba (ba (ba (ba hg).2).2).1).1).2).2).1).2).1, (ba (ba (ba (ba (ba (ba (ba (ba (ba (ba hg).2).2).1).1).2).2).1).2).2).1, (ba (ba (ba (ba (ba (ba (ba (ba (ba (ba hg).2).2).1).1).2).2).1).2).2).2, (ba (ba (ba (ba (ba (ba (ba (ba (ba hg).2).2).1).1).2).2).2).1).1, (ba (ba (ba (ba (ba (ba (ba (ba (ba (ba hg).2).2).1).1).2).2).2).1).2).1, trivial⟩⟩
theorem srf_43 : Cond.stringRef (jstr 43).1 (jstr 43).2.1 (jstr 43).2.2 ∈ tables_1 := List.mem_of_getElem? (i := 1535) (by decide +kernel)
theorem tx_44 : (jtxt 44).map Int32.ofInt = ([97, 116] : List Int32) := by decide +kernel
theorem nar_44 {args : Array Value} {s : State} (hg : narrow_1.before args s = true) : strF args s (jstr 44).1 (jstr 44).2.1 ((jtxt 44).map Int32.ofInt) := by
  rw [tx_44]
  exact ⟨(ba (ba (ba (ba (ba (ba (ba (ba (ba hg).2).2).1).1).2).2).2).2).1, (ba (ba (ba (ba (ba (ba (ba (ba (ba (ba hg).2).2).1).1).2).2).2).2).2).1, ⟨(ba (ba (ba (ba (ba (ba (ba (ba (ba (ba hg).2).2).1).1).2).2).2).2).2).2, (ba (ba (ba (ba (ba (ba (ba (ba (ba hg).2).2).1).2).1).1).1).1).1, (ba (ba (ba (ba (ba (ba (ba (ba (ba hg).2).2).1).2).1).1).1).1).2, (ba (ba (ba (ba (ba (ba (ba (ba (ba hg).2).2).1).2).1).1).1).2).1, trivial⟩⟩
theorem srf_44 : Cond.stringRef (jstr 44).1 (jstr 44).2.1 (jstr 44).2.2 ∈ tables_1 := List.mem_of_getElem? (i := 1548) (by decide +kernel)
theorem tx_45 : (jtxt 45).map Int32.ofInt = ([111, 102] : List Int32) := by decide +kernel
theorem nar_45 {args : Array Value} {s : State} (hg : narrow_1.before args s = true) : strF args s (jstr 45).1 (jstr 45).2.1 ((jtxt 45).map Int32.ofInt) := by
  rw [tx_45]
  exact ⟨(ba (ba (ba (ba (ba (ba (ba (ba (ba (ba hg).2).2).1).2).1).1).1).2).2).2, (ba (ba (ba (ba (ba (ba (ba (ba (ba hg).2).2).1).2).1).1).2).1).1, ⟨(ba (ba (ba (ba (ba (ba (ba (ba (ba hg).2).2).1).2).1).1).2).1).2, (ba (ba (ba (ba (ba (ba (ba (ba (ba hg).2).2).1).2).1).1).2).2).1, (ba (ba (ba (ba (ba (ba (ba (ba (ba (ba hg).2).2).1).2).1).1).2).2).2).1, (ba (ba (ba (ba (ba (ba (ba (ba (ba (ba hg).2).2).1).2).1).1).2).2).2).2, trivial⟩⟩
theorem srf_45 : Cond.stringRef (jstr 45).1 (jstr 45).2.1 (jstr 45).2.2 ∈ tables_1 := List.mem_of_getElem? (i := 1553) (by decide +kernel)
theorem tx_46 : (jtxt 46).map Int32.ofInt = ([102, 114, 111, 110, 116] : List Int32) := by decide +kernel
theorem nar_46 {args : Array Value} {s : State} (hg : narrow_1.before args s = true) : strF args s (jstr 46).1 (jstr 46).2.1 ((jtxt 46).map Int32.ofInt) := by
  rw [tx_46]
  exact ⟨(ba (ba (ba (ba (ba (ba (ba (ba (ba hg).2).2).1).2).1).2).1).1).2, (ba (ba (ba (ba (ba (ba (ba (ba (ba hg).2).2).1).2).1).2).1).2).1, ⟨(ba (ba (ba (ba (ba (ba (ba (ba (ba (ba hg).2).2).1).2).1).2).1).2).2).1, (ba (ba (ba (ba (ba (ba (ba (ba (ba (ba hg).2).2).1).2).1).2).1).2).2).2, (ba (ba (ba (ba (ba (ba (ba (ba (ba hg).2).2).1).2).1).2).2).1).1, (ba (ba (ba (ba (ba (ba (ba (ba (ba (ba hg).2).2).1).2).1).2).2).1).2).1, (ba (ba (ba (ba (ba (ba (ba (ba (ba (ba hg).2).2).1).2).1).2).2).1).2).2, (ba (ba (ba (ba (ba (ba (ba (ba (ba hg).2).2).1).2).1).2).2).2).1, (ba (ba (ba (ba (ba (ba (ba (ba (ba (ba hg).2).2).1).2).1).2).2).2).2).1, trivial⟩⟩
theorem srf_46 : Cond.stringRef (jstr 46).1 (jstr 46).2.1 (jstr 46).2.2 ∈ tables_1 := List.mem_of_getElem? (i := 1558) (by decide +kernel)
theorem tx_47 : (jtxt 47).map Int32.ofInt = ([98, 97, 99, 107] : List Int32) := by decide +kernel
theorem nar_47 {args : Array Value} {s : State} (hg : narrow_1.before args s = true) : strF args s (jstr 47).1 (jstr 47).2.1 ((jtxt 47).map Int32.ofInt) := by
  rw [tx_47]
  exact ⟨(ba (ba (ba (ba (ba (ba (ba (ba (ba hg).2).2).1).2).2).1).1).1).1, (ba (ba (ba (ba (ba (ba (ba (ba (ba hg).2).2).1).2).2).1).1).1).2, ⟨(ba (ba (ba (ba (ba (ba (ba (ba (ba hg).2).2).1).2).2).1).1).2).1, (ba (ba (ba (ba (ba (ba (ba (ba (ba (ba hg).2).2).1).2).2).1).1).2).2).1, (ba (ba (ba (ba (ba (ba (ba (ba (ba (ba hg).2).2).1).2).2).1).1).2).2).2, (ba (ba (ba (ba (ba (ba (ba (ba (ba hg).2).2).1).2).2).1).2).1).1, (ba (ba (ba (ba (ba (ba (ba (ba (ba hg).2).2).1).2).2).1).2).1).2, (ba (ba (ba (ba (ba (ba (ba (ba (ba hg).2).2).1).2).2).1).2).2).1, trivial⟩⟩
theorem srf_47 : Cond.stringRef (jstr 47).1 (jstr 47).2.1 (jstr 47).2.2 ∈ tables_1 := List.mem_of_getElem? (i := 1559) (by decide +kernel)
theorem tx_48 : (jtxt 48).map Int32.ofInt = ([100, 114, 97, 119, 101, 114, 115] : List Int32) := by decide +kernel
theorem nar_48 {args : Array Value} {s : State} (hg : narrow_1.before args s = true) : strF args s (jstr 48).1 (jstr 48).2.1 ((jtxt 48).map Int32.ofInt) := by
  rw [tx_48]
  exact ⟨(ba (ba (ba (ba (ba (ba (ba (ba (ba (ba hg).2).2).1).2).2).1).2).2).2).2, (ba (ba (ba (ba (ba (ba (ba (ba (ba hg).2).2).1).2).2).2).1).1).1, ⟨(ba (ba (ba (ba (ba (ba (ba (ba (ba hg).2).2).1).2).2).2).1).1).2, (ba (ba (ba (ba (ba (ba (ba (ba (ba hg).2).2).1).2).2).2).1).2).1, (ba (ba (ba (ba (ba (ba (ba (ba (ba (ba hg).2).2).1).2).2).2).1).2).2).1, (ba (ba (ba (ba (ba (ba (ba (ba (ba (ba hg).2).2).1).2).2).2).1).2).2).2, (ba (ba (ba (ba (ba (ba (ba (ba (ba hg).2).2).1).2).2).2).2).1).1, (ba (ba (ba (ba (ba (ba (ba (ba (ba (ba hg).2).2).1).2).2).2).2).1).2).1, (ba (ba (ba (ba (ba (ba (ba (ba (ba (ba hg).2).2).1).2).2).2).2).1).2).2, (ba (ba (ba (ba (ba (ba (ba (ba (ba hg).2).2).1).2).2).2).2).2).1, (ba (ba (ba (ba (ba (ba (ba (ba (ba (ba hg).2).2).1).2).2).2).2).2).2).1, trivial⟩⟩
theorem srf_48 : Cond.stringRef (jstr 48).1 (jstr 48).2.1 (jstr 48).2.2 ∈ tables_1 := List.mem_of_getElem? (i := 1564) (by decide +kernel)
theorem tx_49 : (jtxt 49).map Int32.ofInt = ([104, 111, 108, 100, 115] : List Int32) := by decide +kernel
theorem nar_49 {args : Array Value} {s : State} (hg : narrow_1.before args s = true) : strF args s (jstr 49).1 (jstr 49).2.1 ((jtxt 49).map Int32.ofInt) := by
  rw [tx_49]
  exact ⟨(ba (ba (ba (ba (ba (ba (ba (ba (ba hg).2).2).2).1).1).1).1).1).1, (ba (ba (ba (ba (ba (ba (ba (ba (ba hg).2).2).2).1).1).1).1).1).2, ⟨(ba (ba (ba (ba (ba (ba (ba (ba (ba hg).2).2).2).1).1).1).1).2).1, (ba (ba (ba (ba (ba (ba (ba (ba (ba (ba hg).2).2).2).1).1).1).1).2).2).1, (ba (ba (ba (ba (ba (ba (ba (ba (ba (ba hg).2).2).2).1).1).1).1).2).2).2, (ba (ba (ba (ba (ba (ba (ba (ba (ba hg).2).2).2).1).1).1).2).1).1, (ba (ba (ba (ba (ba (ba (ba (ba (ba hg).2).2).2).1).1).1).2).1).2, (ba (ba (ba (ba (ba (ba (ba (ba (ba hg).2).2).2).1).1).1).2).2).1, (ba (ba (ba (ba (ba (ba (ba (ba (ba (ba hg).2).2).2).1).1).1).2).2).2).1, trivial⟩⟩
theorem srf_49 : Cond.stringRef (jstr 49).1 (jstr 49).2.1 (jstr 49).2.2 ∈ tables_1 := List.mem_of_getElem? (i := 1565) (by decide +kernel)
theorem tx_50 : (jtxt 50).map Int32.ofInt = ([109, 97, 110, 121] : List Int32) := by decide +kernel
theorem nar_50 {args : Array Value} {s : State} (hg : narrow_1.before args s = true) : strF args s (jstr 50).1 (jstr 50).2.1 ((jtxt 50).map Int32.ofInt) := by
  rw [tx_50]
  exact ⟨(ba (ba (ba (ba (ba (ba (ba (ba (ba hg).2).2).2).1).1).2).1).1).1, (ba (ba (ba (ba (ba (ba (ba (ba (ba hg).2).2).2).1).1).2).1).1).2, ⟨(ba (ba (ba (ba (ba (ba (ba (ba (ba hg).2).2).2).1).1).2).1).2).1, (ba (ba (ba (ba (ba (ba (ba (ba (ba (ba hg).2).2).2).1).1).2).1).2).2).1, (ba (ba (ba (ba (ba (ba (ba (ba (ba (ba hg).2).2).2).1).1).2).1).2).2).2, (ba (ba (ba (ba (ba (ba (ba (ba (ba hg).2).2).2).1).1).2).2).1).1, (ba (ba (ba (ba (ba (ba (ba (ba (ba (ba hg).2).2).2).1).1).2).2).1).2).1, (ba (ba (ba (ba (ba (ba (ba (ba (ba (ba hg).2).2).2).1).1).2).2).1).2).2, trivial⟩⟩
theorem srf_50 : Cond.stringRef (jstr 50).1 (jstr 50).2.1 (jstr 50).2.2 ∈ tables_1 := List.mem_of_getElem? (i := 1570) (by decide +kernel)
theorem tx_51 : (jtxt 51).map Int32.ofInt = ([116, 111] : List Int32) := by decide +kernel
theorem nar_51 {args : Array Value} {s : State} (hg : narrow_1.before args s = true) : strF args s (jstr 51).1 (jstr 51).2.1 ((jtxt 51).map Int32.ofInt) := by
  rw [tx_51]
  exact ⟨(ba (ba (ba (ba (ba (ba (ba (ba (ba (ba hg).2).2).2).1).1).2).2).2).2).1, (ba (ba (ba (ba (ba (ba (ba (ba (ba (ba hg).2).2).2).1).1).2).2).2).2).2, ⟨(ba (ba (ba (ba (ba (ba (ba (ba (ba hg).2).2).2).1).2).1).1).1).1, (ba (ba (ba (ba (ba (ba (ba (ba (ba hg).2).2).2).1).2).1).1).1).2, (ba (ba (ba (ba (ba (ba (ba (ba (ba hg).2).2).2).1).2).1).1).2).1, (ba (ba (ba (ba (ba (ba (ba (ba (ba (ba hg).2).2).2).1).2).1).1).2).2).1, trivial⟩⟩
theorem srf_51 : Cond.stringRef (jstr 51).1 (jstr 51).2.1 (jstr 51).2.2 ∈ tables_1 := List.mem_of_getElem? (i := 1575) (by decide +kernel)
theorem tx_52 : (jtxt 52).map Int32.ofInt = ([115, 101, 97, 116, 115] : List Int32) := by decide +kernel
theorem nar_52 {args : Array Value} {s : State} (hg : narrow_1.before args s = true) : strF args s (jstr 52).1 (jstr 52).2.1 ((jtxt 52).map Int32.ofInt) := by
  rw [tx_52]
  exact ⟨(ba (ba (ba (ba (ba (ba (ba (ba (ba hg).2).2).2).1).2).1).2).1).1, (ba (ba (ba (ba (ba (ba (ba (ba (ba hg).2).2).2).1).2).1).2).1).2, ⟨(ba (ba (ba (ba (ba (ba (ba (ba (ba hg).2).2).2).1).2).1).2).2).1, (ba (ba (ba (ba (ba (ba (ba (ba (ba (ba hg).2).2).2).1).2).1).2).2).2).1, (ba (ba (ba (ba (ba (ba (ba (ba (ba (ba hg).2).2).2).1).2).1).2).2).2).2, (ba (ba (ba (ba (ba (ba (ba (ba (ba hg).2).2).2).1).2).2).1).1).1, (ba (ba (ba (ba (ba (ba (ba (ba (ba hg).2).2).2).1).2).2).1).1).2, (ba (ba (ba (ba (ba (ba (ba (ba (ba hg).2).2).2).1).2).2).1).2).1, (ba (ba (ba (ba (ba (ba (ba (ba (ba (ba hg).2).2).2).1).2).2).1).2).2).1, trivial⟩⟩
theorem srf_52 : Cond.stringRef (jstr 52).1 (jstr 52).2.1 (jstr 52).2.2 ∈ tables_1 := List.mem_of_getElem? (i := 1576) (by decide +kernel)
theorem tx_53 : (jtxt 53).map Int32.ofInt = ([108, 105, 107, 101, 115] : List Int32) := by decide +kernel
theorem nar_53 {args : Array Value} {s : State} (hg : narrow_1.before args s = true) : strF args s (jstr 53).1 (jstr 53).2.1 ((jtxt 53).map Int32.ofInt) := by
  rw [tx_53]
  exact ⟨(ba (ba (ba (ba (ba (ba (ba (ba (ba hg).2).2).2).1).2).2).2).1).1, (ba (ba (ba (ba (ba (ba (ba (ba (ba (ba hg).2).2).2).1).2).2).2).1).2).1, ⟨(ba (ba (ba (ba (ba (ba (ba (ba (ba (ba hg).2).2).2).1).2).2).2).1).2).2, (ba (ba (ba (ba (ba (ba (ba (ba (ba hg).2).2).2).1).2).2).2).2).1, (ba (ba (ba (ba (ba (ba (ba (ba (ba (ba hg).2).2).2).1).2).2).2).2).2).1, (ba (ba (ba (ba (ba (ba (ba (ba (ba (ba hg).2).2).2).1).2).2).2).2).2).2, (ba (ba (ba (ba (ba (ba (ba (ba (ba hg).2).2).2).2).1).1).1).1).1, (ba (ba (ba (ba (ba (ba (ba (ba (ba hg).2).2).2).2).1).1).1).1).2, (ba (ba (ba (ba (ba (ba (ba (ba (ba hg).2).2).2).2).1).1).1).2).1, trivial⟩⟩
theorem srf_53 : Cond.stringRef (jstr 53).1 (jstr 53).2.1 (jstr 53).2.2 ∈ tables_1 := List.mem_of_getElem? (i := 1577) (by decide +kernel)
theorem tx_54 : (jtxt 54).map Int32.ofInt = ([114, 111, 119] : List Int32) := by decide +kernel
theorem nar_54 {args : Array Value} {s : State} (hg : narrow_1.before args s = true) : strF args s (jstr 54).1 (jstr 54).2.1 ((jtxt 54).map Int32.ofInt) := by
  rw [tx_54]
  exact ⟨(ba (ba (ba (ba (ba (ba (ba (ba (ba (ba hg).2).2).2).2).1).1).1).2).2).2, (ba (ba (ba (ba (ba (ba (ba (ba (ba hg).2).2).2).2).1).1).2).1).1, ⟨(ba (ba (ba (ba (ba (ba (ba (ba (ba hg).2).2).2).2).1).1).2).1).2, (ba (ba (ba (ba (ba (ba (ba (ba (ba hg).2).2).2).2).1).1).2).2).1, (ba (ba (ba (ba (ba (ba (ba (ba (ba (ba hg).2).2).2).2).1).1).2).2).2).1, (ba (ba (ba (ba (ba (ba (ba (ba (ba (ba hg).2).2).2).2).1).1).2).2).2).2, (ba (ba (ba (ba (ba (ba (ba (ba (ba hg).2).2).2).2).1).2).1).1).1, trivial⟩⟩
theorem srf_54 : Cond.stringRef (jstr 54).1 (jstr 54).2.1 (jstr 54).2.2 ∈ tables_1 := List.mem_of_getElem? (i := 1586) (by decide +kernel)
theorem tx_55 : (jtxt 55).map Int32.ofInt = ([101, 97, 116, 115] : List Int32) := by decide +kernel
theorem nar_55 {args : Array Value} {s : State} (hg : narrow_1.before args s = true) : strF args s (jstr 55).1 (jstr 55).2.1 ((jtxt 55).map Int32.ofInt) := by
  rw [tx_55]
  exact ⟨(ba (ba (ba (ba (ba (ba (ba (ba (ba hg).2).2).2).2).1).2).1).2).1, (ba (ba (ba (ba (ba (ba (ba (ba (ba (ba hg).2).2).2).2).1).2).1).2).2).1, ⟨(ba (ba (ba (ba (ba (ba (ba (ba (ba (ba hg).2).2).2).2).1).2).1).2).2).2, (ba (ba (ba (ba (ba (ba (ba (ba (ba hg).2).2).2).2).1).2).2).1).1, (ba (ba (ba (ba (ba (ba (ba (ba (ba (ba hg).2).2).2).2).1).2).2).1).2).1, (ba (ba (ba (ba (ba (ba (ba (ba (ba (ba hg).2).2).2).2).1).2).2).1).2).2, (ba (ba (ba (ba (ba (ba (ba (ba (ba hg).2).2).2).2).1).2).2).2).1, (ba (ba (ba (ba (ba (ba (ba (ba (ba (ba hg).2).2).2).2).1).2).2).2).2).1, trivial⟩⟩
theorem srf_55 : Cond.stringRef (jstr 55).1 (jstr 55).2.1 (jstr 55).2.2 ∈ tables_1 := List.mem_of_getElem? (i := 1587) (by decide +kernel)
theorem tx_56 : (jtxt 56).map Int32.ofInt = ([102, 114, 111, 109] : List Int32) := by decide +kernel
theorem nar_56 {args : Array Value} {s : State} (hg : narrow_1.before args s = true) : strF args s (jstr 56).1 (jstr 56).2.1 ((jtxt 56).map Int32.ofInt) := by
  rw [tx_56]
  exact ⟨(ba (ba (ba (ba (ba (ba (ba (ba (ba hg).2).2).2).2).2).1).1).1).1, (ba (ba (ba (ba (ba (ba (ba (ba (ba hg).2).2).2).2).2).1).1).1).2, ⟨(ba (ba (ba (ba (ba (ba (ba (ba (ba hg).2).2).2).2).2).1).1).2).1, (ba (ba (ba (ba (ba (ba (ba (ba (ba (ba hg).2).2).2).2).2).1).1).2).2).1, (ba (ba (ba (ba (ba (ba (ba (ba (ba (ba hg).2).2).2).2).2).1).1).2).2).2, (ba (ba (ba (ba (ba (ba (ba (ba (ba hg).2).2).2).2).2).1).2).1).1, (ba (ba (ba (ba (ba (ba (ba (ba (ba (ba hg).2).2).2).2).2).1).2).1).2).1, (ba (ba (ba (ba (ba (ba (ba (ba (ba (ba hg).2).2).2).2).2).1).2).1).2).2, trivial⟩⟩
theorem srf_56 : Cond.stringRef (jstr 56).1 (jstr 56).2.1 (jstr 56).2.2 ∈ tables_1 := List.mem_of_getElem? (i := 1604) (by decide +kernel)
theorem tx_57 : (jtxt 57).map Int32.ofInt = ([112, 114, 105, 99, 101] : List Int32) := by decide +kernel
theorem nar_57 {args : Array Value} {s : State} (hg : narrow_1.before args s = true) : strF args s (jstr 57).1 (jstr 57).2.1 ((jtxt 57).map Int32.ofInt) := by
  rw [tx_57]
  exact ⟨(ba (ba (ba (ba (ba (ba (ba (ba (ba (ba hg).2).2).2).2).2).1).2).2).2).1, (ba (ba (ba (ba (ba (ba (ba (ba (ba (ba hg).2).2).2).2).2).1).2).2).2).2, ⟨(ba (ba (ba (ba (ba (ba (ba (ba (ba hg).2).2).2).2).2).2).1).1).1, (ba (ba (ba (ba (ba (ba (ba (ba (ba hg).2).2).2).2).2).2).1).1).2, (ba (ba (ba (ba (ba (ba (ba (ba (ba hg).2).2).2).2).2).2).1).2).1, (ba (ba (ba (ba (ba (ba (ba (ba (ba (ba hg).2).2).2).2).2).2).1).2).2).1, (ba (ba (ba (ba (ba (ba (ba (ba (ba (ba hg).2).2).2).2).2).2).1).2).2).2, (ba (ba (ba (ba (ba (ba (ba (ba (ba hg).2).2).2).2).2).2).2).1).1, (ba (ba (ba (ba (ba (ba (ba (ba (ba (ba hg).2).2).2).2).2).2).2).1).2).1, trivial⟩⟩
theorem srf_57 : Cond.stringRef (jstr 57).1 (jstr 57).2.1 (jstr 57).2.2 ∈ tables_1 := List.mem_of_getElem? (i := 1609) (by decide +kernel)
theorem nar_all {args : Array Value} {s : State} (hg : narrow_1.before args s = true) : ∀ i, i < 58 → strF args s (jstr i).1 (jstr i).2.1 ((jtxt i).map Int32.ofInt) := fun i h => match i, h with
  | 0, _ => nar_0 hg
  | 1, _ => nar_1 hg
  | 2, _ => nar_2 hg
  | 3, _ => nar_3 hg
  | 4, _ => nar_4 hg
  | 5, _ => nar_5 hg
  | 6, _ => nar_6 hg
  | 7, _ => nar_7 hg
  | 8, _ => nar_8 hg
  | 9, _ => nar_9 hg
  | 10, _ => nar_10 hg
  | 11, _ => nar_11 hg
  | 12, _ => nar_12 hg
  | 13, _ => nar_13 hg
  | 14, _ => nar_14 hg
  | 15, _ => nar_15 hg
  | 16, _ => nar_16 hg
  | 17, _ => nar_17 hg
  | 18, _ => nar_18 hg
  | 19, _ => nar_19 hg
  | 20, _ => nar_20 hg
  | 21, _ => nar_21 hg
  | 22, _ => nar_22 hg
  | 23, _ => nar_23 hg
  | 24, _ => nar_24 hg
  | 25, _ => nar_25 hg
  | 26, _ => nar_26 hg
  | 27, _ => nar_27 hg
  | 28, _ => nar_28 hg
  | 29, _ => nar_29 hg
  | 30, _ => nar_30 hg
  | 31, _ => nar_31 hg
  | 32, _ => nar_32 hg
  | 33, _ => nar_33 hg
  | 34, _ => nar_34 hg
  | 35, _ => nar_35 hg
  | 36, _ => nar_36 hg
  | 37, _ => nar_37 hg
  | 38, _ => nar_38 hg
  | 39, _ => nar_39 hg
  | 40, _ => nar_40 hg
  | 41, _ => nar_41 hg
  | 42, _ => nar_42 hg
  | 43, _ => nar_43 hg
  | 44, _ => nar_44 hg
  | 45, _ => nar_45 hg
  | 46, _ => nar_46 hg
  | 47, _ => nar_47 hg
  | 48, _ => nar_48 hg
  | 49, _ => nar_49 hg
  | 50, _ => nar_50 hg
  | 51, _ => nar_51 hg
  | 52, _ => nar_52 hg
  | 53, _ => nar_53 hg
  | 54, _ => nar_54 hg
  | 55, _ => nar_55 hg
  | 56, _ => nar_56 hg
  | 57, _ => nar_57 hg
  | k + 58, h => absurd h (by omega)
theorem srf_all : ∀ i, i < 58 → Cond.stringRef (jstr i).1 (jstr i).2.1 (jstr i).2.2 ∈ tables_1 := fun i h => match i, h with
  | 0, _ => srf_0
  | 1, _ => srf_1
  | 2, _ => srf_2
  | 3, _ => srf_3
  | 4, _ => srf_4
  | 5, _ => srf_5
  | 6, _ => srf_6
  | 7, _ => srf_7
  | 8, _ => srf_8
  | 9, _ => srf_9
  | 10, _ => srf_10
  | 11, _ => srf_11
  | 12, _ => srf_12
  | 13, _ => srf_13
  | 14, _ => srf_14
  | 15, _ => srf_15
  | 16, _ => srf_16
  | 17, _ => srf_17
  | 18, _ => srf_18
  | 19, _ => srf_19
  | 20, _ => srf_20
  | 21, _ => srf_21
  | 22, _ => srf_22
  | 23, _ => srf_23
  | 24, _ => srf_24
  | 25, _ => srf_25
  | 26, _ => srf_26
  | 27, _ => srf_27
  | 28, _ => srf_28
  | 29, _ => srf_29
  | 30, _ => srf_30
  | 31, _ => srf_31
  | 32, _ => srf_32
  | 33, _ => srf_33
  | 34, _ => srf_34
  | 35, _ => srf_35
  | 36, _ => srf_36
  | 37, _ => srf_37
  | 38, _ => srf_38
  | 39, _ => srf_39
  | 40, _ => srf_40
  | 41, _ => srf_41
  | 42, _ => srf_42
  | 43, _ => srf_43
  | 44, _ => srf_44
  | 45, _ => srf_45
  | 46, _ => srf_46
  | 47, _ => srf_47
  | 48, _ => srf_48
  | 49, _ => srf_49
  | 50, _ => srf_50
  | 51, _ => srf_51
  | 52, _ => srf_52
  | 53, _ => srf_53
  | 54, _ => srf_54
  | 55, _ => srf_55
  | 56, _ => srf_56
  | 57, _ => srf_57
  | k + 58, h => absurd h (by omega)
theorem len_all : ∀ i, i < 58 → (jtxt i).length < 2 ^ 31 := by decide +kernel
theorem tabF_0 {args : Array Value} {s : State} (hg : narrow_1.before args s = true) : arrF (.static "TwoTrolleys" (jtab 0).1 "[I") .int args s ([1, 1, 4, 6, 6, 2, 8, 5, 6, 3, 3, 4, 4] : List Int32) := ⟨(ba (ba (ba (ba (ba (ba (ba (ba (ba (ba hg).1).1).1).1).1).1).2).2).2).1, (ba (ba (ba (ba (ba (ba (ba (ba (ba (ba hg).1).1).1).1).1).1).2).2).2).2, (ba (ba (ba (ba (ba (ba (ba (ba (ba hg).1).1).1).1).1).2).1).1).1, (ba (ba (ba (ba (ba (ba (ba (ba (ba hg).1).1).1).1).1).2).1).1).2, (ba (ba (ba (ba (ba (ba (ba (ba (ba hg).1).1).1).1).1).2).1).2).1, (ba (ba (ba (ba (ba (ba (ba (ba (ba (ba hg).1).1).1).1).1).2).1).2).2).1, (ba (ba (ba (ba (ba (ba (ba (ba (ba (ba hg).1).1).1).1).1).2).1).2).2).2, (ba (ba (ba (ba (ba (ba (ba (ba (ba hg).1).1).1).1).1).2).2).1).1, (ba (ba (ba (ba (ba (ba (ba (ba (ba (ba hg).1).1).1).1).1).2).2).1).2).1, (ba (ba (ba (ba (ba (ba (ba (ba (ba (ba hg).1).1).1).1).1).2).2).1).2).2, (ba (ba (ba (ba (ba (ba (ba (ba (ba hg).1).1).1).1).1).2).2).2).1, (ba (ba (ba (ba (ba (ba (ba (ba (ba (ba hg).1).1).1).1).1).2).2).2).2).1, (ba (ba (ba (ba (ba (ba (ba (ba (ba (ba hg).1).1).1).1).1).2).2).2).2).2, (ba (ba (ba (ba (ba (ba (ba (ba (ba hg).1).1).1).1).2).1).1).1).1, (ba (ba (ba (ba (ba (ba (ba (ba (ba hg).1).1).1).1).2).1).1).1).2, trivial⟩
theorem tabl_0 : Cond.laysStatic "TwoTrolleys" (jtab 0).1 "[I" ∈ tables_1 := List.mem_of_getElem? (i := 348) (by decide +kernel)
theorem tabf_0 : ∀ j, j < 13 → ([1, 1, 4, 6, 6, 2, 8, 5, 6, 3, 3, 4, 4] : List Int32).getD j 0 = Int32.ofInt ((jtab 0).2.2 j) := by decide +kernel
theorem tabF_1 {args : Array Value} {s : State} (hg : narrow_1.before args s = true) : arrF (.static "TwoTrolleys" (jtab 1).1 "[I") .int args s ([2, 5, 6, 7, 8, 3, 9, 10, 11, 4, 12] : List Int32) := ⟨(ba (ba (ba (ba (ba (ba (ba (ba (ba hg).1).1).1).1).2).2).1).2).1, (ba (ba (ba (ba (ba (ba (ba (ba (ba (ba hg).1).1).1).1).2).2).1).2).2).1, (ba (ba (ba (ba (ba (ba (ba (ba (ba (ba hg).1).1).1).1).2).2).1).2).2).2, (ba (ba (ba (ba (ba (ba (ba (ba (ba hg).1).1).1).1).2).2).2).1).1, (ba (ba (ba (ba (ba (ba (ba (ba (ba (ba hg).1).1).1).1).2).2).2).1).2).1, (ba (ba (ba (ba (ba (ba (ba (ba (ba (ba hg).1).1).1).1).2).2).2).1).2).2, (ba (ba (ba (ba (ba (ba (ba (ba (ba hg).1).1).1).1).2).2).2).2).1, (ba (ba (ba (ba (ba (ba (ba (ba (ba (ba hg).1).1).1).1).2).2).2).2).2).1, (ba (ba (ba (ba (ba (ba (ba (ba (ba (ba hg).1).1).1).1).2).2).2).2).2).2, (ba (ba (ba (ba (ba (ba (ba (ba (ba hg).1).1).1).2).1).1).1).1).1, (ba (ba (ba (ba (ba (ba (ba (ba (ba hg).1).1).1).2).1).1).1).1).2, (ba (ba (ba (ba (ba (ba (ba (ba (ba hg).1).1).1).2).1).1).1).2).1, (ba (ba (ba (ba (ba (ba (ba (ba (ba (ba hg).1).1).1).2).1).1).1).2).2).1, trivial⟩
theorem tabl_1 : Cond.laysStatic "TwoTrolleys" (jtab 1).1 "[I" ∈ tables_1 := List.mem_of_getElem? (i := 1059) (by decide +kernel)
theorem tabf_1 : ∀ j, j < 11 → ([2, 5, 6, 7, 8, 3, 9, 10, 11, 4, 12] : List Int32).getD j 0 = Int32.ofInt ((jtab 1).2.2 j) := by decide +kernel
theorem tabF_2 {args : Array Value} {s : State} (hg : narrow_1.before args s = true) : arrF (.static "TwoTrolleys" (jtab 2).1 "[I") .int args s ([1, 2, 5, 10, 20, 50] : List Int32) := ⟨(ba (ba (ba (ba (ba (ba (ba (ba (ba (ba hg).1).1).1).1).2).1).1).2).2).1, (ba (ba (ba (ba (ba (ba (ba (ba (ba (ba hg).1).1).1).1).2).1).1).2).2).2, (ba (ba (ba (ba (ba (ba (ba (ba (ba hg).1).1).1).1).2).1).2).1).1, (ba (ba (ba (ba (ba (ba (ba (ba (ba hg).1).1).1).1).2).1).2).1).2, (ba (ba (ba (ba (ba (ba (ba (ba (ba hg).1).1).1).1).2).1).2).2).1, (ba (ba (ba (ba (ba (ba (ba (ba (ba (ba hg).1).1).1).1).2).1).2).2).2).1, (ba (ba (ba (ba (ba (ba (ba (ba (ba (ba hg).1).1).1).1).2).1).2).2).2).2, (ba (ba (ba (ba (ba (ba (ba (ba (ba hg).1).1).1).1).2).2).1).1).1, trivial⟩
theorem tabl_2 : Cond.laysStatic "TwoTrolleys" (jtab 2).1 "[I" ∈ tables_1 := List.mem_of_getElem? (i := 996) (by decide +kernel)
theorem tabf_2 : ∀ j, j < 6 → ([1, 2, 5, 10, 20, 50] : List Int32).getD j 0 = Int32.ofInt ((jtab 2).2.2 j) := by decide +kernel
theorem ini_0 : Cond.initialized "TwoTrolleys" ∈ tables_1 := List.mem_of_getElem? (i := 1) (by decide +kernel)
theorem jdk_0 {args : Array Value} {s : State} {A : Nat → Prop} (hts : ∀ w ∈ tables_1, w.before args s = true) (hg : narrow_1.before args s = true) (hA : ∀ a : Nat, a < s.heap.size → ¬ A a) : va_Z (jJdk 0).1 (jJdk 0).2.1 (jJdk 0).2.2.1 (.int (jJdk 0).2.2.2) A s s.heap := va_Zof (hts _ (List.mem_of_getElem? (i := 296) (by decide +kernel) : Cond.laysStatic "java/lang/String" "COMPACT_STRINGS" "Z" ∈ tables_1)) (hts _ (List.mem_of_getElem? (i := 12) (by decide +kernel) : Cond.initialized "java/lang/String" ∈ tables_1)) (va_eqi (ba (ba (ba (ba (ba (ba (ba (ba (ba hg).1).1).1).1).1).1).1).2).1) hA
theorem jdk_1 {args : Array Value} {s : State} {A : Nat → Prop} (hts : ∀ w ∈ tables_1, w.before args s = true) (hg : narrow_1.before args s = true) (hA : ∀ a : Nat, a < s.heap.size → ¬ A a) : va_Z (jJdk 1).1 (jJdk 1).2.1 (jJdk 1).2.2.1 (.int (jJdk 1).2.2.2) A s s.heap := va_Zof (hts _ (List.mem_of_getElem? (i := 330) (by decide +kernel) : Cond.laysStatic "java/lang/StringUTF16" "$assertionsDisabled" "Z" ∈ tables_1)) (hts _ (List.mem_of_getElem? (i := 15) (by decide +kernel) : Cond.initialized "java/lang/StringUTF16" ∈ tables_1)) (va_eqi (ba (ba (ba (ba (ba (ba (ba (ba (ba (ba hg).1).1).1).1).1).1).1).2).2).2) hA
theorem jdk_2 {args : Array Value} {s : State} {A : Nat → Prop} (hts : ∀ w ∈ tables_1, w.before args s = true) (hg : narrow_1.before args s = true) (hA : ∀ a : Nat, a < s.heap.size → ¬ A a) : va_Z (jJdk 2).1 (jJdk 2).2.1 (jJdk 2).2.2.1 (.int (jJdk 2).2.2.2) A s s.heap := va_Zof (hts _ (List.mem_of_getElem? (i := 332) (by decide +kernel) : Cond.laysStatic "java/lang/StringUTF16" "HI_BYTE_SHIFT" "I" ∈ tables_1)) (hts _ (List.mem_of_getElem? (i := 15) (by decide +kernel) : Cond.initialized "java/lang/StringUTF16" ∈ tables_1)) (va_eqi (ba (ba (ba (ba (ba (ba (ba (ba (ba hg).1).1).1).1).1).1).2).1).1) hA
theorem jdk_3 {args : Array Value} {s : State} {A : Nat → Prop} (hts : ∀ w ∈ tables_1, w.before args s = true) (hg : narrow_1.before args s = true) (hA : ∀ a : Nat, a < s.heap.size → ¬ A a) : va_Z (jJdk 3).1 (jJdk 3).2.1 (jJdk 3).2.2.1 (.int (jJdk 3).2.2.2) A s s.heap := va_Zof (hts _ (List.mem_of_getElem? (i := 334) (by decide +kernel) : Cond.laysStatic "java/lang/StringUTF16" "LO_BYTE_SHIFT" "I" ∈ tables_1)) (hts _ (List.mem_of_getElem? (i := 15) (by decide +kernel) : Cond.initialized "java/lang/StringUTF16" ∈ tables_1)) (va_eqi (ba (ba (ba (ba (ba (ba (ba (ba (ba hg).1).1).1).1).1).1).2).1).2) hA
theorem jdk_all {args : Array Value} {s : State} {A : Nat → Prop} (hts : ∀ w ∈ tables_1, w.before args s = true) (hg : narrow_1.before args s = true) (hA : ∀ a : Nat, a < s.heap.size → ¬ A a) : ∀ i, i < 4 → va_Z (jJdk i).1 (jJdk i).2.1 (jJdk i).2.2.1 (.int (jJdk i).2.2.2) A s s.heap := fun i h => match i, h with
  | 0, _ => jdk_0 hts hg hA
  | 1, _ => jdk_1 hts hg hA
  | 2, _ => jdk_2 hts hg hA
  | 3, _ => jdk_3 hts hg hA
  | k + 4, h => absurd h (by omega)
theorem stq_0 {args : Array Value} {s : State} {A : Nat → Prop} (hts : ∀ w ∈ tables_1, w.before args s = true) (hg : narrow_1.before args s = true) (hA : ∀ a : Nat, a < s.heap.size → ¬ A a) : va_Zq "jdk/internal/util/Preconditions" "SIOOBE_FORMATTER" "Ljava/util/function/BiFunction;" A s s.heap := va_Zqof (hts _ (List.mem_of_getElem? (i := 312) (by decide +kernel) : Cond.laysStatic "jdk/internal/util/Preconditions" "SIOOBE_FORMATTER" "Ljava/util/function/BiFunction;" ∈ tables_1)) (hts _ (List.mem_of_getElem? (i := 14) (by decide +kernel) : Cond.initialized "jdk/internal/util/Preconditions" ∈ tables_1)) (ba (ba (ba (ba (ba (ba (ba (ba (ba (ba hg).1).1).1).1).1).1).1).2).2).1 hA
theorem stq_1 {args : Array Value} {s : State} {A : Nat → Prop} (hts : ∀ w ∈ tables_1, w.before args s = true) (hg : narrow_1.before args s = true) (hA : ∀ a : Nat, a < s.heap.size → ¬ A a) : vx_Zq Bundle.tN "UNASSIGNED_STACK" Bundle.steD A s s.heap := vx_Zqof (hts _ (List.mem_of_getElem? (i := 1107) (by decide +kernel) : Cond.laysStatic "java/lang/Throwable" "UNASSIGNED_STACK" "[Ljava/lang/StackTraceElement;" ∈ tables_1)) (hts _ (List.mem_of_getElem? (i := 18) (by decide +kernel) : Cond.initialized "java/lang/Throwable" ∈ tables_1)) (ba (ba (ba (ba (ba (ba (ba (ba (ba (ba hg).1).1).1).2).1).1).1).2).2).2 hA
theorem stq_2 {args : Array Value} {s : State} {A : Nat → Prop} (hts : ∀ w ∈ tables_1, w.before args s = true) (hg : narrow_1.before args s = true) (hA : ∀ a : Nat, a < s.heap.size → ¬ A a) : vx_Zq Bundle.tN "SUPPRESSED_SENTINEL" Bundle.listD A s s.heap := vx_Zqof (hts _ (List.mem_of_getElem? (i := 1109) (by decide +kernel) : Cond.laysStatic "java/lang/Throwable" "SUPPRESSED_SENTINEL" "Ljava/util/List;" ∈ tables_1)) (hts _ (List.mem_of_getElem? (i := 18) (by decide +kernel) : Cond.initialized "java/lang/Throwable" ∈ tables_1)) (ba (ba (ba (ba (ba (ba (ba (ba (ba hg).1).1).1).2).1).1).2).1).1 hA
theorem jnF_t : jnF.map (fun x => Cond.fieldLinkNest x.1 x.2.1 x.2.2.1 x.2.2.2.1 x.2.2.2.2.1 x.2.2.2.2.2) = [347, 995, 1257, 1258, 1259, 1261, 1262, 1263, 1264, 1265, 1267, 1268, 1270, 1272, 1273, 1275, 1276, 1277, 1279, 1281, 1283, 1285, 1287, 1289, 1291, 1293, 1295, 1297, 1299, 1301, 1303, 1305, 1307, 1309, 1311, 1313, 1315, 1317, 1319, 1321, 1323, 1325, 1327, 1329, 1331, 1333, 1335, 1337, 1339].filterMap (fun i => tables_1[i]?) := by decide +kernel
theorem jnM_t : jnM.map (fun x => Cond.methodLinkNest x.1 x.2.1 x.2.2.1 x.2.2.2) = [32, 38, 91, 113, 145, 164, 174, 1253].filterMap (fun i => tables_1[i]?) := by decide +kernel
theorem map_in {α : Type} {l : List α} {f : α → Cond} {ps : List Nat} {big : List Cond} (h : l.map f = ps.filterMap (fun i => big[i]?)) : ∀ x ∈ l, f x ∈ big := by
  intro x hx
  have h1 : f x ∈ l.map f := List.mem_map_of_mem hx
  rw [h] at h1
  obtain ⟨i, -, hi⟩ := List.mem_filterMap.mp h1
  exact List.mem_of_getElem? hi
theorem st_NW {args : Array Value} {s : State} (hts : ∀ w ∈ tables_1, w.before args s = true) : jNW s :=
  ⟨fun x hx => va_Nw.of (A := args) rfl (hts _ (map_in jnF_t x hx)), fun x hx => va_Nw.of (A := args) rfl (hts _ (map_in jnM_t x hx)), va_AO.of (A := args) (hts _ (List.mem_of_getElem? (i := 142) (by decide +kernel) : Cond.arrayOver (.object RX3) ∈ tables_1)), (hts _ (List.mem_of_getElem? (i := 179) (by decide +kernel) : Cond.arrayOver (.array .int) ∈ tables_1))⟩
theorem st_SF {args : Array Value} {s : State} {A : Nat → Prop} (hts : ∀ w ∈ tables_1, w.before args s = true) (hg : narrow_1.before args s = true) (hA : ∀ a : Nat, a < s.heap.size → ¬ A a) (b : Nat) : ∃ ad : Nat → Nat, ad 1000999 = b ∧ jSF ad A s s.heap := by
  have hstr : ∀ i : Nat, ∃ av : Nat × Nat, i < 58 → vk_R (jstr i).1 (jstr i).2.1 (jstr i).2.2 av.1 s ∧ va_O "java/lang/String" av.1 A s s.heap ∧ va_OF "java/lang/String" "coder" "B" (.int 0) av.1 A s s.heap ∧ va_OF "java/lang/String" "value" "[B" (.ref av.2) av.1 A s s.heap ∧ va_T .byte av.2 (jtxt i).length (fun j => .int (Int32.ofInt ((jtxt i).getD j 0))) A s s.heap := by
    intro i
    by_cases hi : i < 58
    · obtain ⟨a, v, h1, h2, h3, h4, h5⟩ := strF_w (A := A) (nar_all hg i hi) (by rw [List.length_map]; exact len_all i hi) hA
      refine ⟨(a, v), fun _ => ⟨vk_R.of (A := args) (hts _ (srf_all i hi)) h1, h2, h3, h4, ?_⟩⟩
      rw [List.length_map] at h5
      have e : (fun j => Value.int (((jtxt i).map Int32.ofInt).getD j 0)) = fun j => Value.int (Int32.ofInt ((jtxt i).getD j 0)) := funext fun j => congrArg Value.int mapD
      rw [e] at h5
      exact h5
    · exact ⟨(0, 0), fun h => absurd h hi⟩
  obtain ⟨av, hav⟩ := Classical.axiomOfChoice hstr
  obtain ⟨t0, v0, T0⟩ := arrF_w (A := A) (tabF_0 hg) (by decide) hA
  obtain ⟨t1, v1, T1⟩ := arrF_w (A := A) (tabF_1 hg) (by decide) hA
  obtain ⟨t2, v2, T2⟩ := arrF_w (A := A) (tabF_2 hg) (by decide) hA
  obtain ⟨q, hq⟩ : ∃ q : Nat, va_Z "jdk/internal/util/Preconditions" "SIOOBE_FORMATTER" "Ljava/util/function/BiFunction;" .null A s s.heap ∨ va_Z "jdk/internal/util/Preconditions" "SIOOBE_FORMATTER" "Ljava/util/function/BiFunction;" (.ref q) A s s.heap := by
    rcases stq_0 hts hg hA with h | ⟨t, h⟩
    · exact ⟨0, Or.inl h⟩
    · exact ⟨t, Or.inr h⟩
  have tf : ∀ {t N : Nat} {f g : Nat → Int32}, va_T .int t N (fun j => .int (f j)) A s s.heap → (∀ j, j < N → f j = g j) → va_T .int t N (fun j => .int (g j)) A s s.heap := by
    intro t N f g h e
    obtain ⟨cell, h1, h2, h3, h4, h5, h6, h7⟩ := h
    exact ⟨cell, h1, h2, h3, h4, h5, fun j hj => (h6 j hj).trans (congrArg (fun z => some (Value.int z)) (e j hj)), h7⟩
  refine ⟨fun k => if k = 1000999 then b else if k = 1000998 then q else if k = 1000000 then t0 else if k = 1000001 then t1 else if k = 1000002 then t2 else if k < 1000200 then (av (k - 1000100)).1 else (av (k - 1000200)).2, if_pos rfl, st_NW hts, fun i hi => ?_, jdk_all hts hg hA, ?_, stq_1 hts hg hA, stq_2 hts hg hA, fun i hi => ?_⟩
  · rcases (show i = 0 ∨ i = 1 ∨ i = 2 by omega) with rfl | rfl | rfl
    · exact ⟨va_Zref (hts _ tabl_0) (hts _ ini_0) v0 hA, tf T0 tabf_0⟩
    · exact ⟨va_Zref (hts _ tabl_1) (hts _ ini_0) v1 hA, tf T1 tabf_1⟩
    · exact ⟨va_Zref (hts _ tabl_2) (hts _ ini_0) v2 hA, tf T2 tabf_2⟩
  · exact hq
  · obtain ⟨h1, h2, h3, h4, h5⟩ := hav i hi
    have e1 : (if 1000000 + 100 + i = 1000999 then b else if 1000000 + 100 + i = 1000998 then q else if 1000000 + 100 + i = 1000000 then t0 else if 1000000 + 100 + i = 1000001 then t1 else if 1000000 + 100 + i = 1000002 then t2 else if 1000000 + 100 + i < 1000200 then (av (1000000 + 100 + i - 1000100)).1 else (av (1000000 + 100 + i - 1000200)).2) = (av i).1 := by
      rw [if_neg (by omega), if_neg (by omega), if_neg (by omega), if_neg (by omega), if_neg (by omega), if_pos (by omega), show 1000000 + 100 + i - 1000100 = i by omega]
    have e2 : (if 1000000 + 200 + i = 1000999 then b else if 1000000 + 200 + i = 1000998 then q else if 1000000 + 200 + i = 1000000 then t0 else if 1000000 + 200 + i = 1000001 then t1 else if 1000000 + 200 + i = 1000002 then t2 else if 1000000 + 200 + i < 1000200 then (av (1000000 + 200 + i - 1000100)).1 else (av (1000000 + 200 + i - 1000200)).2) = (av i).2 := by
      rw [if_neg (by omega), if_neg (by omega), if_neg (by omega), if_neg (by omega), if_neg (by omega), if_neg (by omega), show 1000000 + 200 + i - 1000200 = i by omega]
    dsimp only
    rw [e1, e2]
    exact ⟨h1, h2, h3, h4, h5⟩
theorem arrC {ty : FieldType} {args : Array Value} {s : State} (h : (Cond.arrayClass ty).before args s = true) : ∃ cA : ClassId, ArrOfT s cA ty ∧ s.vm.findClass ("[" ++ ty.toString) = some cA := by
  obtain ⟨c, k, comp, h1, h2, h3⟩ := Cond.arrayClass_spec (args := args) (first := s) (o := none) (s := s) (idx := []) h
  exact ⟨c, fun n z => ⟨fun k h => (by cases h), k, h2, comp, h3⟩, h1⟩
theorem st_K {args : Array Value} {s : State} (hts : ∀ w ∈ wsL_law, w.before args s = true) (hNW : jNW s) : ∃ (dC : Nat → ClassId) (dI : Nat → Nat → Nat) (dA : Nat → ClassId), va_K (dC, dI) vwCl (jtys dA) s := by
  have H : ∀ k : Nat, ∃ ci : ClassId × (Nat → Nat), ∀ q : vw_C, vwCl[k]? = some q → u_Kn s q.1 q.2.1 q.2.2 ci.1 ci.2 := by
    intro k
    match k with
    | 0 =>
      obtain ⟨c, iS, hk⟩ := u_known (C := RX0) (T := TX0) (N := 4) (n := 4) hts inlX0 (hts _ wm_28)
      exact ⟨(c, iS), fun q hq => by cases hq; exact hk⟩
    | 1 =>
      obtain ⟨c, iS, hk⟩ := u_known (C := RX1) (T := TX1) (N := 5) (n := 5) hts inlX1 (hts _ wm_18)
      exact ⟨(c, iS), fun q hq => by cases hq; exact hk⟩
    | 2 =>
      obtain ⟨c, iS, hk⟩ := u_known (C := RX2) (T := TX2) (N := 1) (n := 1) hts inlX2 (hts _ wm_32)
      exact ⟨(c, iS), fun q hq => by cases hq; exact hk⟩
    | 3 =>
      obtain ⟨c, iS, hk⟩ := u_known (C := RX3) (T := TX3) (N := 8) (n := 8) hts inlX3 (hts _ wm_23)
      exact ⟨(c, iS), fun q hq => by cases hq; exact hk⟩
    | 4 =>
      obtain ⟨c, iS, hk⟩ := u_known (C := RX4) (T := TX4) (N := 1) (n := 1) hts inlX4 (hts _ wm_14)
      exact ⟨(c, iS), fun q hq => by cases hq; exact hk⟩
    | 5 =>
      obtain ⟨c, iS, hk⟩ := u_known (C := RX5) (T := TX5) (N := 5) (n := 5) hts inlX5 (hts _ wm_36)
      exact ⟨(c, iS), fun q hq => by cases hq; exact hk⟩
    | 6 =>
      obtain ⟨c, iS, hk⟩ := u_known (C := RX6) (T := TX6) (N := 13) (n := 13) hts inlX6 (hts _ wm_43)
      exact ⟨(c, iS), fun q hq => by cases hq; exact hk⟩
    | 7 =>
      obtain ⟨c, iS, hk⟩ := u_known (C := RX7) (T := TX7) (N := 13) (n := 13) hts inlX7 (hts _ wm_1)
      exact ⟨(c, iS), fun q hq => by cases hq; exact hk⟩
    | 8 =>
      obtain ⟨c, iS, hk⟩ := u_known (C := RX8) (T := TX8) (N := 47) (n := 47) hts inlX8 (hts _ wm_409)
      exact ⟨(c, iS), fun q hq => by cases hq; exact hk⟩
    | 9 =>
      obtain ⟨c, iS, hk⟩ := u_known (C := RX9) (T := TX9) (N := 29) (n := 29) hts inlX9 (hts _ wm_4)
      exact ⟨(c, iS), fun q hq => by cases hq; exact hk⟩
    | k + 10 => exact ⟨(0, fun _ => 0), fun q hq => by simp [vwCl] at hq⟩
  obtain ⟨f, hf⟩ := Classical.axiomOfChoice H
  obtain ⟨a0, b0, e0⟩ := arrC (hts _ wm_52)
  obtain ⟨a1, b1, e1⟩ := arrC (hts _ wm_6)
  obtain ⟨a2, b2, e2⟩ := arrC (hts _ wm_49)
  obtain ⟨a3, b3, e3⟩ := arrC (hts _ wm_451)
  obtain ⟨p4, a4, k4, f4, -, g4, h4, e4⟩ := Cond.arrayOver_spec (args := #[]) (first := s) (o := none) (s := s) (idx := []) hNW.2.2.1
  obtain ⟨p5, a5, k5, f5, -, g5, h5, e5⟩ := arrayOverA_spec (args := #[]) (first := s) (o := none) (s := s) (idx := []) hNW.2.2.2
  refine ⟨fun k => (f k).1, fun k => (f k).2, fun k => if k = 0 then a0 else if k = 1 then a1 else if k = 2 then a2 else if k = 3 then a3 else if k = 4 then a4 else a5, fun k q hq => hf k q hq, fun k q hq => ?_⟩
  match k, hq with
  | 0, hq => cases hq; exact ⟨b0, e0⟩
  | 1, hq => cases hq; exact ⟨b1, e1⟩
  | 2, hq => cases hq; exact ⟨b2, e2⟩
  | 3, hq => cases hq; exact ⟨b3, e3⟩
  | 4, hq => cases hq; exact ⟨fun n z => ⟨fun k h => (by cases h), k4, g4, p4, h4⟩, k4, p4, g4, h4, f4, e4⟩
  | 5, hq => cases hq; exact ⟨fun n z => ⟨fun k h => (by cases h), k5, g5, p5, h5⟩, e5⟩
  | k + 6, hq => simp [jtys] at hq
theorem st_X {args : Array Value} {s : State} (hts : ∀ w ∈ tables_1, w.before args s = true) : ∀ w ∈ nseX, w.before args s = true := by
  have h : ∀ w ∈ nseX, w ∈ tables_1 := by
    have e : nseX.map id = [1082, 1083, 1085, 1087].filterMap (fun i => tables_1[i]?) := by decide +kernel
    exact map_in e
  exact fun w hw => hts w (h w hw)
