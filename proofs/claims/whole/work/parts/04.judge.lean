/-! 04: J -/
abbrev jC : Type := Program × Launch × Env × Room × State × MethodId × Array Value × List Frame × Method × Code × (State → Prop) × (Nat → Prop) × (Nat → ClassId) × (Nat → Nat → Nat) × (Nat → ClassId) × Nat × (Nat → Nat)
abbrev jtys (dA : Nat → ClassId) : List (ClassId × FieldType) := [(dA 0, .int), (dA 1, .long), (dA 2, .byte), (dA 3, .boolean), (dA 4, .object RX3), (dA 5, .array .int)]
/-- what the launch gives and no world holds: the static tables, the texts, the JDK's numbers -/
def jtab : Nat → String × Nat × (Nat → Int)
  | 0 => ("LIMITS", 13, fun j => [1, 1, 4, 6, 6, 2, 8, 5, 6, 3, 3, 4, 4].getD j 0)
  | 1 => ("SIZES", 11, fun j => [2, 5, 6, 7, 8, 3, 9, 10, 11, 4, 12].getD j 0)
  | _ => ("COINS", 6, fun j => [1, 2, 5, 10, 20, 50].getD j 0)
def jJdk : Nat → String × String × String × Int32
  | 0 => ("java/lang/String", "COMPACT_STRINGS", "Z", 1)
  | 1 => ("java/lang/StringUTF16", "$assertionsDisabled", "Z", 1)
  | 2 => ("java/lang/StringUTF16", "HI_BYTE_SHIFT", "I", 0)
  | _ => ("java/lang/StringUTF16", "LO_BYTE_SHIFT", "I", 8)
def jstr : Nat → String × Nat × String
  | 0 => ("TwoTrolleys$Tokens", 74, "cabin   heat    kind    batch   took    trolley load    block   named   belts   gap     past    drink   child   ")
  | 1 => ("TwoTrolleys$Teller", 126, "shape")
  | 2 => ("TwoTrolleys$Teller", 128, "hot")
  | 3 => ("TwoTrolleys$Teller", 186, "back")
  | 4 => ("TwoTrolleys$Teller", 188, "front")
  | 5 => ("TwoTrolleys$Teller", 134, "drawers")
  | 6 => ("TwoTrolleys$Teller", 136, "holds")
  | 7 => ("TwoTrolleys$Teller", 138, "row")
  | 8 => ("TwoTrolleys$Teller", 140, "eats")
  | 9 => ("TwoTrolleys$Teller", 149, "child")
  | 10 => ("TwoTrolleys$Teller", 155, "price")
  | 11 => ("TwoTrolleys$Teller", 122, "at")
  | 12 => ("TwoTrolleys$Teller", 157, "of")
  | 13 => ("TwoTrolleys$Teller", 164, "many")
  | 14 => ("TwoTrolleys$Teller", 120, "to")
  | 15 => ("TwoTrolleys$Teller", 166, "seats")
  | 16 => ("TwoTrolleys$Teller", 168, "likes")
  | 17 => ("TwoTrolleys$Teller", 98, "rows")
  | 18 => ("TwoTrolleys$Teller", 108, "walk")
  | 19 => ("TwoTrolleys$Teller", 110, "serve")
  | 20 => ("TwoTrolleys$Teller", 112, "least")
  | 21 => ("TwoTrolleys$Teller", 114, "cools")
  | 22 => ("TwoTrolleys$Teller", 124, "from")
  | 23 => ("TwoTrolleysModel", 142, "cabin")
  | 24 => ("TwoTrolleysModel", 256, "rows")
  | 25 => ("TwoTrolleysModel", 261, "walk")
  | 26 => ("TwoTrolleysModel", 265, "serve")
  | 27 => ("TwoTrolleysModel", 144, "heat")
  | 28 => ("TwoTrolleysModel", 269, "least")
  | 29 => ("TwoTrolleysModel", 270, "cools")
  | 30 => ("TwoTrolleysModel", 146, "kind")
  | 31 => ("TwoTrolleysModel", 148, "batch")
  | 32 => ("TwoTrolleysModel", 150, "took")
  | 33 => ("TwoTrolleysModel", 152, "trolley")
  | 34 => ("TwoTrolleysModel", 154, "load")
  | 35 => ("TwoTrolleysModel", 156, "block")
  | 36 => ("TwoTrolleysModel", 158, "named")
  | 37 => ("TwoTrolleysModel", 160, "belts")
  | 38 => ("TwoTrolleysModel", 162, "gap")
  | 39 => ("TwoTrolleysModel", 164, "past")
  | 40 => ("TwoTrolleysModel", 166, "drink")
  | 41 => ("TwoTrolleysModel", 168, "child")
  | 42 => ("TwoTrolleysModel", 281, "shape")
  | 43 => ("TwoTrolleysModel", 283, "hot")
  | 44 => ("TwoTrolleysModel", 295, "at")
  | 45 => ("TwoTrolleysModel", 305, "of")
  | 46 => ("TwoTrolleysModel", 315, "front")
  | 47 => ("TwoTrolleysModel", 317, "back")
  | 48 => ("TwoTrolleysModel", 322, "drawers")
  | 49 => ("TwoTrolleysModel", 324, "holds")
  | 50 => ("TwoTrolleysModel", 336, "many")
  | 51 => ("TwoTrolleysModel", 342, "to")
  | 52 => ("TwoTrolleysModel", 344, "seats")
  | 53 => ("TwoTrolleysModel", 346, "likes")
  | 54 => ("TwoTrolleysModel", 368, "row")
  | 55 => ("TwoTrolleysModel", 370, "eats")
  | 56 => ("TwoTrolleysModel", 400, "from")
  | 57 => ("TwoTrolleysModel", 414, "price")
  | _ => ("", 0, "")
def jtxt : Nat → List Int
  | 0 => [99, 97, 98, 105, 110, 32, 32, 32, 104, 101, 97, 116, 32, 32, 32, 32, 107, 105, 110, 100, 32, 32, 32, 32, 98, 97, 116, 99, 104, 32, 32, 32, 116, 111, 111, 107, 32, 32, 32, 32, 116, 114, 111, 108, 108, 101, 121, 32, 108, 111, 97, 100, 32, 32, 32, 32, 98, 108, 111, 99, 107, 32, 32, 32, 110, 97, 109, 101, 100, 32, 32, 32, 98, 101, 108, 116, 115, 32, 32, 32, 103, 97, 112, 32, 32, 32, 32, 32, 112, 97, 115, 116, 32, 32, 32, 32, 100, 114, 105, 110, 107, 32, 32, 32, 99, 104, 105, 108, 100, 32, 32, 32]
  | 1 => [115, 104, 97, 112, 101]
  | 2 => [104, 111, 116]
  | 3 => [98, 97, 99, 107]
  | 4 => [102, 114, 111, 110, 116]
  | 5 => [100, 114, 97, 119, 101, 114, 115]
  | 6 => [104, 111, 108, 100, 115]
  | 7 => [114, 111, 119]
  | 8 => [101, 97, 116, 115]
  | 9 => [99, 104, 105, 108, 100]
  | 10 => [112, 114, 105, 99, 101]
  | 11 => [97, 116]
  | 12 => [111, 102]
  | 13 => [109, 97, 110, 121]
  | 14 => [116, 111]
  | 15 => [115, 101, 97, 116, 115]
  | 16 => [108, 105, 107, 101, 115]
  | 17 => [114, 111, 119, 115]
  | 18 => [119, 97, 108, 107]
  | 19 => [115, 101, 114, 118, 101]
  | 20 => [108, 101, 97, 115, 116]
  | 21 => [99, 111, 111, 108, 115]
  | 22 => [102, 114, 111, 109]
  | 23 => [99, 97, 98, 105, 110]
  | 24 => [114, 111, 119, 115]
  | 25 => [119, 97, 108, 107]
  | 26 => [115, 101, 114, 118, 101]
  | 27 => [104, 101, 97, 116]
  | 28 => [108, 101, 97, 115, 116]
  | 29 => [99, 111, 111, 108, 115]
  | 30 => [107, 105, 110, 100]
  | 31 => [98, 97, 116, 99, 104]
  | 32 => [116, 111, 111, 107]
  | 33 => [116, 114, 111, 108, 108, 101, 121]
  | 34 => [108, 111, 97, 100]
  | 35 => [98, 108, 111, 99, 107]
  | 36 => [110, 97, 109, 101, 100]
  | 37 => [98, 101, 108, 116, 115]
  | 38 => [103, 97, 112]
  | 39 => [112, 97, 115, 116]
  | 40 => [100, 114, 105, 110, 107]
  | 41 => [99, 104, 105, 108, 100]
  | 42 => [115, 104, 97, 112, 101]
  | 43 => [104, 111, 116]
  | 44 => [97, 116]
  | 45 => [111, 102]
  | 46 => [102, 114, 111, 110, 116]
  | 47 => [98, 97, 99, 107]
  | 48 => [100, 114, 97, 119, 101, 114, 115]
  | 49 => [104, 111, 108, 100, 115]
  | 50 => [109, 97, 110, 121]
  | 51 => [116, 111]
  | 52 => [115, 101, 97, 116, 115]
  | 53 => [108, 105, 107, 101, 115]
  | 54 => [114, 111, 119]
  | 55 => [101, 97, 116, 115]
  | 56 => [102, 114, 111, 109]
  | 57 => [112, 114, 105, 99, 101]
  | _ => []
/-- links to members of a nest mate -/
def jnF : List (String × Nat × String × String × String × String) := [(RX1, 33, "TwoTrolleys", "LIMITS", "[I", "TwoTrolleys"), (RX5, 26, "TwoTrolleys", "COINS", "[I", "TwoTrolleys"), (RX9, 205, "TwoTrolleysModel$Flight", "rows", "I", "TwoTrolleysModel"), (RX9, 263, "TwoTrolleysModel$Flight", "walk", "I", "TwoTrolleysModel"), (RX9, 267, "TwoTrolleysModel$Flight", "serve", "I", "TwoTrolleysModel"), (RX9, 208, "TwoTrolleysModel$Flight", "least", "I", "TwoTrolleysModel"), (RX9, 272, "TwoTrolleysModel$Flight", "cools", "I", "TwoTrolleysModel"), (RX9, 211, "TwoTrolleysModel$Flight", "kinds", "I", "TwoTrolleysModel"), (RX9, 289, "TwoTrolleysModel$Flight", "batches", "I", "TwoTrolleysModel"), (RX9, 302, "TwoTrolleysModel$Flight", "tooks", "I", "TwoTrolleysModel"), (RX9, 214, "TwoTrolleysModel$Flight", "trolleys", "I", "TwoTrolleysModel"), (RX9, 333, "TwoTrolleysModel$Flight", "loads", "I", "TwoTrolleysModel"), (RX9, 339, "TwoTrolleysModel$Flight", "blocks", "I", "TwoTrolleysModel"), (RX9, 365, "TwoTrolleysModel$Flight", "nameds", "I", "TwoTrolleysModel"), (RX9, 384, "TwoTrolleysModel$Flight", "belts", "I", "TwoTrolleysModel"), (RX9, 392, "TwoTrolleysModel$Flight", "gaps", "I", "TwoTrolleysModel"), (RX9, 397, "TwoTrolleysModel$Flight", "pasts", "I", "TwoTrolleysModel"), (RX9, 411, "TwoTrolleysModel$Flight", "drinks", "I", "TwoTrolleysModel"), (RX9, 187, "TwoTrolleysModel$Flight", "names", "I", "TwoTrolleysModel"), (RX9, 285, "TwoTrolleysModel$Flight", "shape", "[I", "TwoTrolleysModel"), (RX9, 287, "TwoTrolleysModel$Flight", "hot", "[I", "TwoTrolleysModel"), (RX9, 296, "TwoTrolleysModel$Flight", "batchKind", "[I", "TwoTrolleysModel"), (RX9, 299, "TwoTrolleysModel$Flight", "batchAt", "[I", "TwoTrolleysModel"), (RX9, 307, "TwoTrolleysModel$Flight", "tookKind", "[I", "TwoTrolleysModel"), (RX9, 310, "TwoTrolleysModel$Flight", "took", "[I", "TwoTrolleysModel"), (RX9, 312, "TwoTrolleysModel$Flight", "tookOf", "[I", "TwoTrolleysModel"), (RX9, 326, "TwoTrolleysModel$Flight", "end", "[I", "TwoTrolleysModel"), (RX9, 329, "TwoTrolleysModel$Flight", "drawers", "[I", "TwoTrolleysModel"), (RX9, 331, "TwoTrolleysModel$Flight", "holds", "[I", "TwoTrolleysModel"), (RX9, 337, "TwoTrolleysModel$Flight", "load", "[I", "TwoTrolleysModel"), (RX9, 354, "TwoTrolleysModel$Flight", "blockFrom", "[I", "TwoTrolleysModel"), (RX9, 357, "TwoTrolleysModel$Flight", "blockTo", "[I", "TwoTrolleysModel"), (RX9, 360, "TwoTrolleysModel$Flight", "seats", "[I", "TwoTrolleysModel"), (RX9, 362, "TwoTrolleysModel$Flight", "likedMany", "[I", "TwoTrolleysModel"), (RX9, 348, "TwoTrolleysModel$Flight", "likedKind", "[I", "TwoTrolleysModel"), (RX9, 351, "TwoTrolleysModel$Flight", "liked", "[I", "TwoTrolleysModel"), (RX9, 375, "TwoTrolleysModel$Flight", "namedRow", "[I", "TwoTrolleysModel"), (RX9, 378, "TwoTrolleysModel$Flight", "eats", "[I", "TwoTrolleysModel"), (RX9, 386, "TwoTrolleysModel$Flight", "beltsFrom", "[I", "TwoTrolleysModel"), (RX9, 389, "TwoTrolleysModel$Flight", "beltsTo", "[I", "TwoTrolleysModel"), (RX9, 395, "TwoTrolleysModel$Flight", "gap", "[I", "TwoTrolleysModel"), (RX9, 402, "TwoTrolleysModel$Flight", "pastAt", "[I", "TwoTrolleysModel"), (RX9, 405, "TwoTrolleysModel$Flight", "pastFrom", "[I", "TwoTrolleysModel"), (RX9, 408, "TwoTrolleysModel$Flight", "pastTo", "[I", "TwoTrolleysModel"), (RX9, 416, "TwoTrolleysModel$Flight", "price", "[I", "TwoTrolleysModel"), (RX9, 380, "TwoTrolleysModel$Flight", "isChild", "[Z", "TwoTrolleysModel"), (RX9, 184, "TwoTrolleysModel$Flight", "name", "[J", "TwoTrolleysModel"), (RX9, 190, "TwoTrolleysModel$Flight", "nameSort", "[I", "TwoTrolleysModel"), (RX9, 193, "TwoTrolleysModel$Flight", "nameNumber", "[I", "TwoTrolleysModel")]
def jnM : List (String × Nat × MethodName × String) := [(RX7, 9, yX4_init, "TwoTrolleys"), (RX4, 11, yX6_init, "TwoTrolleys"), (RX7, 18, yX1_init, "TwoTrolleys"), (RX7, 28, yX3_init, "TwoTrolleys"), (RX7, 39, yX0_init, "TwoTrolleys"), (RX7, 46, yX2_init, "TwoTrolleys"), (RX7, 53, yX5_init, "TwoTrolleys"), (RX9, 421, yX8_init, "TwoTrolleysModel")]
def jNW (U : State) : Prop := (∀ x ∈ jnF, va_Nw (.fieldLinkNest x.1 x.2.1 x.2.2.1 x.2.2.2.1 x.2.2.2.2.1 x.2.2.2.2.2) U) ∧ (∀ x ∈ jnM, va_Nw (.methodLinkNest x.1 x.2.1 x.2.2.1 x.2.2.2) U) ∧ va_AO RX3 U ∧ va_AOA .int U
theorem va_AOA.moved {ty : FieldType} {u U : State} (hvm : u.vm.Alike U.vm) (h : va_AOA ty u) : va_AOA ty U := arrayOver_alikeB hvm h
theorem jNW.warm {s U : State} (hW : s.WarmedH U.vm) (h : jNW s) : jNW U := ⟨fun x hx => va_Nw.warmF hW (h.1 x hx), fun x hx => va_Nw.warmM hW (h.2.1 x hx), va_AO.moved hW.alike h.2.2.1, va_AOA.moved hW.alike h.2.2.2⟩
theorem jNW.same {s U : State} (hW : U.vm = s.vm) (h : jNW s) : jNW U := by
  have ha : s.vm.Alike U.vm := by rw [hW]; exact Vm.Alike.refl _
  exact ⟨fun x hx => va_Nw.same rfl hW.symm (h.1 x hx), fun x hx => va_Nw.same rfl hW.symm (h.2.1 x hx), va_AO.moved ha h.2.2.1, va_AOA.moved ha h.2.2.2⟩
/-- the formatter of the library's bounds check: nothing, or the cell numbered 1000998 -/
def jSio (ad : Nat → Nat) (A : Nat → Prop) (U : State) (H : Heap) : Prop :=
  va_Z "jdk/internal/util/Preconditions" "SIOOBE_FORMATTER" "Ljava/util/function/BiFunction;" .null A U H ∨ va_Z "jdk/internal/util/Preconditions" "SIOOBE_FORMATTER" "Ljava/util/function/BiFunction;" (.ref (ad 1000998)) A U H
theorem jSio.moved {ad : Nat → Nat} {A : Nat → Prop} {u U : State} {H : Heap} (hvm : u.vm.Alike U.vm) (h : jSio ad A u H) : jSio ad A U H := h.elim (fun q => Or.inl (va_Z.moved hvm q)) (fun q => Or.inr (va_Z.moved hvm q))
theorem jSio.kept {ad : Nat → Nat} {A : Nat → Prop} {U : State} {H H1 : Heap} (h : jSio ad A U H) (hq : ∀ a : Nat, a < H.size → ¬ A a → H1[a]? = H[a]?) : jSio ad A U H1 := h.elim (fun q => Or.inl (va_Z.kept q hq)) (fun q => Or.inr (va_Z.kept q hq))
theorem jSio.narrow {ad : Nat → Nat} {A B : Nat → Prop} {U : State} {H : Heap} (h : jSio ad A U H) (hAB : ∀ q, B q → A q) : jSio ad B U H := h.elim (fun q => Or.inl (va_Z.narrow q hAB)) (fun q => Or.inr (va_Z.narrow q hAB))
/-- what the launch gives, at the numbers from 1000000 on -/
def jSF (ad : Nat → Nat) (A : Nat → Prop) (U : State) (H : Heap) : Prop :=
  jNW U ∧ (∀ i, i < 3 → va_Z "TwoTrolleys" (jtab i).1 "[I" (.ref (ad (1000000 + i))) A U H ∧ va_T .int (ad (1000000 + i)) (jtab i).2.1 (fun j => .int (Int32.ofInt ((jtab i).2.2 j))) A U H) ∧
  (∀ i, i < 4 → va_Z (jJdk i).1 (jJdk i).2.1 (jJdk i).2.2.1 (.int (jJdk i).2.2.2) A U H) ∧
  jSio ad A U H ∧
  vx_Zq Bundle.tN "UNASSIGNED_STACK" Bundle.steD A U H ∧ vx_Zq Bundle.tN "SUPPRESSED_SENTINEL" Bundle.listD A U H ∧
  ∀ i, i < 58 → vk_R (jstr i).1 (jstr i).2.1 (jstr i).2.2 (ad (1000000 + 100 + i)) U ∧ va_O "java/lang/String" (ad (1000000 + 100 + i)) A U H ∧ va_OF "java/lang/String" "coder" "B" (.int 0) (ad (1000000 + 100 + i)) A U H ∧ va_OF "java/lang/String" "value" "[B" (.ref (ad (1000000 + 200 + i))) (ad (1000000 + 100 + i)) A U H ∧ va_T .byte (ad (1000000 + 200 + i)) (jtxt i).length (fun j => .int (Int32.ofInt ((jtxt i).getD j 0))) A U H
theorem jSF.warm {ad : Nat → Nat} {A : Nat → Prop} {s U : State} {H : Heap} (hW : s.WarmedH U.vm) (h : jSF ad A s H) : jSF ad A U H := by
  obtain ⟨h0, h1, h2, h3, h4, h5, h6⟩ := h
  exact ⟨jNW.warm hW h0, fun i hi => ⟨va_Z.moved hW.alike (h1 i hi).1, va_T.moved hW.alike (h1 i hi).2⟩, fun i hi => va_Z.moved hW.alike (h2 i hi), jSio.moved hW.alike h3, vx_Zq.moved hW.alike h4, vx_Zq.moved hW.alike h5,
    fun i hi => ⟨vk_R.warm hW (h6 i hi).1, va_O.moved hW.alike (h6 i hi).2.1, va_OF.moved hW.alike (h6 i hi).2.2.1, va_OF.moved hW.alike (h6 i hi).2.2.2.1, va_T.moved hW.alike (h6 i hi).2.2.2.2⟩⟩
theorem jSF.same {ad : Nat → Nat} {A : Nat → Prop} {s U : State} {H : Heap} (hW : U.vm = s.vm) (h : jSF ad A s H) : jSF ad A U H := by
  have ha : s.vm.Alike U.vm := by rw [hW]; exact Vm.Alike.refl _
  obtain ⟨h0, h1, h2, h3, h4, h5, h6⟩ := h
  exact ⟨jNW.same hW h0, fun i hi => ⟨va_Z.moved ha (h1 i hi).1, va_T.moved ha (h1 i hi).2⟩, fun i hi => va_Z.moved ha (h2 i hi), jSio.moved ha h3, vx_Zq.moved ha h4, vx_Zq.moved ha h5,
    fun i hi => ⟨vk_R.same hW (h6 i hi).1, va_O.moved ha (h6 i hi).2.1, va_OF.moved ha (h6 i hi).2.2.1, va_OF.moved ha (h6 i hi).2.2.2.1, va_T.moved ha (h6 i hi).2.2.2.2⟩⟩
theorem jSF.kept {ad : Nat → Nat} {A : Nat → Prop} {U : State} {H H1 : Heap} (h : jSF ad A U H) (hq : ∀ a : Nat, a < H.size → ¬ A a → H1[a]? = H[a]?) : jSF ad A U H1 := by
  obtain ⟨h0, h1, h2, h3, h4, h5, h6⟩ := h
  exact ⟨h0, fun i hi => ⟨va_Z.kept (h1 i hi).1 hq, va_T.kept (h1 i hi).2 hq⟩, fun i hi => va_Z.kept (h2 i hi) hq, jSio.kept h3 hq, vx_Zq.kept h4 hq, vx_Zq.kept h5 hq,
    fun i hi => ⟨(h6 i hi).1, va_O.kept (h6 i hi).2.1 hq, va_OF.kept (h6 i hi).2.2.1 hq, va_OF.kept (h6 i hi).2.2.2.1 hq, va_T.kept (h6 i hi).2.2.2.2 hq⟩⟩
theorem jSF.narrow {ad : Nat → Nat} {A B : Nat → Prop} {U : State} {H : Heap} (h : jSF ad A U H) (hAB : ∀ q, B q → A q) : jSF ad B U H := by
  obtain ⟨h0, h1, h2, h3, h4, h5, h6⟩ := h
  exact ⟨h0, fun i hi => ⟨va_Z.narrow (h1 i hi).1 hAB, va_T.narrow (h1 i hi).2 hAB⟩, fun i hi => va_Z.narrow (h2 i hi) hAB, jSio.narrow h3 hAB, vx_Zq.narrow h4 hAB, vx_Zq.narrow h5 hAB,
    fun i hi => ⟨(h6 i hi).1, va_O.narrow (h6 i hi).2.1 hAB, va_OF.narrow (h6 i hi).2.2.1 hAB, va_OF.narrow (h6 i hi).2.2.2.1 hAB, va_T.narrow (h6 i hi).2.2.2.2 hAB⟩⟩
theorem jSF.ad {ad ad' : Nat → Nat} {A : Nat → Prop} {U : State} {H : Heap} (h : jSF ad A U H) (he : ∀ k, 1000000 ≤ k → ad' k = ad k) : jSF ad' A U H := by
  obtain ⟨h0, h1, h2, h3, h4, h5, h6⟩ := h
  refine ⟨h0, fun i hi => ?_, h2, by unfold jSio; rw [he 1000998 (by omega)]; exact h3, h4, h5, fun i hi => ?_⟩
  · rw [he (1000000 + i) (by omega)]; exact h1 i hi
  · rw [he (1000000 + 100 + i) (by omega), he (1000000 + 200 + i) (by omega)]; exact h6 i hi
/-- what a method's walk stands on -/
def Ok (κ : jC) (own : String) (cc : ByteArray) (nL : Nat) (ret : Option FieldType) : Prop :=
  match κ with
  | (p, l, e, R, s, m, args, below, meth, c, Q, A, dC, dI, dA, n0, ad0) =>
    p.tables.exec = Jvm.exec ∧ c.code = cc ∧ c.maxLocals = nL ∧ s.vm.findClass own = some m.cls ∧ (∀ w ∈ wsL_law, w.before args s = true) ∧ va_K (dC, dI) vwCl (jtys dA) s ∧ meth.sig.returnType = ret ∧ meth.locks = false ∧ (∀ q, s.heap.size ≤ q → A q) ∧ jSF ad0 A s s.heap
/-- the room that is left: frames, locals, cells, slots -/
def Rm (κ : jC) (fr lo ce sl : Nat) : Prop :=
  match κ with
  | (_, _, _, R, _) => fr ≤ R.frames ∧ lo ≤ R.locals ∧ ce ≤ R.cells ∧ sl ≤ R.slots
def J (κ : jC) (nL c sl n pc : Nat) (ls : List (Option Value)) (st : List Value) (M : jdM) : Prop :=
  match κ with
  | (p, l, e, R, s, m, args, below, meth, c0, Q, A, dC, dI, dA, n0, ad0) =>
    ∀ (ad : Nat → Nat) (H : Heap) (locs : List Loc) (la : Array Slot), (∀ k, (k < n0 ∨ 1000000 ≤ k) → ad k = ad0 k) → n0 ≤ n → n ≤ 1000000 → (∀ k, k < n → jokE n (M k)) → (∀ v, some v ∈ ls → jok n v) → (∀ v ∈ st, jok n v) →
      va_P (dC, dI) vwCl (jW dA ad n M) H → va_D A (jW dA ad n M) → va_S A s.heap H locs → lv_has la nL (jls ad 0 ls) →
      W p l e R s m args below meth c0 H locs c sl Q (F0 m pc la (st.map (jv ad)))
/-- a method's start and end, over the numbered memory -/
def jPc (dC : Nat → ClassId) (dI : Nat → Nat → Nat) (dA : Nat → ClassId) (ad : Nat → Nat) (sz n : Nat) (M : jdM) (vs : List Value) : Array Value → State → Prop := fun v U =>
  v = (vs.map (jv ad)).toArray ∧ U.heap.size = sz ∧ n ≤ 1000000 ∧ (∀ k, k < n → jokE n (M k)) ∧ (∀ v ∈ vs, jok n v) ∧ va_P (dC, dI) vwCl (jW dA ad n M) U.heap ∧ va_D (fun _ => True) (jW dA ad n M) ∧ va_K (dC, dI) vwCl (jtys dA) U ∧ jSF ad (va_A (jW dA ad n M) sz) U U.heap
def jQc (dC : Nat → ClassId) (dI : Nat → Nat → Nat) (dA : Nat → ClassId) (ad : Nat → Nat) (sz n : Nat) (M : jdM) (Post : Option Value → Nat → jdM → Prop) : Array Value → State → Outcome → State → Prop := fun _ st o t =>
  (∃ (v : Option Value) (ad' : Nat → Nat) (n' : Nat) (M' : jdM), o = .returned (v.map (jv ad')) ∧ (∀ k, (k < n ∨ 1000000 ≤ k) → ad' k = ad k) ∧ n ≤ n' ∧ n' ≤ 1000000 ∧ (∀ k, k < n' → jokE n' (M' k)) ∧ (∀ w, v = some w → jok n' w) ∧ va_P (dC, dI) vwCl (jW dA ad' n' M') t.heap ∧ va_D (va_A (jW dA ad n M) sz) (jW dA ad' n' M') ∧ Post v n' M') ∧ va_F (va_A (jW dA ad n M) sz) st t
/-- a method's contract: from this memory and these arguments it returns with Post -/
def Ct (l : Launch) (y : MethodName) (cc : ByteArray) (maxL : Nat) (ret : Option FieldType) (rm : Room) (vs : List Value) (n : Nat) (M : jdM) (Post : Option Value → Nat → jdM → Prop) : Prop :=
  ∀ (dC : Nat → ClassId) (dI : Nat → Nat → Nat) (dA : Nat → ClassId) (ad : Nat → Nat) (sz : Nat), Met l y (Cond.code y cc maxL ret :: wsL_law) rm (jPc dC dI dA ad sz n M vs) (jQc dC dI dA ad sz n M Post) rm.cells rm.slots (va_A (jW dA ad n M) sz)
/-- the end that a walk is for -/
def Rt (κ : jC) (mc ms : Nat) (Post : Option Value → Nat → jdM → Prop) : Prop :=
  match κ with
  | (p, l, e, R, s, m, args, below, meth, c0, Q, A, dC, dI, dA, n0, ad0) => ∃ M0 : jdM, A = va_A (jW dA ad0 n0 M0) s.heap.size ∧ Q = MQ below (jQc dC dI dA ad0 s.heap.size n0 M0 Post) args s mc ms A
theorem Ct_of {l : Launch} {y : MethodName} {cc : ByteArray} {maxL : Nat} {ret : Option FieldType} {rm : Room} {vs : List Value} {n : Nat} {M : jdM} {Post : Option Value → Nat → jdM → Prop} (ls : List (Option Value)) (hy : plainName y.cls = true) (hlen : (lg_sl vs).length ≤ maxL) (hls : jargs vs ++ List.replicate (maxL - (jargs vs).length) none = ls)
    (body : ∀ κ : jC, κ.2.1 = l → Ok κ y.cls cc maxL ret → Rm κ rm.frames rm.locals rm.cells rm.slots → Rt κ rm.cells rm.slots Post → (κ.2.2.2.2.2.2.2.2.1).name = y.name → n ≤ 1000000 → J κ maxL 0 0 n 0 ls [] M) : Ct l y cc maxL ret rm vs n M Post := by
  intro dC dI dA ad sz
  refine Met.ofW (cc := cc) (maxL := maxL) (ret := ret) hy rfl ?_
  intro p e s m args below meth c s₁ B hml hv
  obtain ⟨rfl, hsz, hn, hM, hvs, hP, hD, hK, hSF⟩ := hv
  subst hsz
  have hts0 := atoms_spec (ws := Cond.code y cc maxL ret :: wsL_law) B.pre
  have hb := body (p, l, e, (headSpec (Cond.code y cc maxL ret :: wsL_law) rm).room, s, m, (vs.map (jv ad)).toArray, below, meth, c, MQ below (jQc dC dI dA ad s.heap.size n M Post) (vs.map (jv ad)).toArray s rm.cells rm.slots (va_A (jW dA ad n M) s.heap.size), va_A (jW dA ad n M) s.heap.size, dC, dI, dA, n, ad) rfl
    ⟨B.exec, B.bytes, hml, findClass_of_methodNamed B.named, fun w hw => hts0 w (List.mem_cons_of_mem _ hw), hK, B.returns, B.notSynchronized, fun q h => Or.inr h, hSF⟩ ⟨Nat.le_refl _, Nat.le_refl _, Nat.le_refl _, Nat.le_refl _⟩ ⟨M, rfl, rfl⟩ (name_of_methodNamed B.named B.method).1 hn
  have hl := lv_entry (vs.map (jv ad)) (n := maxL) (by
    have : lg_sl (vs.map (jv ad)) = lg_sl (vs.map (jv ad)) := rfl
    have h2 : (lg_sl (vs.map (jv ad))).length = (lg_sl vs).length := by
      simp only [lg_sl, List.length_flatMap, List.map_map]
      congr 1
      apply List.map_congr_left
      intro v _
      simp only [Function.comp, jv_cat]
      split <;> rfl
    omega)
  rw [lg_entry_eq]
  refine hb ad s.heap [] _ (fun _ _ => rfl) (Nat.le_refl _) hn hM (fun v hv => ?_) (fun v hv => (by cases hv)) hP (hD.self) va_S.rf ?_
  · rw [← hls] at hv
    rcases List.mem_append.mp hv with h | h
    · exact hvs v (jargs_mem h)
    · cases List.eq_of_mem_replicate h
  · rw [← hls, jls_args]
    exact hl
