/-! 87: the reference: reading by tokens, beginnings -/
/-- figures and their number -/
theorem acc_n {B c f : Int} {bs : Nat → Int} (hB : 0 ≤ B) : ∀ k : Nat, (∀ j, j < k → 1 ≤ bs (f.toNat + j) - c) → 0 ≤ acc B c bs f k
  | 0, _ => Int.le_refl _
  | k + 1, h => by
    have h1 := acc_n (f := f) hB k (fun j hj => h j (by omega))
    have h2 := h k (by omega)
    have h3 := Int.mul_nonneg h1 hB
    rw [acc]
    omega
theorem acc_inj {B c f f' : Int} {bs bs' : Nat → Int} (hB : 0 ≤ B) : ∀ k k' : Nat, (∀ j, j < k → 1 ≤ bs (f.toNat + j) - c ∧ bs (f.toNat + j) - c < B) → (∀ j, j < k' → 1 ≤ bs' (f'.toNat + j) - c ∧ bs' (f'.toNat + j) - c < B) → acc B c bs f k = acc B c bs' f' k' → k = k' ∧ ∀ j, j < k → bs (f.toNat + j) = bs' (f'.toNat + j)
  | 0, 0, _, _, _ => ⟨rfl, fun j hj => by omega⟩
  | 0, k' + 1, _, h', e => by
    exfalso
    have h1 := Int.mul_nonneg (acc_n (f := f') hB k' (fun j hj => (h' j (by omega)).1)) hB
    have h2 := h' k' (by omega)
    rw [acc, acc] at e
    omega
  | k + 1, 0, h, _, e => by
    exfalso
    have h1 := Int.mul_nonneg (acc_n (f := f) hB k (fun j hj => (h j (by omega)).1)) hB
    have h2 := h k (by omega)
    rw [acc, acc] at e
    omega
  | k + 1, k' + 1, h, h', e => by
    have h2 := h k (by omega)
    have h2' := h' k' (by omega)
    rw [acc, acc, Int.add_sub_assoc, Int.add_sub_assoc] at e
    obtain ⟨e1, e2⟩ := rad (by omega) (by omega) e
    obtain ⟨ek, ed⟩ := acc_inj hB k k' (fun j hj => h j (by omega)) (fun j hj => h' j (by omega)) e1
    subst ek
    refine ⟨rfl, fun j hj => ?_⟩
    by_cases q : j = k
    · subst q; omega
    · exact ed j (by omega)
theorem acc_cg {B c f f' : Int} {bs bs' : Nat → Int} : ∀ k : Nat, (∀ j, j < k → bs (f.toNat + j) = bs' (f'.toNat + j)) → acc B c bs f k = acc B c bs' f' k
  | 0, _ => rfl
  | k + 1, h => by rw [acc, acc, acc_cg k (fun j hj => h j (by omega)), h k (by omega)]
theorem acc_32 {f : Int} {bs : Nat → Int} : ∀ k : Nat, k ≤ 8 → (∀ j, j < k → 97 ≤ bs (f.toNat + j) ∧ bs (f.toNat + j) ≤ 122) → 0 ≤ acc 32 96 bs f k ∧ acc 32 96 bs f k + 1 ≤ 32 ^ k
  | 0, _, _ => by unfold acc; exact ⟨Int.le_refl _, by decide⟩
  | k + 1, hk, h => by
    have h1 := acc_32 (f := f) k (by omega) (fun j hj => h j (by omega))
    have h2 := h k (by omega)
    rw [acc, Int.pow_succ]
    omega
theorem p32 {k : Nat} (h : k ≤ 8) : (32 : Int) ^ k ≤ 1099511627776 := by
  have e : ∀ k : Nat, k < 9 → (32 : Int) ^ k ≤ 1099511627776 := by decide
  exact e k (by omega)
/-- a word, as the class and as the reference number it -/
def wrel (a b : Int) : Prop := ∃ (bs : Nat → Int) (f : Int) (k : Nat), 1 ≤ k ∧ k ≤ 8 ∧ (∀ j, j < k → 97 ≤ bs (f.toNat + j) ∧ bs (f.toNat + j) ≤ 122) ∧ a = acc 256 0 bs f k ∧ b = acc 32 96 bs f k
theorem wrel_iff {a b a' b' : Int} (h : wrel a b) (h' : wrel a' b') : a = a' ↔ b = b' := by
  obtain ⟨bs, f, k, k1, k2, hl, ea, eb⟩ := h
  obtain ⟨bs', f', k', k1', k2', hl', ea', eb'⟩ := h'
  constructor
  · intro e
    rw [ea, ea'] at e
    obtain ⟨ek, ed⟩ := acc_inj (by decide) k k' (fun j hj => by have := hl j hj; omega) (fun j hj => by have := hl' j hj; omega) e
    subst ek
    rw [eb, eb']
    exact acc_cg k ed
  · intro e
    rw [eb, eb'] at e
    obtain ⟨ek, ed⟩ := acc_inj (by decide) k k' (fun j hj => by have := hl j hj; omega) (fun j hj => by have := hl' j hj; omega) e
    subst ek
    rw [ea, ea']
    exact acc_cg k ed
theorem wrel_b {a b : Int} (h : wrel a b) : 0 ≤ b ∧ b < 1099511627776 := by
  obtain ⟨bs, f, k, k1, k2, hl, ea, eb⟩ := h
  have h1 := acc_32 (f := f) k k2 hl
  have h2 := p32 k2
  omega
/-- the word of a text -/
def accT (k : Nat) : Int := acc 32 96 (fun j => (jtxt k).getD j 0) 0 (jtxt k).length
/-- the byte that is looked at -/
def chR (bs : Nat → Int) (e i : Int) : Int := if i < e then bs i.toNat % 256 else -1
theorem chR_i {bs : Nat → Int} {e i lo hi : Int} (hb : ∀ j, -128 ≤ bs j ∧ bs j ≤ 127) (h : 0 ≤ lo ∧ hi ≤ 127) : (lo ≤ chR bs e i ∧ chR bs e i ≤ hi) ↔ (i < e ∧ lo ≤ bs i.toNat ∧ bs i.toNat ≤ hi) := by
  have := hb i.toNat
  unfold chR
  split <;> omega
theorem chR_e {bs : Nat → Int} {e i v : Int} (hb : ∀ j, -128 ≤ bs j ∧ bs j ≤ 127) (h : 0 ≤ v ∧ v ≤ 127) : chR bs e i = v ↔ (i < e ∧ bs i.toNat = v) := by
  have := hb i.toNat
  unfold chR
  split <;> omega
theorem chR_b {bs : Nat → Int} {e i : Int} : -1 ≤ chR bs e i ∧ chR bs e i ≤ 255 := by
  unfold chR
  split <;> omega
theorem chR_n {bs : Nat → Int} {e i : Int} : chR bs e i = -1 ↔ ¬ i < e := by
  unfold chR
  split <;> omega
def TRo (bs : Nat → Int) (p : TS) (g : Nat → Int) (w : Int) : Prop := g 10 = p.1 2 ∧ (p.1 4 ≠ 4 → g 8 = p.1 3) ∧ (p.1 4 = 0 → g 9 = 1) ∧ (p.1 4 = 1 → g 9 = 2 ∧ (1 ≤ p.1 3 - p.1 2 ∧ p.1 3 - p.1 2 ≤ 8) ∧ (∀ j : Nat, (j : Int) < p.1 3 - p.1 2 → 97 ≤ bs ((p.1 2).toNat + j) ∧ bs ((p.1 2).toNat + j) ≤ 122) ∧ p.2.1 = acc 256 0 bs (p.1 2) (p.1 3 - p.1 2).toNat ∧ w = acc 32 96 bs (p.1 2) (p.1 3 - p.1 2).toNat) ∧ (p.1 4 = 2 → g 9 = 3 ∧ g 12 = p.1 5) ∧ (p.1 4 = 3 → g 9 = 4 ∧ g 11 = bs (p.1 2).toNat ∧ p.1 2 < p.1 1) ∧ (p.1 4 = 4 → g 9 = 0)
/-- the reference's token against the class's -/
def TR (bs : Nat → Int) (p : TS) (g : Nat → Int) (w : Int) : Prop := (g 13 = p.1 7 ∧ g 7 = p.1 1 ∧ (0 ≤ p.1 3 ∧ p.1 3 ≤ p.1 1 ∧ p.1 1 ≤ 900) ∧ (0 ≤ g 12 ∧ g 12 ≤ 999) ∧ 0 ≤ w ∧ w < 1099511627776) ∧ (p.1 7 = 0 → TRo bs p g w) ∧ (p.1 7 ≠ 0 → g 9 = 5 ∧ g 14 = p.1 8 ∧ 0 < p.1 7)
theorem TR_5 {bs : Nat → Int} {p : TS} {g : Nat → Int} {w : Int} (h : TR bs p g w) (hP : PO p) : (g 9 = 5 ↔ p.1 7 ≠ 0) ∧ (p.1 7 = 0 → (g 9 = 0 ↔ p.1 4 = 4) ∧ (g 9 = 1 ↔ p.1 4 = 0) ∧ (g 9 = 2 ↔ p.1 4 = 1) ∧ (g 9 = 3 ↔ p.1 4 = 2) ∧ (g 9 = 4 ↔ p.1 4 = 3)) ∧ 0 ≤ g 9 ∧ g 9 ≤ 5 := by
  obtain ⟨-, h1, h2⟩ := h
  have h4 := hP.1.2.2.2.1
  by_cases q : p.1 7 = 0
  · obtain ⟨a, b, c0, c1, c2, c3, c4⟩ := h1 q
    rcases (show p.1 4 = 0 ∨ p.1 4 = 1 ∨ p.1 4 = 2 ∨ p.1 4 = 3 ∨ p.1 4 = 4 by omega) with e | e | e | e | e
    · have := c0 e; omega
    · have := (c1 e).1; omega
    · have := (c2 e).1; omega
    · have := (c3 e).1; omega
    · have := c4 e; omega
  · have := (h2 q).1
    omega
/-- the texts of letters -/
def ltT (k : Nat) : Prop := 1 ≤ (jtxt k).length ∧ (jtxt k).length ≤ 8 ∧ ∀ j, j < (jtxt k).length → 97 ≤ (jtxt k).getD j 0 ∧ (jtxt k).getD j 0 ≤ 122
theorem TR_w {bs : Nat → Int} {p : TS} {g : Nat → Int} {w : Int} {k : Nat} (h : TR bs p g w) (hP : PO p) (hk : ltT k) : (g 9 = 2 ∧ w = accT k) ↔ (p.1 7 = 0 ∧ wordIs bs p.1 k) := by
  have h5 := TR_5 h hP
  obtain ⟨-, h1, h2⟩ := h
  obtain ⟨l1, l2, l3⟩ := hk
  have e0 : (0 : Int).toNat = 0 := rfl
  constructor
  · rintro ⟨e1, e2⟩
    have q : p.1 7 = 0 := Classical.byContradiction (fun q => by have := h5.1.2 q; omega)
    have q4 := ((h5.2.1 q).2.2.1).1 e1
    obtain ⟨-, a1, a2, -, a4⟩ := (h1 q).2.2.2.1 q4
    rw [e2] at a4
    unfold accT at a4
    obtain ⟨ek, ed⟩ := acc_inj (f := 0) (f' := p.1 2) (by decide) _ _ (fun j hj => by have := l3 j hj; rw [e0, Nat.zero_add]; omega) (fun j hj => by have := a2 j (by omega); omega) a4
    refine ⟨q, q4, by omega, fun j hj => ?_⟩
    have := ed j hj
    rw [e0, Nat.zero_add] at this
    exact this.symm
  · rintro ⟨q, q4, b1, b2⟩
    obtain ⟨a0, a1, a2, -, a4⟩ := (h1 q).2.2.2.1 q4
    refine ⟨a0, ?_⟩
    rw [a4, b1, Int.toNat_natCast]
    exact acc_cg _ (fun j hj => by rw [e0, Nat.zero_add]; exact b2 j hj)
theorem TR_r {bs : Nat → Int} {p : TS} {g : Nat → Int} {w : Int} (h : TR bs p g w) (q : p.1 7 = 0) (q4 : p.1 4 = 1) : wrel p.2.1 w := by
  obtain ⟨-, a1, a2, a3, a4⟩ := (h.2.1 q).2.2.2.1 q4
  exact ⟨bs, p.1 2, (p.1 3 - p.1 2).toNat, by omega, by omega, fun j hj => a2 j (by omega), a3, a4⟩
/-- what a step of reading leaves as it is -/
def gkp (g g' : Nat → Int) : Prop := ∀ j, j < 8 ∨ 14 < j → g' j = g j
theorem gkp_r {g : Nat → Int} : gkp g g := fun _ _ => rfl
theorem gkp_t {g g' g'' : Nat → Int} (h : gkp g g') (h' : gkp g' g'') : gkp g g'' := fun j hj => (h' j hj).trans (h j hj)
theorem gkp_u {g g' : Nat → Int} {k : Nat} {x : Int} (h : gkp g g') (hk : 8 ≤ k ∧ k ≤ 14) : gkp g (up g' k x) := fun j hj => by rw [up_ne (by omega)]; exact h j hj
theorem TR_fl {bs : Nat → Int} {p : TS} {g : Nat → Int} {w k : Int} (h : TR bs p g w) (hP : PO p) (hk : 0 < k) : TR bs (flP k p) (if g 9 = 5 then g else up (up (up g 13 k) 14 (g 10)) 9 5) w := by
  have h5 := (TR_5 h hP).1
  by_cases q : p.1 7 = 0
  · have q5 : ¬ g 9 = 5 := fun e => h5.1 e q
    rw [if_neg q5]
    obtain ⟨⟨a1, a2, a3, a4, a5⟩, b, c⟩ := h
    have b1 := (b q).1
    unfold flP
    rw [if_pos q]
    refine ⟨⟨?_, ?_, ?_, ?_, a5⟩, fun q' => ?_, fun _ => ⟨up_eq, ?_, ?_⟩⟩
    · rw [up_ne (by omega), up_ne (by omega), up_eq]
      show k = up (up p.1 7 k) 8 (p.1 2) 7
      rw [up_ne (by omega), up_eq]
    · rw [up_ne (by omega), up_ne (by omega), up_ne (by omega)]
      show g 7 = up (up p.1 7 k) 8 (p.1 2) 1
      rw [up_ne (by omega), up_ne (by omega)]
      exact a2
    · show 0 ≤ up (up p.1 7 k) 8 (p.1 2) 3 ∧ up (up p.1 7 k) 8 (p.1 2) 3 ≤ up (up p.1 7 k) 8 (p.1 2) 1 ∧ up (up p.1 7 k) 8 (p.1 2) 1 ≤ 900
      rw [up_ne (by omega), up_ne (by omega), up_ne (by omega), up_ne (by omega)]
      exact a3
    · rw [up_ne (by omega), up_ne (by omega), up_ne (by omega)]
      exact a4
    · exfalso
      replace q' : up (up p.1 7 k) 8 (p.1 2) 7 = 0 := q'
      rw [up_ne (by omega), up_eq] at q'
      omega
    · rw [up_ne (by omega), up_eq]
      show g 10 = up (up p.1 7 k) 8 (p.1 2) 8
      rw [up_eq]
      exact b1
    · show 0 < up (up p.1 7 k) 8 (p.1 2) 7
      rw [up_ne (by omega), up_eq]
      exact hk
  · rw [if_pos (h.2.2 q).1]
    unfold flP
    rw [if_neg q]
    exact h
theorem and255r {x : Int} (h : -128 ≤ x ∧ x ≤ 127) : Int32.ofInt x &&& Int32.ofInt 255 = Int32.ofInt (x % 256) := by
  have e : ∀ k : Fin 256, Int32.ofInt (((k : Nat) : Int) - 128) &&& Int32.ofInt 255 = Int32.ofInt ((((k : Nat) : Int) - 128) % 256) := by decide +kernel
  have := e ⟨(x + 128).toNat, by omega⟩
  rw [show (((x + 128).toNat : Nat) : Int) - 128 = x by omega] at this
  exact this
theorem accT_b : ∀ k : Nat, k < 58 → 1 ≤ k → 0 ≤ accT k ∧ accT k < 1099511627776 := by decide +kernel
theorem ltT_k : ∀ k : Nat, k < 58 → 1 ≤ k → ltT k := by unfold ltT; decide +kernel
set_option maxHeartbeats 1000000 in
set_option maxRecDepth 20000 in
theorem s_X9_byteAt {l : Launch} {n : Nat} {M : jdM} {m : Nat} {g : Nat → Int} {w : Int} {fl rd : Value} {B : Nat → Nat → Int} (hX : MX M n m g w fl rd B) {bs : Nat → Int} (hbt : ∀ j, j < 900 → B 1 j = bs j) (hbb : ∀ j, -128 ≤ bs j ∧ bs j ≤ 127) {i : Int} (hi : 0 ≤ i ∧ i ≤ 900) (h7 : 0 ≤ g 7 ∧ g 7 ≤ 900) : Ct l yX9_byteAt cX9_byteAt 2 (some .int) rX9_byteAt [.ref m, jI i] n M (fun vv n' M' => (vv = some (jI (chR bs (g 7) i)) ∧ n = n' ∧ M = M') ∧ (-1) ≤ (chR bs (g 7) i) ∧ (chR bs (g 7) i) ≤ 255) := by
  refine Ct_of [some (.ref m), some (jI i)] (by decide) (Nat.le_of_ble_eq_true rfl) rfl (fun κ hl h hR hRt hmn hn0 => ?_)
  have h : Ok κ RX9 cX9_byteAt 2 (some .int) := h
  obtain ⟨hnm, hOm, hBm⟩ := id hX
  have hOm : M m = jdO 9 (fX9 m _ _ fl rd) := hOm
  have hB1 : M (m + 1) = jdY 900 (B 1) := hBm 1 (by omega) (by omega)
  refine jr_iload_n (pc := 0) h dX9_byteAt_0 rfl ?_
  refine jr_aload_n (pc := 1) h dX9_byteAt_1 rfl ?_
  refine gf_X9_65 (pc := 2) h dX9_byteAt_2 (by assumption) (by omega) ?_
  refine jr_icmp_ge (pc := 5) h 21 dX9_byteAt_5 (by decide) (by omega) (by omega) (fun c_5 => ?_) (fun c_5 => ?_)
  · skip
    refine jr_iconst (pc := 21) h dX9_byteAt_21 ?_
    refine jr_iret (pc := 22) h hRt dX9_byteAt_22 rfl (Nat.le_of_ble_eq_true rfl) (Nat.le_of_ble_eq_true rfl) ?_
    have hcb := chR_b (bs := bs) (e := g 7) (i := i)
    refine ⟨⟨ji_c ?_, rfl, rfl⟩, hcb⟩
    unfold chR
    first
    | (rw [if_pos (by omega)])
    | (rw [if_neg (by omega)])
  · skip
    refine jr_aload_n (pc := 8) h dX9_byteAt_8 rfl ?_
    refine gf_X9_13 (pc := 9) h dX9_byteAt_9 (by assumption) (by omega) ?_
    refine jr_iload_n (pc := 12) h dX9_byteAt_12 rfl ?_
    refine jr_bald (pc := 13) h dX9_byteAt_13 (by assumption) (by omega) (by omega) ?_
    refine jr_sipush (pc := 14) h dX9_byteAt_14 sp_255 ?_
    rw [hbt _ (by omega)]
    refine jr_iand (pc := 17) h dX9_byteAt_17 ?_
    rw [and255r (hbb _)]
    refine jr_goto (pc := 18) h 22 dX9_byteAt_18 (by decide) ?_
    refine jr_iret (pc := 22) h hRt dX9_byteAt_22 rfl (Nat.le_of_ble_eq_true rfl) (Nat.le_of_ble_eq_true rfl) ?_
    have hcb := chR_b (bs := bs) (e := g 7) (i := i)
    refine ⟨⟨ji_c ?_, rfl, rfl⟩, hcb⟩
    unfold chR
    first
    | (rw [if_pos (by omega)])
    | (rw [if_neg (by omega)])
set_option maxHeartbeats 1000000 in
set_option maxRecDepth 20000 in
theorem s_X9_isLetter {l : Launch} {n : Nat} {M : jdM} {x : Int} (hx : -2147483648 ≤ x ∧ x < 2147483648) : Ct l yX9_isLetter cX9_isLetter 1 (some .boolean) rX9_isLetter [jI x] n M (fun vv n' M' => (vv = some (jI (bz (97 ≤ x ∧ x ≤ 122))) ∧ n = n' ∧ M = M') ∧ (0) ≤ (bz (97 ≤ x ∧ x ≤ 122)) ∧ (bz (97 ≤ x ∧ x ≤ 122)) ≤ 1) := by
  refine Ct_of [some (jI x)] (by decide) (Nat.le_of_ble_eq_true rfl) rfl (fun κ hl h hR hRt hmn hn0 => ?_)
  have h : Ok κ RX9 cX9_isLetter 1 (some .boolean) := h
  refine jr_iload_n (pc := 0) h dX9_isLetter_0 rfl ?_
  refine jr_bipush (pc := 1) h dX9_isLetter_1 bp_97 ?_
  refine jr_icmp_lt (pc := 3) h 16 dX9_isLetter_3 (by decide) (by omega) (by omega) (fun c_3 => ?_) (fun c_3 => ?_)
  · skip
    refine jr_iconst (pc := 16) h dX9_isLetter_16 ?_
    refine jr_iret (pc := 17) h hRt dX9_isLetter_17 rfl (Nat.le_of_ble_eq_true rfl) (Nat.le_of_ble_eq_true rfl) ?_
    refine ⟨⟨ji_c ?_, rfl, rfl⟩, bz_r _⟩
    first | rw [bz_t (by omega)] | rw [bz_f (by omega)]
  · skip
    refine jr_iload_n (pc := 6) h dX9_isLetter_6 rfl ?_
    refine jr_bipush (pc := 7) h dX9_isLetter_7 bp_122 ?_
    refine jr_icmp_gt (pc := 9) h 16 dX9_isLetter_9 (by decide) (by omega) (by omega) (fun c_9 => ?_) (fun c_9 => ?_)
    · skip
      refine jr_iconst (pc := 16) h dX9_isLetter_16 ?_
      refine jr_iret (pc := 17) h hRt dX9_isLetter_17 rfl (Nat.le_of_ble_eq_true rfl) (Nat.le_of_ble_eq_true rfl) ?_
      refine ⟨⟨ji_c ?_, rfl, rfl⟩, bz_r _⟩
      first | rw [bz_t (by omega)] | rw [bz_f (by omega)]
    · skip
      refine jr_iconst (pc := 12) h dX9_isLetter_12 ?_
      refine jr_goto (pc := 13) h 17 dX9_isLetter_13 (by decide) ?_
      refine jr_iret (pc := 17) h hRt dX9_isLetter_17 rfl (Nat.le_of_ble_eq_true rfl) (Nat.le_of_ble_eq_true rfl) ?_
      refine ⟨⟨ji_c ?_, rfl, rfl⟩, bz_r _⟩
      first | rw [bz_t (by omega)] | rw [bz_f (by omega)]
set_option maxHeartbeats 1000000 in
set_option maxRecDepth 20000 in
theorem s_X9_isDigit {l : Launch} {n : Nat} {M : jdM} {x : Int} (hx : -2147483648 ≤ x ∧ x < 2147483648) : Ct l yX9_isDigit cX9_isDigit 1 (some .boolean) rX9_isDigit [jI x] n M (fun vv n' M' => (vv = some (jI (bz (48 ≤ x ∧ x ≤ 57))) ∧ n = n' ∧ M = M') ∧ (0) ≤ (bz (48 ≤ x ∧ x ≤ 57)) ∧ (bz (48 ≤ x ∧ x ≤ 57)) ≤ 1) := by
  refine Ct_of [some (jI x)] (by decide) (Nat.le_of_ble_eq_true rfl) rfl (fun κ hl h hR hRt hmn hn0 => ?_)
  have h : Ok κ RX9 cX9_isDigit 1 (some .boolean) := h
  refine jr_iload_n (pc := 0) h dX9_isDigit_0 rfl ?_
  refine jr_bipush (pc := 1) h dX9_isDigit_1 bp_48 ?_
  refine jr_icmp_lt (pc := 3) h 16 dX9_isDigit_3 (by decide) (by omega) (by omega) (fun c_3 => ?_) (fun c_3 => ?_)
  · skip
    refine jr_iconst (pc := 16) h dX9_isDigit_16 ?_
    refine jr_iret (pc := 17) h hRt dX9_isDigit_17 rfl (Nat.le_of_ble_eq_true rfl) (Nat.le_of_ble_eq_true rfl) ?_
    refine ⟨⟨ji_c ?_, rfl, rfl⟩, bz_r _⟩
    first | rw [bz_t (by omega)] | rw [bz_f (by omega)]
  · skip
    refine jr_iload_n (pc := 6) h dX9_isDigit_6 rfl ?_
    refine jr_bipush (pc := 7) h dX9_isDigit_7 bp_57 ?_
    refine jr_icmp_gt (pc := 9) h 16 dX9_isDigit_9 (by decide) (by omega) (by omega) (fun c_9 => ?_) (fun c_9 => ?_)
    · skip
      refine jr_iconst (pc := 16) h dX9_isDigit_16 ?_
      refine jr_iret (pc := 17) h hRt dX9_isDigit_17 rfl (Nat.le_of_ble_eq_true rfl) (Nat.le_of_ble_eq_true rfl) ?_
      refine ⟨⟨ji_c ?_, rfl, rfl⟩, bz_r _⟩
      first | rw [bz_t (by omega)] | rw [bz_f (by omega)]
    · skip
      refine jr_iconst (pc := 12) h dX9_isDigit_12 ?_
      refine jr_goto (pc := 13) h 17 dX9_isDigit_13 (by decide) ?_
      refine jr_iret (pc := 17) h hRt dX9_isDigit_17 rfl (Nat.le_of_ble_eq_true rfl) (Nat.le_of_ble_eq_true rfl) ?_
      refine ⟨⟨ji_c ?_, rfl, rfl⟩, bz_r _⟩
      first | rw [bz_t (by omega)] | rw [bz_f (by omega)]
set_option maxHeartbeats 1000000 in
set_option maxRecDepth 20000 in
theorem s_X9_wordOf {l : Launch} {n : Nat} {M : jdM} {k : Nat} (hk58 : k < 58) (hk1 : 1 ≤ k) : Ct l yX9_wordOf cX9_wordOf 4 (some .long) rX9_wordOf [.ref (1000000 + 100 + k)] n M (fun vv n' M' => vv = some (jL (accT k)) ∧ n = n' ∧ M = M') := by
  refine Ct_of [some (.ref (1000000 + 100 + k)), none, none, none] (by decide) (Nat.le_of_ble_eq_true rfl) rfl (fun κ hl h hR hRt hmn hn0 => ?_)
  have h : Ok κ RX9 cX9_wordOf 4 (some .long) := h
  have hl8 := (ltT_k k hk58 hk1).2.1
  refine jr_lconst (pc := 0) h dX9_wordOf_0 ?_
  refine jr_lstore_n (pc := 1) h [_, _, _, _] dX9_wordOf_1 (by decide) rfl ?_
  refine jr_iconst (pc := 2) h dX9_wordOf_2 ?_
  refine jr_istore_n (pc := 3) h [_, _, _, _] dX9_wordOf_3 (by decide) rfl ?_
  have loop : ∀ (dq : Nat) (w9 i : Int), (0 ≤ i ∧ i ≤ ((jtxt k).length : Int)) → (w9 = acc 32 96 (fun j => (jtxt k).getD j 0) 0 i.toNat) → (200 - i).toNat < dq → J κ 4 0 0 n 4 [some (.ref (1000000 + 100 + k)), some (jL w9), none, some (jI i)] [] M := by
    intro dq
    induction dq with
    | zero => intro w9 i hi hw9 hd; omega
    | succ dq ih =>
      intro w9 i hi hw9 hd
      refine jr_iload_n (pc := 4) h dX9_wordOf_4 rfl ?_
      refine jr_aload_n (pc := 5) h dX9_wordOf_5 rfl ?_
      refine iv_X9_68 (pc := 6) h hl hR dX9_wordOf_6 ⟨(Nat.le_of_ble_eq_true rfl), (Nat.le_of_ble_eq_true rfl), (Nat.le_of_ble_eq_true rfl), (Nat.le_of_ble_eq_true rfl)⟩ (Nat.le_of_ble_eq_true rfl) hk58 (s_J0_length hk58) (fun v_6 n_6 M_6 hn_6 hp => ?_)
      obtain ⟨rfl, rfl, rfl⟩ := hp
      refine jr_icmp_ge (pc := 9) h 36 dX9_wordOf_9 (by decide) (by omega) (by omega) (fun c_9 => ?_) (fun c_9 => ?_)
      · skip
        refine jr_lload_n (pc := 36) h dX9_wordOf_36 rfl ?_
        refine jr_lret (pc := 37) h hRt dX9_wordOf_37 (Nat.le_of_ble_eq_true rfl) (Nat.le_of_ble_eq_true rfl) ?_
        have e9 : accT k = w9 := by
          unfold accT
          rw [hw9, show i.toNat = (jtxt k).length by omega]
        rw [e9]
        exact ⟨rfl, rfl, rfl⟩
      · skip
        refine jr_ldc2 (pc := 12) h dX9_wordOf_12 wm_463 ?_
        rw [show (32 : Int64) = Int64.ofInt 32 from by decide]
        refine jr_lload_n (pc := 15) h dX9_wordOf_15 rfl ?_
        refine jr_lmul (pc := 16) h dX9_wordOf_16 ?_
        refine jr_aload_n (pc := 17) h dX9_wordOf_17 rfl ?_
        refine jr_iload_n (pc := 18) h dX9_wordOf_18 rfl ?_
        refine iv_X9_76 (pc := 19) h hl hR dX9_wordOf_19 ⟨(Nat.le_of_ble_eq_true rfl), (Nat.le_of_ble_eq_true rfl), (Nat.le_of_ble_eq_true rfl), (Nat.le_of_ble_eq_true rfl)⟩ (Nat.le_of_ble_eq_true rfl) hk58 (s_J0_charAt hk58 (by omega)) (fun v_19 n_19 M_19 hn_19 hp => ?_)
        obtain ⟨rfl, rfl, rfl⟩ := hp
        have hlet := (ltT_k k hk58 hk1).2.2 i.toNat (by omega)
        refine jr_bipush (pc := 22) h dX9_wordOf_22 bp_97 ?_
        refine jr_isub (pc := 24) h dX9_wordOf_24 ?_
        refine jr_iconst (pc := 25) h dX9_wordOf_25 ?_
        refine jr_iadd (pc := 26) h dX9_wordOf_26 ?_
        refine jr_i2l (pc := 27) h dX9_wordOf_27 (by omega) ?_
        refine jr_ladd (pc := 28) h dX9_wordOf_28 ?_
        refine jr_lstore_n (pc := 29) h [_, _, _, _] dX9_wordOf_29 (by decide) rfl ?_
        refine jr_iinc (pc := 30) h [_, _, _, _] dX9_wordOf_30 (by decide) rfl rfl ?_
        refine jr_goto (pc := 33) h 4 dX9_wordOf_33 (by decide) ?_
        refine ih _ _ (by omega) ?_ (by omega)
        rw [show (i + 1).toNat = i.toNat + 1 by omega, acc, ← hw9, show ((0 : Int).toNat + i.toNat) = i.toNat by omega]
        omega
  exact loop _ _ _ (by omega) rfl (Nat.lt_succ_self _)
set_option maxHeartbeats 1000000 in
set_option maxRecDepth 20000 in
theorem s_X9_isWord {l : Launch} {n : Nat} {M : jdM} {m : Nat} {g : Nat → Int} {w : Int} {fl rd : Value} {B : Nat → Nat → Int} (hX : MX M n m g w fl rd B) {k : Nat} (hk58 : k < 58) (hk1 : 1 ≤ k) (hw : 0 ≤ w ∧ w < 1099511627776) (hg9 : 0 ≤ g 9 ∧ g 9 ≤ 5) : Ct l yX9_isWord cX9_isWord 2 (some .boolean) rX9_isWord [.ref m, .ref (1000000 + 100 + k)] n M (fun vv n' M' => (vv = some (jI (bz (g 9 = 2 ∧ w = accT k))) ∧ n = n' ∧ M = M') ∧ (0) ≤ (bz (g 9 = 2 ∧ w = accT k)) ∧ (bz (g 9 = 2 ∧ w = accT k)) ≤ 1) := by
  refine Ct_of [some (.ref m), some (.ref (1000000 + 100 + k))] (by decide) (Nat.le_of_ble_eq_true rfl) rfl (fun κ hl h hR hRt hmn hn0 => ?_)
  have h : Ok κ RX9 cX9_isWord 2 (some .boolean) := h
  obtain ⟨hnm, hOm, hBm⟩ := id hX
  have hOm : M m = jdO 9 (fX9 m _ _ fl rd) := hOm
  have hl8 := (ltT_k k hk58 hk1).2.1
  have hab := accT_b k hk58 hk1
  by_cases h9r : g 9 = 2
  · skip
    refine jr_aload_n (pc := 0) h dX9_isWord_0 rfl ?_
    refine gf_X9_80 (pc := 1) h dX9_isWord_1 (by assumption) (by omega) ?_
    refine jr_iconst (pc := 4) h dX9_isWord_4 ?_
    refine jr_icmp_ne (pc := 5) h 24 dX9_isWord_5 (by decide) (by omega) (by omega) (fun c => absurd h9r c) (fun _ => ?_)
    refine jr_aload_n (pc := 8) h dX9_isWord_8 rfl ?_
    refine gf_X9_99 (pc := 9) h dX9_isWord_9 (by assumption) (by omega) ?_
    refine jr_aload_n (pc := 12) h dX9_isWord_12 rfl ?_
    refine iv_X9_115 (pc := 13) h hl hR dX9_isWord_13 ⟨(Nat.le_of_ble_eq_true rfl), (Nat.le_of_ble_eq_true rfl), (Nat.le_of_ble_eq_true rfl), (Nat.le_of_ble_eq_true rfl)⟩ (Nat.le_of_ble_eq_true rfl) (s_X9_wordOf hk58 hk1) (fun v_13 n_13 M_13 hn_13 hp => ?_)
    obtain ⟨rfl, rfl, rfl⟩ := hp
    refine jr_lcmp (pc := 16) h dX9_isWord_16 (by omega) (by omega) ?_
    have lz := lcz_s w (accT k)
    refine jr_if_ne (pc := 17) h 24 dX9_isWord_17 (by decide) (by omega) (fun c_17 => ?_) (fun c_17 => ?_)
    · skip
      refine jr_iconst (pc := 24) h dX9_isWord_24 ?_
      refine jr_iret (pc := 25) h hRt dX9_isWord_25 rfl (Nat.le_of_ble_eq_true rfl) (Nat.le_of_ble_eq_true rfl) ?_
      refine ⟨⟨ji_c ?_, rfl, rfl⟩, bz_r _⟩
      first | rw [bz_t ⟨h9r, by omega⟩] | rw [bz_f (fun q => by omega)]
    · skip
      refine jr_iconst (pc := 20) h dX9_isWord_20 ?_
      refine jr_goto (pc := 21) h 25 dX9_isWord_21 (by decide) ?_
      refine jr_iret (pc := 25) h hRt dX9_isWord_25 rfl (Nat.le_of_ble_eq_true rfl) (Nat.le_of_ble_eq_true rfl) ?_
      refine ⟨⟨ji_c ?_, rfl, rfl⟩, bz_r _⟩
      first | rw [bz_t ⟨h9r, by omega⟩] | rw [bz_f (fun q => by omega)]
  · skip
    refine jr_aload_n (pc := 0) h dX9_isWord_0 rfl ?_
    refine gf_X9_80 (pc := 1) h dX9_isWord_1 (by assumption) (by omega) ?_
    refine jr_iconst (pc := 4) h dX9_isWord_4 ?_
    refine jr_icmp_ne (pc := 5) h 24 dX9_isWord_5 (by decide) (by omega) (by omega) (fun _ => ?_) (fun c => absurd c h9r)
    refine jr_iconst (pc := 24) h dX9_isWord_24 ?_
    refine jr_iret (pc := 25) h hRt dX9_isWord_25 rfl (Nat.le_of_ble_eq_true rfl) (Nat.le_of_ble_eq_true rfl) ?_
    refine ⟨⟨ji_c ?_, rfl, rfl⟩, bz_r _⟩
    rw [bz_f (fun q => h9r q.1)]
set_option maxHeartbeats 1000000 in
set_option maxRecDepth 20000 in
theorem s_X9_wrong {l : Launch} {n : Nat} {M : jdM} {m : Nat} {g : Nat → Int} {w : Int} {fl rd : Value} {B : Nat → Nat → Int} (hX : MX M n m g w fl rd B) {bs : Nat → Int} {p : TS} (hTR : TR bs p g w) (hPO : PO p) {k : Int} (hk : 1 ≤ k ∧ k ≤ 9) : Ct l yX9_wrong cX9_wrong 2 none rX9_wrong [.ref m, jI k] n M (fun vv n' M' => (vv = none ∧ n = n') ∧ ∃ g' w', MX M' n m g' w' fl rd B ∧ gkp g g' ∧ TR bs (flP k p) g' w' ∧ fr (MXf m) M M') := by
  refine Ct_of [some (.ref m), some (jI k)] (by decide) (Nat.le_of_ble_eq_true rfl) rfl (fun κ hl h hR hRt hmn hn0 => ?_)
  have h : Ok κ RX9 cX9_wrong 2 none := h
  obtain ⟨hnm, hOm, hBm⟩ := id hX
  have hOm : M m = jdO 9 (fX9 m _ _ fl rd) := hOm
  have f1 : fr (MXf m) M M := fr_rf
  have h5 := (TR_5 hTR hPO).2.2
  have hfl := TR_fl hTR hPO (k := k) (by omega)
  refine jr_aload_n (pc := 0) h dX9_wrong_0 rfl ?_
  refine gf_X9_80 (pc := 1) h dX9_wrong_1 (by assumption) (by omega) ?_
  refine jr_iconst (pc := 4) h dX9_wrong_4 ?_
  refine jr_icmp_ne (pc := 5) h 9 dX9_wrong_5 (by decide) (by omega) (by omega) (fun c_5 => ?_) (fun c_5 => ?_)
  · skip
    refine jr_aload_n (pc := 9) h dX9_wrong_9 rfl ?_
    refine jr_iload_n (pc := 10) h dX9_wrong_10 rfl ?_
    refine pf_X9_109 (pc := 11) h dX9_wrong_11 hOm (by omega) ?_
    refine jm_gen (fun M2 hM2 => ?_)
    rw [fX9_13] at hM2
    have hX := MX_o hX hM2
    have f9 : fr (MXf m) _ M2 := fr_up hM2 ⟨by omega, by omega⟩
    have f1 := fr_tr f1 f9
    obtain ⟨hnm, hOm, hBm⟩ := id hX
    refine jr_aload_n (pc := 14) h dX9_wrong_14 rfl ?_
    refine jr_aload_n (pc := 15) h dX9_wrong_15 rfl ?_
    refine gf_X9_89 (pc := 16) h dX9_wrong_16 (by assumption) (by omega) ?_
    show J _ _ _ _ _ _ _ (jI (g 10) :: _) _
    refine pf_X9_112 (pc := 19) h dX9_wrong_19 hOm (by omega) ?_
    refine jm_gen (fun M2 hM2 => ?_)
    rw [fX9_14] at hM2
    have hX := MX_o hX hM2
    have f9 : fr (MXf m) _ M2 := fr_up hM2 ⟨by omega, by omega⟩
    have f1 := fr_tr f1 f9
    obtain ⟨hnm, hOm, hBm⟩ := id hX
    refine jr_aload_n (pc := 22) h dX9_wrong_22 rfl ?_
    refine jr_iconst (pc := 23) h dX9_wrong_23 ?_
    refine pf_X9_80 (pc := 24) h dX9_wrong_24 hOm (by omega) ?_
    refine jm_gen (fun M2 hM2 => ?_)
    rw [fX9_9] at hM2
    have hX := MX_o hX hM2
    have f9 : fr (MXf m) _ M2 := fr_up hM2 ⟨by omega, by omega⟩
    have f1 := fr_tr f1 f9
    obtain ⟨hnm, hOm, hBm⟩ := id hX
    refine jr_vret (pc := 27) h hRt dX9_wrong_27 (Nat.le_of_ble_eq_true rfl) (Nat.le_of_ble_eq_true rfl) ?_
    rw [if_neg (by omega)] at hfl
    exact ⟨⟨rfl, rfl⟩, _, w, hX, gkp_u (gkp_u (gkp_u gkp_r (by omega)) (by omega)) (by omega), hfl, f1⟩
  · skip
    refine jr_vret (pc := 8) h hRt dX9_wrong_8 (Nat.le_of_ble_eq_true rfl) (Nat.le_of_ble_eq_true rfl) ?_
    rw [if_pos (by omega)] at hfl
    exact ⟨⟨rfl, rfl⟩, g, w, hX, gkp_r, hfl, f1⟩
