/-! 25: Tokens: what its steps do to its state -/
theorem Tok_ext {M : jdM} {n b : Nat} {g : Nat → Int} {w : Int} {bs nm ns nn : Nat → Int} {g' : Nat → Int} {w' : Int} (h : Tok M n b g w bs nm ns nn) (e1 : g 1 = g' 1) (e2 : g 2 = g' 2) (e3 : g 3 = g' 3) (e4 : g 4 = g' 4) (e5 : g 5 = g' 5) (e7 : g 7 = g' 7) (e8 : g 8 = g' 8) (e12 : g 12 = g' 12) (ew : w = w') : Tok M n b g' w' bs nm ns nn := by
  have e : fX6 b g w = fX6 b g' w' := by
    subst ew
    funext i
    exact match i with
    | 0 => rfl
    | 1 => by show jI _ = jI _; rw [e1]
    | 2 => by show jI _ = jI _; rw [e2]
    | 3 => by show jI _ = jI _; rw [e3]
    | 4 => by show jI _ = jI _; rw [e4]
    | 5 => by show jI _ = jI _; rw [e5]
    | 6 => rfl
    | 7 => by show jI _ = jI _; rw [e7]
    | 8 => by show jI _ = jI _; rw [e8]
    | 9 => rfl
    | 10 => rfl
    | 11 => rfl
    | 12 => by show jI _ = jI _; rw [e12]
    | i + 13 => rfl
  unfold Tok at h ⊢
  rw [← e]
  exact h
/-- the state of a row of tokens: its numbers, the word, the names -/
abbrev TS : Type := (Nat → Int) × Int × (Nat → Int) × (Nat → Int) × (Nat → Int)
def TkP (M : jdM) (n b : Nat) (bs : Nat → Int) (p : TS) : Prop := Tok M n b p.1 p.2.1 bs p.2.2.1 p.2.2.2.1 p.2.2.2.2
def nxF (bs g : Nat → Int) : Int := runI 32 32 bs (g 1) (g 3)
def nxA (bs g : Nat → Int) : Int := runI 97 122 bs (g 1) (nxF bs g)
def nxD (bs g : Nat → Int) : Int := runI 48 57 bs (g 1) (nxF bs g)
def nxG (bs g : Nat → Int) : Nat → Int := fun k => if k = 2 then nxF bs g else if k = 3 then tokT (g 1) (nxF bs g) (nxA bs g) (nxD bs g) else if k = 4 then tokS bs (g 1) (nxF bs g) (nxA bs g) (nxD bs g) else if k = 5 then tokV bs (nxF bs g) (nxA bs g) (nxD bs g) else g k
def nxP (bs : Nat → Int) (p : TS) : TS := (nxG bs p.1, tokW bs (nxF bs p.1) (nxA bs p.1), p.2.2)
def flP (k : Int) (p : TS) : TS := if p.1 7 = 0 then (up (up p.1 7 k) 8 (p.1 2), p.2) else p
def esP (bs : Nat → Int) (c : Int) (p : TS) : TS := if p.1 7 ≠ 0 then p else if p.1 4 = 3 ∧ p.1 2 < p.1 1 ∧ bs (p.1 2).toNat = c then nxP bs p else flP 1 p
noncomputable def ewP (bs : Nat → Int) (k : Nat) (p : TS) : TS := if p.1 7 ≠ 0 then p else @ite TS (wordIs bs p.1 k) (Classical.propDecidable _) (nxP bs p) (flP 1 p)
def ehP (bs : Nat → Int) (lo hi : Int) (p : TS) : Int × TS := if p.1 7 ≠ 0 then (lo, p) else if p.1 4 ≠ 2 then (lo, flP 1 p) else if p.1 5 < lo ∨ hi < p.1 5 then (lo, flP 4 p) else (p.1 5, nxP bs p)
noncomputable def nnP (bs : Nat → Int) (s x : Int) (p : TS) : TS := if p.1 7 ≠ 0 then p else if p.1 4 ≠ 1 ∨ resI bs p.1 ≠ -1 then flP 1 p else if fnI p.2.2.1 p.2.1 (p.1 12) ≠ -1 ∨ 16 ≤ p.1 12 then flP 3 p else nxP bs (up p.1 12 (p.1 12 + 1), p.2.1, up p.2.2.1 (p.1 12).toNat p.2.1, up p.2.2.2.1 (p.1 12).toNat s, up p.2.2.2.2 (p.1 12).toNat x)
noncomputable def snP (bs : Nat → Int) (s : Int) (p : TS) : Int × TS := if p.1 7 ≠ 0 then (0, p) else if p.1 4 ≠ 1 ∨ resI bs p.1 ≠ -1 then (0, flP 1 p) else if fnI p.2.2.1 p.2.1 (p.1 12) = -1 ∨ p.2.2.2.1 (fnI p.2.2.1 p.2.1 (p.1 12)).toNat ≠ s then (0, flP 2 p) else (p.2.2.2.2 (fnI p.2.2.1 p.2.1 (p.1 12)).toNat, p)
noncomputable def enP (bs : Nat → Int) (s : Int) (p : TS) : Int × TS := if (snP bs s p).2.1 7 = 0 then ((snP bs s p).1, nxP bs (snP bs s p).2) else snP bs s p
/-- figures of bytes below 128 stay below half of 256 ^ k -/
theorem acc_b {bs : Nat → Int} {f : Int} {m : Nat} (hb : ∀ j, j < m → 0 ≤ bs (f.toNat + j) ∧ bs (f.toNat + j) < 128) : ∀ k, k ≤ m → 0 ≤ acc 256 0 bs f k ∧ 2 * acc 256 0 bs f k + 1 ≤ 256 ^ k
  | 0, _ => by unfold acc; exact ⟨Int.le_refl _, by decide⟩
  | k + 1, h => by
    have h1 := acc_b hb k (by omega)
    have h2 := hb k (by omega)
    unfold acc
    rw [Int.pow_succ]
    omega
theorem runN_c {lo hi e : Int} {bs : Nat → Int} : ∀ (k : Nat) (i j : Int), i ≤ j → j < runN lo hi bs e i k → lo ≤ bs j.toNat ∧ bs j.toNat ≤ hi
  | 0, i, j, h1, h2 => by unfold runN at h2; omega
  | k + 1, i, j, h1, h2 => by
    unfold runN at h2
    split at h2
    · rename_i q
      by_cases e : i = j
      · rw [← e]; exact q.2
      · exact runN_c k (i + 1) j (by omega) h2
    · omega
theorem p256 (k : Nat) (h : k ≤ 8) : (256 : Int) ^ k ≤ 18446744073709551616 := (by decide +kernel : ∀ k : Fin 9, (256 : Int) ^ k.val ≤ 18446744073709551616) ⟨k, by omega⟩
/-- the state holds together -/
def PO (p : TS) : Prop := TkO p.1 ∧ (p.1 4 = 1 → 0 ≤ p.2.1 ∧ p.2.1 < 9223372036854775808) ∧ (∀ i, 0 ≤ p.2.2.1 i ∧ p.2.2.1 i < 9223372036854775808) ∧ (∀ i, 0 ≤ p.2.2.2.1 i ∧ p.2.2.2.1 i ≤ 100) ∧ (∀ i, 0 ≤ p.2.2.2.2 i ∧ p.2.2.2.2 i ≤ 100)
theorem tokV_b {bs : Nat → Int} {f d : Int} (h : f < d ∧ d - f ≤ 3 ∧ 0 ≤ f) (hb : ∀ j : Int, f ≤ j → j < d → 48 ≤ bs j.toNat ∧ bs j.toNat ≤ 57) : 0 ≤ acc 10 48 bs f (d - f).toNat ∧ acc 10 48 bs f (d - f).toNat ≤ 999 := by
  have h0 := hb f (by omega) (by omega)
  have e0 : (f : Int).toNat + 0 = f.toNat := by omega
  rcases (show (d - f).toNat = 1 ∨ (d - f).toNat = 2 ∨ (d - f).toNat = 3 by omega) with q | q | q
  · rw [q]; unfold acc acc; rw [e0]; omega
  · have h1 := hb (f + 1) (by omega) (by omega)
    rw [show (f + 1).toNat = f.toNat + 1 by omega] at h1
    rw [q]; unfold acc acc acc; rw [e0]; omega
  · have h1 := hb (f + 1) (by omega) (by omega)
    have h2 := hb (f + 2) (by omega) (by omega)
    rw [show (f + 1).toNat = f.toNat + 1 by omega] at h1
    rw [show (f + 2).toNat = f.toNat + 2 by omega] at h2
    rw [q]; unfold acc acc acc acc; rw [e0]; omega
theorem nxP_O0 {bs : Nat → Int} {p : TS} (o1 : -2147483648 ≤ p.1 1 ∧ p.1 1 ≤ 900) (o3 : 0 ≤ p.1 3 ∧ p.1 3 ≤ 900) (o7 : -2147483648 ≤ p.1 7 ∧ p.1 7 < 2147483648) (o12 : 0 ≤ p.1 12 ∧ p.1 12 ≤ 16) (hn : (∀ i, 0 ≤ p.2.2.1 i ∧ p.2.2.1 i < 9223372036854775808) ∧ (∀ i, 0 ≤ p.2.2.2.1 i ∧ p.2.2.2.1 i ≤ 100) ∧ (∀ i, 0 ≤ p.2.2.2.2 i ∧ p.2.2.2.2 i ≤ 100)) : PO (nxP bs p) := by
  have bF : p.1 3 ≤ nxF bs p.1 ∧ nxF bs p.1 ≤ max (p.1 3) (p.1 1) := runI_b
  have bA : nxF bs p.1 ≤ nxA bs p.1 ∧ nxA bs p.1 ≤ max (nxF bs p.1) (p.1 1) := runI_b
  have bD : nxF bs p.1 ≤ nxD bs p.1 ∧ nxD bs p.1 ≤ max (nxF bs p.1) (p.1 1) := runI_b
  have g1 : (nxP bs p).1 1 = p.1 1 := rfl
  have g2 : (nxP bs p).1 2 = nxF bs p.1 := rfl
  have g3 : (nxP bs p).1 3 = tokT (p.1 1) (nxF bs p.1) (nxA bs p.1) (nxD bs p.1) := rfl
  have g4 : (nxP bs p).1 4 = tokS bs (p.1 1) (nxF bs p.1) (nxA bs p.1) (nxD bs p.1) := rfl
  have g5 : (nxP bs p).1 5 = tokV bs (nxF bs p.1) (nxA bs p.1) (nxD bs p.1) := rfl
  have g7 : (nxP bs p).1 7 = p.1 7 := rfl
  have g12 : (nxP bs p).1 12 = p.1 12 := rfl
  refine ⟨?_, fun h4 => ?_, hn⟩
  · unfold TkO
    rw [g1, g2, g3, g4, g5, g7, g12]
    refine ⟨o1, by omega, ?_, ?_, o7, o12, fun q => ?_, fun q => ?_⟩
    · unfold tokT; (repeat' split) <;> omega
    · unfold tokS; (repeat' split) <;> omega
    · unfold tokS at q; unfold tokT; (repeat' split at q) <;> (repeat' split) <;> omega
    · unfold tokV
      split
      · omega
      · refine tokV_b ?_ (fun j h1 h2 => runN_c _ _ j h1 h2)
        unfold tokS at q; (repeat' split at q) <;> omega
  · rw [g4] at h4
    have hA : nxF bs p.1 < nxA bs p.1 ∧ nxA bs p.1 - nxF bs p.1 ≤ 8 := by unfold tokS at h4; (repeat' split at h4) <;> omega
    have hb := acc_b (bs := bs) (f := nxF bs p.1) (m := (nxA bs p.1 - nxF bs p.1).toNat) (fun j hj => by
      have := runN_c (lo := 97) (hi := 122) (e := p.1 1) (bs := bs) _ (nxF bs p.1) (nxF bs p.1 + j) (by omega) (show nxF bs p.1 + j < nxA bs p.1 by omega)
      rw [show (nxF bs p.1 + (j : Int)).toNat = (nxF bs p.1).toNat + j by omega] at this
      omega) _ (Nat.le_refl _)
    have hp := p256 (nxA bs p.1 - nxF bs p.1).toNat (by omega)
    show 0 ≤ tokW _ _ _ ∧ tokW _ _ _ < _
    unfold tokW
    omega
theorem nxP_O {bs : Nat → Int} {p : TS} (h : PO p) : PO (nxP bs p) := nxP_O0 h.1.1 h.1.2.2.1 h.1.2.2.2.2.1 h.1.2.2.2.2.2.1 h.2.2
theorem flP_O {k : Int} {p : TS} (h : PO p) (hk : -2147483648 ≤ k ∧ k < 2147483648) : PO (flP k p) := by
  unfold flP
  split
  · obtain ⟨⟨o1, o2, o3, o4, o7, o12, o⟩, h⟩ := h
    exact ⟨⟨o1, o2, o3, o4, hk, o12, o⟩, h⟩
  · exact h
