/-! 45: the class, its cells -/
abbrev FS : Type := (Nat → Int) × (Nat → Int) × (Nat → Int) × (Nat → Int) × (Nat → Int)
def FlT (M : jdM) (n f : Nat) (F : FS) : Prop := Fl M n f F.1 F.2.1 F.2.2.1 F.2.2.2.1 F.2.2.2.2
def RnT (M : jdM) (n r : Nat) (R : FS) : Prop := Rn M n r R.1 R.2.1 R.2.2.1 R.2.2.2.1 R.2.2.2.2
/-- numbers of its own, bytes, tokens, the flight, the draft, the run, the marks, the till's numbers, coins there, coins given -/
abbrev XS : Type := (Nat → Int) × (Nat → Int) × TS × FS × FS × FS × (Nat → FS) × (Nat → Int) × (Nat → Int) × (Nat → Int)
def fX7 (a cu dr : Nat) (g : Nat → Int) : Nat → Value
  | 0 => .ref (a + 1)
  | 1 => jI (g 1)
  | 2 => .ref cu
  | 3 => .ref dr
  | 4 => .ref (a + 19)
  | 5 => .ref (a + 24)
  | 6 => jI (g 6)
  | 7 => .ref (a + 25)
  | 8 => .ref (a + 29)
  | 9 => .ref (a + 31)
  | 10 => jI (g 10)
  | 11 => jI (g 11)
  | 12 => jI (g 12)
  | _ => .null
def mkR (a : Nat) : Nat → Option Nat := fun i => if i < 4 then some (a + 43 + 5 * i) else none
def SXc (M : jdM) (n a cu dr : Nat) (σ : XS) : Prop :=
  a + 63 ≤ n ∧ ((cu = a + 7 ∧ dr = a + 13) ∨ (cu = a + 13 ∧ dr = a + 7)) ∧ M a = jdO 7 (fX7 a cu dr σ.1) ∧ Te M n (a + 1) (a + 2) σ.2.1 σ.2.2.1 ∧ FlT M n cu σ.2.2.2.1 ∧ FlT M n dr σ.2.2.2.2.1 ∧ RnT M n (a + 19) σ.2.2.2.2.2.1 ∧ M (a + 24) = jdR 4 4 (mkR a) ∧
  (∀ i, i < 4 → RnT M n (a + 43 + 5 * i) (σ.2.2.2.2.2.2.1 i)) ∧ (∃ dg rm wn be, Dr M n (a + 25) dg rm wn be ∧ (∀ j, 0 ≤ wn j ∧ wn j ≤ 24) ∧ ∀ j, 0 ≤ be j ∧ be j ≤ 1000000) ∧ (∃ og ww, Od M n (a + 29) og ww) ∧ (∃ fc wf, Ti M n (a + 31) σ.2.2.2.2.2.2.2.1 σ.2.2.2.2.2.2.2.2.1 σ.2.2.2.2.2.2.2.2.2 fc wf)
def XSf (a : Nat) : Nat → Prop := fun k => a ≤ k ∧ k < a + 63
def SX (M : jdM) (n a : Nat) (σ : XS) : Prop := ∃ cu dr, SXc M n a cu dr σ
theorem fX7_1 {a cu dr : Nat} {g : Nat → Int} {x : Int} : up (fX7 a cu dr g) 1 (jI x) = fX7 a cu dr (up g 1 x) := by
  funext i
  match i with
  | 0 => rfl
  | 1 => rfl
  | 2 => rfl
  | 3 => rfl
  | 4 => rfl
  | 5 => rfl
  | 6 => rfl
  | 7 => rfl
  | 8 => rfl
  | 9 => rfl
  | 10 => rfl
  | 11 => rfl
  | 12 => rfl
  | i + 13 => rfl
theorem fX7_6 {a cu dr : Nat} {g : Nat → Int} {x : Int} : up (fX7 a cu dr g) 6 (jI x) = fX7 a cu dr (up g 6 x) := by
  funext i
  match i with
  | 0 => rfl
  | 1 => rfl
  | 2 => rfl
  | 3 => rfl
  | 4 => rfl
  | 5 => rfl
  | 6 => rfl
  | 7 => rfl
  | 8 => rfl
  | 9 => rfl
  | 10 => rfl
  | 11 => rfl
  | 12 => rfl
  | i + 13 => rfl
theorem fX7_10 {a cu dr : Nat} {g : Nat → Int} {x : Int} : up (fX7 a cu dr g) 10 (jI x) = fX7 a cu dr (up g 10 x) := by
  funext i
  match i with
  | 0 => rfl
  | 1 => rfl
  | 2 => rfl
  | 3 => rfl
  | 4 => rfl
  | 5 => rfl
  | 6 => rfl
  | 7 => rfl
  | 8 => rfl
  | 9 => rfl
  | 10 => rfl
  | 11 => rfl
  | 12 => rfl
  | i + 13 => rfl
theorem fX7_11 {a cu dr : Nat} {g : Nat → Int} {x : Int} : up (fX7 a cu dr g) 11 (jI x) = fX7 a cu dr (up g 11 x) := by
  funext i
  match i with
  | 0 => rfl
  | 1 => rfl
  | 2 => rfl
  | 3 => rfl
  | 4 => rfl
  | 5 => rfl
  | 6 => rfl
  | 7 => rfl
  | 8 => rfl
  | 9 => rfl
  | 10 => rfl
  | 11 => rfl
  | 12 => rfl
  | i + 13 => rfl
theorem fX7_12 {a cu dr : Nat} {g : Nat → Int} {x : Int} : up (fX7 a cu dr g) 12 (jI x) = fX7 a cu dr (up g 12 x) := by
  funext i
  match i with
  | 0 => rfl
  | 1 => rfl
  | 2 => rfl
  | 3 => rfl
  | 4 => rfl
  | 5 => rfl
  | 6 => rfl
  | 7 => rfl
  | 8 => rfl
  | 9 => rfl
  | 10 => rfl
  | 11 => rfl
  | 12 => rfl
  | i + 13 => rfl
theorem SXc_R {M M1 : jdM} {n a cu dr : Nat} {g bs : Nat → Int} {p : TS} {F D Rr : FS} {mk : Nat → FS} {tg tk tr : Nat → Int} {R1 : FS} (h : SXc M n a cu dr (g, bs, p, F, D, Rr, mk, tg, tk, tr)) (h1 : RnT M1 n (a + 19) R1) (h2 : fr (RnS (a + 19)) M M1) : SXc M1 n a cu dr (g, bs, p, F, D, R1, mk, tg, tk, tr) := by
  obtain ⟨han, hcd, xO, xT, xF, xG, xR, xA, xK, xD, xQ, xB⟩ := h
  exact ⟨han, hcd, ((h2 _ (fun q => by unfold RnS at q; omega)).trans xO), Te_fr xT h2 (Nat.le_refl _) (fun k h1 h2 q => by unfold RnS at q; omega) (fun q => by unfold RnS at q; omega), Fl_fr xF h2 (Nat.le_refl _) (fun k h1 h2 q => by unfold RnS at q; omega), Fl_fr xG h2 (Nat.le_refl _) (fun k h1 h2 q => by unfold RnS at q; omega), h1, ((h2 _ (fun q => by unfold RnS at q; omega)).trans xA), (fun i hi => Rn_fr (xK i hi) h2 (Nat.le_refl _) (fun k h1 h2 q => by unfold RnS at q; omega)), (by
    obtain ⟨dg, rm, wn, be, y1, y2⟩ := xD
    exact ⟨dg, rm, wn, be, Dr_fr y1 h2 (Nat.le_refl _) (fun k h1 h2 q => by unfold RnS at q; omega), y2⟩), (by
    obtain ⟨og, ww, y1⟩ := xQ
    exact ⟨og, ww, Od_fr y1 h2 (Nat.le_refl _) (fun k h1 h2 q => by unfold RnS at q; omega)⟩), (by
    obtain ⟨fc, wf, y1⟩ := xB
    exact ⟨fc, wf, Ti_fr y1 h2 (Nat.le_refl _) (fun k h1 h2 q => by unfold RnS at q; omega)⟩)⟩
theorem SXc_K {M M1 : jdM} {n a cu dr : Nat} {g bs : Nat → Int} {p : TS} {F D Rr : FS} {mk : Nat → FS} {tg tk tr : Nat → Int} {R1 : FS} {i : Nat} (h : SXc M n a cu dr (g, bs, p, F, D, Rr, mk, tg, tk, tr)) (hi : i < 4) (h1 : RnT M1 n (a + 43 + 5 * i) R1) (h2 : fr (RnS (a + 43 + 5 * i)) M M1) : SXc M1 n a cu dr (g, bs, p, F, D, Rr, up mk i R1, tg, tk, tr) := by
  obtain ⟨han, hcd, xO, xT, xF, xG, xR, xA, xK, xD, xQ, xB⟩ := h
  exact ⟨han, hcd, ((h2 _ (fun q => by unfold RnS at q; omega)).trans xO), Te_fr xT h2 (Nat.le_refl _) (fun k h1 h2 q => by unfold RnS at q; omega) (fun q => by unfold RnS at q; omega), Fl_fr xF h2 (Nat.le_refl _) (fun k h1 h2 q => by unfold RnS at q; omega), Fl_fr xG h2 (Nat.le_refl _) (fun k h1 h2 q => by unfold RnS at q; omega), Rn_fr xR h2 (Nat.le_refl _) (fun k h1 h2 q => by unfold RnS at q; omega), ((h2 _ (fun q => by unfold RnS at q; omega)).trans xA), (fun j hj => by
    show RnT M1 n (a + 43 + 5 * j) (up mk i R1 j)
    by_cases q : j = i
    · rw [q, up_eq]; exact h1
    · rw [up_ne q]
      exact Rn_fr (xK j hj) h2 (Nat.le_refl _) (fun k h1 h2 q => by unfold RnS at q; omega)), (by
    obtain ⟨dg, rm, wn, be, y1, y2⟩ := xD
    exact ⟨dg, rm, wn, be, Dr_fr y1 h2 (Nat.le_refl _) (fun k h1 h2 q => by unfold RnS at q; omega), y2⟩), (by
    obtain ⟨og, ww, y1⟩ := xQ
    exact ⟨og, ww, Od_fr y1 h2 (Nat.le_refl _) (fun k h1 h2 q => by unfold RnS at q; omega)⟩), (by
    obtain ⟨fc, wf, y1⟩ := xB
    exact ⟨fc, wf, Ti_fr y1 h2 (Nat.le_refl _) (fun k h1 h2 q => by unfold RnS at q; omega)⟩)⟩
theorem SXc_D {M M1 : jdM} {n a cu dr : Nat} {g bs : Nat → Int} {p : TS} {F D Rr : FS} {mk : Nat → FS} {tg tk tr : Nat → Int}  (h : SXc M n a cu dr (g, bs, p, F, D, Rr, mk, tg, tk, tr)) (h1 : ∃ dg rm wn be, Dr M1 n (a + 25) dg rm wn be ∧ (∀ j, 0 ≤ wn j ∧ wn j ≤ 24) ∧ ∀ j, 0 ≤ be j ∧ be j ≤ 1000000) (h2 : fr (DrS (a + 25)) M M1) : SXc M1 n a cu dr (g, bs, p, F, D, Rr, mk, tg, tk, tr) := by
  obtain ⟨han, hcd, xO, xT, xF, xG, xR, xA, xK, xD, xQ, xB⟩ := h
  exact ⟨han, hcd, ((h2 _ (fun q => by unfold DrS at q; omega)).trans xO), Te_fr xT h2 (Nat.le_refl _) (fun k h1 h2 q => by unfold DrS at q; omega) (fun q => by unfold DrS at q; omega), Fl_fr xF h2 (Nat.le_refl _) (fun k h1 h2 q => by unfold DrS at q; omega), Fl_fr xG h2 (Nat.le_refl _) (fun k h1 h2 q => by unfold DrS at q; omega), Rn_fr xR h2 (Nat.le_refl _) (fun k h1 h2 q => by unfold DrS at q; omega), ((h2 _ (fun q => by unfold DrS at q; omega)).trans xA), (fun i hi => Rn_fr (xK i hi) h2 (Nat.le_refl _) (fun k h1 h2 q => by unfold DrS at q; omega)), h1, (by
    obtain ⟨og, ww, y1⟩ := xQ
    exact ⟨og, ww, Od_fr y1 h2 (Nat.le_refl _) (fun k h1 h2 q => by unfold DrS at q; omega)⟩), (by
    obtain ⟨fc, wf, y1⟩ := xB
    exact ⟨fc, wf, Ti_fr y1 h2 (Nat.le_refl _) (fun k h1 h2 q => by unfold DrS at q; omega)⟩)⟩
theorem SXc_Q {M M1 : jdM} {n a cu dr : Nat} {g bs : Nat → Int} {p : TS} {F D Rr : FS} {mk : Nat → FS} {tg tk tr : Nat → Int}  (h : SXc M n a cu dr (g, bs, p, F, D, Rr, mk, tg, tk, tr)) (h1 : ∃ og ww, Od M1 n (a + 29) og ww) (h2 : fr (OdS (a + 29)) M M1) : SXc M1 n a cu dr (g, bs, p, F, D, Rr, mk, tg, tk, tr) := by
  obtain ⟨han, hcd, xO, xT, xF, xG, xR, xA, xK, xD, xQ, xB⟩ := h
  exact ⟨han, hcd, ((h2 _ (fun q => by unfold OdS at q; omega)).trans xO), Te_fr xT h2 (Nat.le_refl _) (fun k h1 h2 q => by unfold OdS at q; omega) (fun q => by unfold OdS at q; omega), Fl_fr xF h2 (Nat.le_refl _) (fun k h1 h2 q => by unfold OdS at q; omega), Fl_fr xG h2 (Nat.le_refl _) (fun k h1 h2 q => by unfold OdS at q; omega), Rn_fr xR h2 (Nat.le_refl _) (fun k h1 h2 q => by unfold OdS at q; omega), ((h2 _ (fun q => by unfold OdS at q; omega)).trans xA), (fun i hi => Rn_fr (xK i hi) h2 (Nat.le_refl _) (fun k h1 h2 q => by unfold OdS at q; omega)), (by
    obtain ⟨dg, rm, wn, be, y1, y2⟩ := xD
    exact ⟨dg, rm, wn, be, Dr_fr y1 h2 (Nat.le_refl _) (fun k h1 h2 q => by unfold OdS at q; omega), y2⟩), h1, (by
    obtain ⟨fc, wf, y1⟩ := xB
    exact ⟨fc, wf, Ti_fr y1 h2 (Nat.le_refl _) (fun k h1 h2 q => by unfold OdS at q; omega)⟩)⟩
theorem SXc_B {M M1 : jdM} {n a cu dr : Nat} {g bs : Nat → Int} {p : TS} {F D Rr : FS} {mk : Nat → FS} {tg tk tr : Nat → Int} {tg1 tk1 tr1 : Nat → Int} (h : SXc M n a cu dr (g, bs, p, F, D, Rr, mk, tg, tk, tr)) (h1 : ∃ fc wf, Ti M1 n (a + 31) tg1 tk1 tr1 fc wf) (h2 : fr (TiS (a + 31)) M M1) : SXc M1 n a cu dr (g, bs, p, F, D, Rr, mk, tg1, tk1, tr1) := by
  obtain ⟨han, hcd, xO, xT, xF, xG, xR, xA, xK, xD, xQ, xB⟩ := h
  exact ⟨han, hcd, ((h2 _ (fun q => by unfold TiS at q; omega)).trans xO), Te_fr xT h2 (Nat.le_refl _) (fun k h1 h2 q => by unfold TiS at q; omega) (fun q => by unfold TiS at q; omega), Fl_fr xF h2 (Nat.le_refl _) (fun k h1 h2 q => by unfold TiS at q; omega), Fl_fr xG h2 (Nat.le_refl _) (fun k h1 h2 q => by unfold TiS at q; omega), Rn_fr xR h2 (Nat.le_refl _) (fun k h1 h2 q => by unfold TiS at q; omega), ((h2 _ (fun q => by unfold TiS at q; omega)).trans xA), (fun i hi => Rn_fr (xK i hi) h2 (Nat.le_refl _) (fun k h1 h2 q => by unfold TiS at q; omega)), (by
    obtain ⟨dg, rm, wn, be, y1, y2⟩ := xD
    exact ⟨dg, rm, wn, be, Dr_fr y1 h2 (Nat.le_refl _) (fun k h1 h2 q => by unfold TiS at q; omega), y2⟩), (by
    obtain ⟨og, ww, y1⟩ := xQ
    exact ⟨og, ww, Od_fr y1 h2 (Nat.le_refl _) (fun k h1 h2 q => by unfold TiS at q; omega)⟩), h1⟩
theorem SXc_T {M M1 : jdM} {n a cu dr : Nat} {g bs : Nat → Int} {p : TS} {F D Rr : FS} {mk : Nat → FS} {tg tk tr : Nat → Int} {bs1 : Nat → Int} {p1 : TS} (h : SXc M n a cu dr (g, bs, p, F, D, Rr, mk, tg, tk, tr)) (h1 : Te M1 n (a + 1) (a + 2) bs1 p1) (h2 : fr (TokS (a + 2)) M M1) : SXc M1 n a cu dr (g, bs1, p1, F, D, Rr, mk, tg, tk, tr) := by
  obtain ⟨han, hcd, xO, xT, xF, xG, xR, xA, xK, xD, xQ, xB⟩ := h
  exact ⟨han, hcd, ((h2 _ (fun q => by unfold TokS at q; omega)).trans xO), h1, Fl_fr xF h2 (Nat.le_refl _) (fun k h1 h2 q => by unfold TokS at q; omega), Fl_fr xG h2 (Nat.le_refl _) (fun k h1 h2 q => by unfold TokS at q; omega), Rn_fr xR h2 (Nat.le_refl _) (fun k h1 h2 q => by unfold TokS at q; omega), ((h2 _ (fun q => by unfold TokS at q; omega)).trans xA), (fun i hi => Rn_fr (xK i hi) h2 (Nat.le_refl _) (fun k h1 h2 q => by unfold TokS at q; omega)), (by
    obtain ⟨dg, rm, wn, be, y1, y2⟩ := xD
    exact ⟨dg, rm, wn, be, Dr_fr y1 h2 (Nat.le_refl _) (fun k h1 h2 q => by unfold TokS at q; omega), y2⟩), (by
    obtain ⟨og, ww, y1⟩ := xQ
    exact ⟨og, ww, Od_fr y1 h2 (Nat.le_refl _) (fun k h1 h2 q => by unfold TokS at q; omega)⟩), (by
    obtain ⟨fc, wf, y1⟩ := xB
    exact ⟨fc, wf, Ti_fr y1 h2 (Nat.le_refl _) (fun k h1 h2 q => by unfold TokS at q; omega)⟩)⟩
theorem SXc_TG {M M1 : jdM} {n a cu dr : Nat} {g bs : Nat → Int} {p : TS} {F D Rr : FS} {mk : Nat → FS} {tg tk tr : Nat → Int} {bs1 : Nat → Int} {p1 : TS} {D1 : FS} (h : SXc M n a cu dr (g, bs, p, F, D, Rr, mk, tg, tk, tr)) (h1 : Te M1 n (a + 1) (a + 2) bs1 p1) (h3 : FlT M1 n dr D1) (h2 : fr (TlS (a + 2) dr) M M1) : SXc M1 n a cu dr (g, bs1, p1, F, D1, Rr, mk, tg, tk, tr) := by
  obtain ⟨han, hcd, xO, xT, xF, xG, xR, xA, xK, xD, xQ, xB⟩ := h
  exact ⟨han, hcd, ((h2 _ (fun q => by unfold TlS TokS FlS at q; omega)).trans xO), h1, Fl_fr xF h2 (Nat.le_refl _) (fun k h1 h2 q => by unfold TlS TokS FlS at q; omega), h3, Rn_fr xR h2 (Nat.le_refl _) (fun k h1 h2 q => by unfold TlS TokS FlS at q; omega), ((h2 _ (fun q => by unfold TlS TokS FlS at q; omega)).trans xA), (fun i hi => Rn_fr (xK i hi) h2 (Nat.le_refl _) (fun k h1 h2 q => by unfold TlS TokS FlS at q; omega)), (by
    obtain ⟨dg, rm, wn, be, y1, y2⟩ := xD
    exact ⟨dg, rm, wn, be, Dr_fr y1 h2 (Nat.le_refl _) (fun k h1 h2 q => by unfold TlS TokS FlS at q; omega), y2⟩), (by
    obtain ⟨og, ww, y1⟩ := xQ
    exact ⟨og, ww, Od_fr y1 h2 (Nat.le_refl _) (fun k h1 h2 q => by unfold TlS TokS FlS at q; omega)⟩), (by
    obtain ⟨fc, wf, y1⟩ := xB
    exact ⟨fc, wf, Ti_fr y1 h2 (Nat.le_refl _) (fun k h1 h2 q => by unfold TlS TokS FlS at q; omega)⟩)⟩
theorem SXc_g1 {M M1 : jdM} {n a cu dr : Nat} {g bs : Nat → Int} {p : TS} {F D Rr : FS} {mk : Nat → FS} {tg tk tr : Nat → Int} {x : Int} (h : SXc M n a cu dr (g, bs, p, F, D, Rr, mk, tg, tk, tr)) (h1 : M1 = up M a (jdO 7 (up (fX7 a cu dr g) 1 (jI x)))) : SXc M1 n a cu dr (up g 1 x, bs, p, F, D, Rr, mk, tg, tk, tr) := by
  obtain ⟨han, hcd, xO, xT, xF, xG, xR, xA, xK, xD, xQ, xB⟩ := h
  rw [fX7_1] at h1
  have h2 : fr (fun k => k = a) M M1 := fr_up h1 rfl
  exact ⟨han, hcd, (h1 ▸ up_eq), Te_fr xT h2 (Nat.le_refl _) (fun k h1 h2 q => by have q : k = a := q; omega) (fun q => by have q : _ = a := q; omega), Fl_fr xF h2 (Nat.le_refl _) (fun k h1 h2 q => by have q : k = a := q; omega), Fl_fr xG h2 (Nat.le_refl _) (fun k h1 h2 q => by have q : k = a := q; omega), Rn_fr xR h2 (Nat.le_refl _) (fun k h1 h2 q => by have q : k = a := q; omega), ((h2 _ (fun q => by have q : _ = a := q; omega)).trans xA), (fun i hi => Rn_fr (xK i hi) h2 (Nat.le_refl _) (fun k h1 h2 q => by have q : k = a := q; omega)), (by
    obtain ⟨dg, rm, wn, be, y1, y2⟩ := xD
    exact ⟨dg, rm, wn, be, Dr_fr y1 h2 (Nat.le_refl _) (fun k h1 h2 q => by have q : k = a := q; omega), y2⟩), (by
    obtain ⟨og, ww, y1⟩ := xQ
    exact ⟨og, ww, Od_fr y1 h2 (Nat.le_refl _) (fun k h1 h2 q => by have q : k = a := q; omega)⟩), (by
    obtain ⟨fc, wf, y1⟩ := xB
    exact ⟨fc, wf, Ti_fr y1 h2 (Nat.le_refl _) (fun k h1 h2 q => by have q : k = a := q; omega)⟩)⟩
theorem SXc_g6 {M M1 : jdM} {n a cu dr : Nat} {g bs : Nat → Int} {p : TS} {F D Rr : FS} {mk : Nat → FS} {tg tk tr : Nat → Int} {x : Int} (h : SXc M n a cu dr (g, bs, p, F, D, Rr, mk, tg, tk, tr)) (h1 : M1 = up M a (jdO 7 (up (fX7 a cu dr g) 6 (jI x)))) : SXc M1 n a cu dr (up g 6 x, bs, p, F, D, Rr, mk, tg, tk, tr) := by
  obtain ⟨han, hcd, xO, xT, xF, xG, xR, xA, xK, xD, xQ, xB⟩ := h
  rw [fX7_6] at h1
  have h2 : fr (fun k => k = a) M M1 := fr_up h1 rfl
  exact ⟨han, hcd, (h1 ▸ up_eq), Te_fr xT h2 (Nat.le_refl _) (fun k h1 h2 q => by have q : k = a := q; omega) (fun q => by have q : _ = a := q; omega), Fl_fr xF h2 (Nat.le_refl _) (fun k h1 h2 q => by have q : k = a := q; omega), Fl_fr xG h2 (Nat.le_refl _) (fun k h1 h2 q => by have q : k = a := q; omega), Rn_fr xR h2 (Nat.le_refl _) (fun k h1 h2 q => by have q : k = a := q; omega), ((h2 _ (fun q => by have q : _ = a := q; omega)).trans xA), (fun i hi => Rn_fr (xK i hi) h2 (Nat.le_refl _) (fun k h1 h2 q => by have q : k = a := q; omega)), (by
    obtain ⟨dg, rm, wn, be, y1, y2⟩ := xD
    exact ⟨dg, rm, wn, be, Dr_fr y1 h2 (Nat.le_refl _) (fun k h1 h2 q => by have q : k = a := q; omega), y2⟩), (by
    obtain ⟨og, ww, y1⟩ := xQ
    exact ⟨og, ww, Od_fr y1 h2 (Nat.le_refl _) (fun k h1 h2 q => by have q : k = a := q; omega)⟩), (by
    obtain ⟨fc, wf, y1⟩ := xB
    exact ⟨fc, wf, Ti_fr y1 h2 (Nat.le_refl _) (fun k h1 h2 q => by have q : k = a := q; omega)⟩)⟩
theorem SXc_g10 {M M1 : jdM} {n a cu dr : Nat} {g bs : Nat → Int} {p : TS} {F D Rr : FS} {mk : Nat → FS} {tg tk tr : Nat → Int} {x : Int} (h : SXc M n a cu dr (g, bs, p, F, D, Rr, mk, tg, tk, tr)) (h1 : M1 = up M a (jdO 7 (up (fX7 a cu dr g) 10 (jI x)))) : SXc M1 n a cu dr (up g 10 x, bs, p, F, D, Rr, mk, tg, tk, tr) := by
  obtain ⟨han, hcd, xO, xT, xF, xG, xR, xA, xK, xD, xQ, xB⟩ := h
  rw [fX7_10] at h1
  have h2 : fr (fun k => k = a) M M1 := fr_up h1 rfl
  exact ⟨han, hcd, (h1 ▸ up_eq), Te_fr xT h2 (Nat.le_refl _) (fun k h1 h2 q => by have q : k = a := q; omega) (fun q => by have q : _ = a := q; omega), Fl_fr xF h2 (Nat.le_refl _) (fun k h1 h2 q => by have q : k = a := q; omega), Fl_fr xG h2 (Nat.le_refl _) (fun k h1 h2 q => by have q : k = a := q; omega), Rn_fr xR h2 (Nat.le_refl _) (fun k h1 h2 q => by have q : k = a := q; omega), ((h2 _ (fun q => by have q : _ = a := q; omega)).trans xA), (fun i hi => Rn_fr (xK i hi) h2 (Nat.le_refl _) (fun k h1 h2 q => by have q : k = a := q; omega)), (by
    obtain ⟨dg, rm, wn, be, y1, y2⟩ := xD
    exact ⟨dg, rm, wn, be, Dr_fr y1 h2 (Nat.le_refl _) (fun k h1 h2 q => by have q : k = a := q; omega), y2⟩), (by
    obtain ⟨og, ww, y1⟩ := xQ
    exact ⟨og, ww, Od_fr y1 h2 (Nat.le_refl _) (fun k h1 h2 q => by have q : k = a := q; omega)⟩), (by
    obtain ⟨fc, wf, y1⟩ := xB
    exact ⟨fc, wf, Ti_fr y1 h2 (Nat.le_refl _) (fun k h1 h2 q => by have q : k = a := q; omega)⟩)⟩
theorem SXc_g11 {M M1 : jdM} {n a cu dr : Nat} {g bs : Nat → Int} {p : TS} {F D Rr : FS} {mk : Nat → FS} {tg tk tr : Nat → Int} {x : Int} (h : SXc M n a cu dr (g, bs, p, F, D, Rr, mk, tg, tk, tr)) (h1 : M1 = up M a (jdO 7 (up (fX7 a cu dr g) 11 (jI x)))) : SXc M1 n a cu dr (up g 11 x, bs, p, F, D, Rr, mk, tg, tk, tr) := by
  obtain ⟨han, hcd, xO, xT, xF, xG, xR, xA, xK, xD, xQ, xB⟩ := h
  rw [fX7_11] at h1
  have h2 : fr (fun k => k = a) M M1 := fr_up h1 rfl
  exact ⟨han, hcd, (h1 ▸ up_eq), Te_fr xT h2 (Nat.le_refl _) (fun k h1 h2 q => by have q : k = a := q; omega) (fun q => by have q : _ = a := q; omega), Fl_fr xF h2 (Nat.le_refl _) (fun k h1 h2 q => by have q : k = a := q; omega), Fl_fr xG h2 (Nat.le_refl _) (fun k h1 h2 q => by have q : k = a := q; omega), Rn_fr xR h2 (Nat.le_refl _) (fun k h1 h2 q => by have q : k = a := q; omega), ((h2 _ (fun q => by have q : _ = a := q; omega)).trans xA), (fun i hi => Rn_fr (xK i hi) h2 (Nat.le_refl _) (fun k h1 h2 q => by have q : k = a := q; omega)), (by
    obtain ⟨dg, rm, wn, be, y1, y2⟩ := xD
    exact ⟨dg, rm, wn, be, Dr_fr y1 h2 (Nat.le_refl _) (fun k h1 h2 q => by have q : k = a := q; omega), y2⟩), (by
    obtain ⟨og, ww, y1⟩ := xQ
    exact ⟨og, ww, Od_fr y1 h2 (Nat.le_refl _) (fun k h1 h2 q => by have q : k = a := q; omega)⟩), (by
    obtain ⟨fc, wf, y1⟩ := xB
    exact ⟨fc, wf, Ti_fr y1 h2 (Nat.le_refl _) (fun k h1 h2 q => by have q : k = a := q; omega)⟩)⟩
theorem SXc_g12 {M M1 : jdM} {n a cu dr : Nat} {g bs : Nat → Int} {p : TS} {F D Rr : FS} {mk : Nat → FS} {tg tk tr : Nat → Int} {x : Int} (h : SXc M n a cu dr (g, bs, p, F, D, Rr, mk, tg, tk, tr)) (h1 : M1 = up M a (jdO 7 (up (fX7 a cu dr g) 12 (jI x)))) : SXc M1 n a cu dr (up g 12 x, bs, p, F, D, Rr, mk, tg, tk, tr) := by
  obtain ⟨han, hcd, xO, xT, xF, xG, xR, xA, xK, xD, xQ, xB⟩ := h
  rw [fX7_12] at h1
  have h2 : fr (fun k => k = a) M M1 := fr_up h1 rfl
  exact ⟨han, hcd, (h1 ▸ up_eq), Te_fr xT h2 (Nat.le_refl _) (fun k h1 h2 q => by have q : k = a := q; omega) (fun q => by have q : _ = a := q; omega), Fl_fr xF h2 (Nat.le_refl _) (fun k h1 h2 q => by have q : k = a := q; omega), Fl_fr xG h2 (Nat.le_refl _) (fun k h1 h2 q => by have q : k = a := q; omega), Rn_fr xR h2 (Nat.le_refl _) (fun k h1 h2 q => by have q : k = a := q; omega), ((h2 _ (fun q => by have q : _ = a := q; omega)).trans xA), (fun i hi => Rn_fr (xK i hi) h2 (Nat.le_refl _) (fun k h1 h2 q => by have q : k = a := q; omega)), (by
    obtain ⟨dg, rm, wn, be, y1, y2⟩ := xD
    exact ⟨dg, rm, wn, be, Dr_fr y1 h2 (Nat.le_refl _) (fun k h1 h2 q => by have q : k = a := q; omega), y2⟩), (by
    obtain ⟨og, ww, y1⟩ := xQ
    exact ⟨og, ww, Od_fr y1 h2 (Nat.le_refl _) (fun k h1 h2 q => by have q : k = a := q; omega)⟩), (by
    obtain ⟨fc, wf, y1⟩ := xB
    exact ⟨fc, wf, Ti_fr y1 h2 (Nat.le_refl _) (fun k h1 h2 q => by have q : k = a := q; omega)⟩)⟩
set_option maxHeartbeats 1000000 in
set_option maxRecDepth 20000 in
theorem s_X7_accept {l : Launch} {n : Nat} {M : jdM} {a cu dr : Nat} {g bs : Nat → Int} {p : TS} {ct td bk si ld : Nat → Int} {D : FS} {g3 sp sk fa go : Nat → Int} {mk : Nat → FS} {tg tk tr : Nat → Int} (hS : SXc M n a cu dr (g, bs, p, (ct, td, bk, si, ld), D, (g3, sp, sk, fa, go), mk, tg, tk, tr)) {x : Int} : Ct l yX7_accept cX7_accept 2 (some .int) rX7_accept [.ref a, jI x] n M (fun vv n' M' => (vv = some (jI (x)) ∧ n = n') ∧ SXc M' n a cu dr (up g 10 0, bs, p, (ct, td, bk, si, ld), D, (g3, sp, sk, fa, go), mk, tg, tk, tr) ∧ fr (XSf a) M M') := by
  refine Ct_of [some (.ref a), some (jI x)] (by decide) (Nat.le_of_ble_eq_true rfl) rfl (fun κ hl h hR hRt hmn hn0 => ?_)
  have h : Ok κ RX7 cX7_accept 2 (some .int) := h
  obtain ⟨han, hcd, hO7, -⟩ := id hS
  have hO7 : M a = jdO 7 (fX7 a cu dr g) := hO7
  refine jr_aload_n (pc := 0) h dX7_accept_0 rfl ?_
  refine jr_iconst (pc := 1) h dX7_accept_1 ?_
  refine pf_X7_96 (pc := 2) h dX7_accept_2 (by assumption) (by omega) ?_
  refine jm_gen (fun M2 hM2 => ?_)
  have hS := SXc_g10 hS hM2
  have f9 : fr (XSf a) _ M2 := fr_up hM2 ⟨by omega, by omega⟩
  refine jr_iload_n (pc := 5) h dX7_accept_5 rfl ?_
  refine jr_iret (pc := 6) h hRt dX7_accept_6 rfl (Nat.le_of_ble_eq_true rfl) (Nat.le_of_ble_eq_true rfl) ?_
  exact ⟨⟨rfl, rfl⟩, hS, f9⟩
set_option maxHeartbeats 1000000 in
set_option maxRecDepth 20000 in
theorem s_X7_refuse {l : Launch} {n : Nat} {M : jdM} {a cu dr : Nat} {g bs : Nat → Int} {p : TS} {ct td bk si ld : Nat → Int} {D : FS} {g3 sp sk fa go : Nat → Int} {mk : Nat → FS} {tg tk tr : Nat → Int} (hS : SXc M n a cu dr (g, bs, p, (ct, td, bk, si, ld), D, (g3, sp, sk, fa, go), mk, tg, tk, tr)) {x : Int} : Ct l yX7_refuse cX7_refuse 2 (some .int) rX7_refuse [.ref a, jI x] n M (fun vv n' M' => (vv = some (jI (-1)) ∧ n = n') ∧ SXc M' n a cu dr (up g 10 x, bs, p, (ct, td, bk, si, ld), D, (g3, sp, sk, fa, go), mk, tg, tk, tr) ∧ fr (XSf a) M M') := by
  refine Ct_of [some (.ref a), some (jI x)] (by decide) (Nat.le_of_ble_eq_true rfl) rfl (fun κ hl h hR hRt hmn hn0 => ?_)
  have h : Ok κ RX7 cX7_refuse 2 (some .int) := h
  obtain ⟨han, hcd, hO7, -⟩ := id hS
  have hO7 : M a = jdO 7 (fX7 a cu dr g) := hO7
  refine jr_aload_n (pc := 0) h dX7_refuse_0 rfl ?_
  refine jr_iload_n (pc := 1) h dX7_refuse_1 rfl ?_
  refine pf_X7_96 (pc := 2) h dX7_refuse_2 (by assumption) (by omega) ?_
  refine jm_gen (fun M2 hM2 => ?_)
  have hS := SXc_g10 hS hM2
  have f9 : fr (XSf a) _ M2 := fr_up hM2 ⟨by omega, by omega⟩
  refine jr_iconst (pc := 5) h dX7_refuse_5 ?_
  refine jr_iret (pc := 6) h hRt dX7_refuse_6 rfl (Nat.le_of_ble_eq_true rfl) (Nat.le_of_ble_eq_true rfl) ?_
  exact ⟨⟨rfl, rfl⟩, hS, f9⟩
set_option maxHeartbeats 1000000 in
set_option maxRecDepth 20000 in
theorem s_X7_refuseFarBelow {l : Launch} {n : Nat} {M : jdM} {a cu dr : Nat} {g bs : Nat → Int} {p : TS} {ct td bk si ld : Nat → Int} {D : FS} {g3 sp sk fa go : Nat → Int} {mk : Nat → FS} {tg tk tr : Nat → Int} (hS : SXc M n a cu dr (g, bs, p, (ct, td, bk, si, ld), D, (g3, sp, sk, fa, go), mk, tg, tk, tr)) {x : Int} : Ct l yX7_refuseFarBelow cX7_refuseFarBelow 2 (some .int) rX7_refuseFarBelow [.ref a, jI x] n M (fun vv n' M' => (vv = some (jI (-1000)) ∧ n = n') ∧ SXc M' n a cu dr (up g 10 x, bs, p, (ct, td, bk, si, ld), D, (g3, sp, sk, fa, go), mk, tg, tk, tr) ∧ fr (XSf a) M M') := by
  refine Ct_of [some (.ref a), some (jI x)] (by decide) (Nat.le_of_ble_eq_true rfl) rfl (fun κ hl h hR hRt hmn hn0 => ?_)
  have h : Ok κ RX7 cX7_refuseFarBelow 2 (some .int) := h
  obtain ⟨han, hcd, hO7, -⟩ := id hS
  have hO7 : M a = jdO 7 (fX7 a cu dr g) := hO7
  refine jr_aload_n (pc := 0) h dX7_refuseFarBelow_0 rfl ?_
  refine jr_iload_n (pc := 1) h dX7_refuseFarBelow_1 rfl ?_
  refine pf_X7_96 (pc := 2) h dX7_refuseFarBelow_2 (by assumption) (by omega) ?_
  refine jm_gen (fun M2 hM2 => ?_)
  have hS := SXc_g10 hS hM2
  have f9 : fr (XSf a) _ M2 := fr_up hM2 ⟨by omega, by omega⟩
  refine jr_sipush (pc := 5) h dX7_refuseFarBelow_5 sp_m1000 ?_
  refine jr_iret (pc := 8) h hRt dX7_refuseFarBelow_8 rfl (Nat.le_of_ble_eq_true rfl) (Nat.le_of_ble_eq_true rfl) ?_
  exact ⟨⟨rfl, rfl⟩, hS, f9⟩
set_option maxHeartbeats 1000000 in
set_option maxRecDepth 20000 in
theorem s_X7_deny {l : Launch} {n : Nat} {M : jdM} {a cu dr : Nat} {g bs : Nat → Int} {p : TS} {ct td bk si ld : Nat → Int} {D : FS} {g3 sp sk fa go : Nat → Int} {mk : Nat → FS} {tg tk tr : Nat → Int} (hS : SXc M n a cu dr (g, bs, p, (ct, td, bk, si, ld), D, (g3, sp, sk, fa, go), mk, tg, tk, tr)) {x : Int} : Ct l yX7_deny cX7_deny 2 (some .boolean) rX7_deny [.ref a, jI x] n M (fun vv n' M' => (vv = some (jI (0)) ∧ n = n') ∧ SXc M' n a cu dr (up g 10 x, bs, p, (ct, td, bk, si, ld), D, (g3, sp, sk, fa, go), mk, tg, tk, tr) ∧ fr (XSf a) M M') := by
  refine Ct_of [some (.ref a), some (jI x)] (by decide) (Nat.le_of_ble_eq_true rfl) rfl (fun κ hl h hR hRt hmn hn0 => ?_)
  have h : Ok κ RX7 cX7_deny 2 (some .boolean) := h
  obtain ⟨han, hcd, hO7, -⟩ := id hS
  have hO7 : M a = jdO 7 (fX7 a cu dr g) := hO7
  refine jr_aload_n (pc := 0) h dX7_deny_0 rfl ?_
  refine jr_iload_n (pc := 1) h dX7_deny_1 rfl ?_
  refine pf_X7_96 (pc := 2) h dX7_deny_2 (by assumption) (by omega) ?_
  refine jm_gen (fun M2 hM2 => ?_)
  have hS := SXc_g10 hS hM2
  have f9 : fr (XSf a) _ M2 := fr_up hM2 ⟨by omega, by omega⟩
  refine jr_iconst (pc := 5) h dX7_deny_5 ?_
  refine jr_iret (pc := 6) h hRt dX7_deny_6 rfl (Nat.le_of_ble_eq_true rfl) (Nat.le_of_ble_eq_true rfl) ?_
  exact ⟨⟨rfl, rfl⟩, hS, f9⟩
set_option maxHeartbeats 1000000 in
set_option maxRecDepth 20000 in
theorem s_X7_grant {l : Launch} {n : Nat} {M : jdM} {a cu dr : Nat} {g bs : Nat → Int} {p : TS} {ct td bk si ld : Nat → Int} {D : FS} {g3 sp sk fa go : Nat → Int} {mk : Nat → FS} {tg tk tr : Nat → Int} (hS : SXc M n a cu dr (g, bs, p, (ct, td, bk, si, ld), D, (g3, sp, sk, fa, go), mk, tg, tk, tr)) : Ct l yX7_grant cX7_grant 1 (some .boolean) rX7_grant [.ref a] n M (fun vv n' M' => (vv = some (jI (1)) ∧ n = n') ∧ SXc M' n a cu dr (up g 10 0, bs, p, (ct, td, bk, si, ld), D, (g3, sp, sk, fa, go), mk, tg, tk, tr) ∧ fr (XSf a) M M') := by
  refine Ct_of [some (.ref a)] (by decide) (Nat.le_of_ble_eq_true rfl) rfl (fun κ hl h hR hRt hmn hn0 => ?_)
  have h : Ok κ RX7 cX7_grant 1 (some .boolean) := h
  obtain ⟨han, hcd, hO7, -⟩ := id hS
  have hO7 : M a = jdO 7 (fX7 a cu dr g) := hO7
  refine jr_aload_n (pc := 0) h dX7_grant_0 rfl ?_
  refine jr_iconst (pc := 1) h dX7_grant_1 ?_
  refine pf_X7_96 (pc := 2) h dX7_grant_2 (by assumption) (by omega) ?_
  refine jm_gen (fun M2 hM2 => ?_)
  have hS := SXc_g10 hS hM2
  have f9 : fr (XSf a) _ M2 := fr_up hM2 ⟨by omega, by omega⟩
  refine jr_iconst (pc := 5) h dX7_grant_5 ?_
  refine jr_iret (pc := 6) h hRt dX7_grant_6 rfl (Nat.le_of_ble_eq_true rfl) (Nat.le_of_ble_eq_true rfl) ?_
  exact ⟨⟨rfl, rfl⟩, hS, f9⟩
set_option maxHeartbeats 1000000 in
set_option maxRecDepth 20000 in
theorem s_X7_hasFlight {l : Launch} {n : Nat} {M : jdM} {a cu dr : Nat} {g bs : Nat → Int} {p : TS} {ct td bk si ld : Nat → Int} {D : FS} {g3 sp sk fa go : Nat → Int} {mk : Nat → FS} {tg tk tr : Nat → Int} (hS : SXc M n a cu dr (g, bs, p, (ct, td, bk, si, ld), D, (g3, sp, sk, fa, go), mk, tg, tk, tr)) : Ct l yX7_hasFlight cX7_hasFlight 1 (some .boolean) rX7_hasFlight [.ref a] n M (fun vv n' M' => (vv = some (jI (bz (0 < c_rows ct td))) ∧ n = n' ∧ M = M') ∧ (0) ≤ (bz (0 < c_rows ct td)) ∧ (bz (0 < c_rows ct td)) ≤ 1) := by
  refine Ct_of [some (.ref a)] (by decide) (Nat.le_of_ble_eq_true rfl) rfl (fun κ hl h hR hRt hmn hn0 => ?_)
  have h : Ok κ RX7 cX7_hasFlight 1 (some .boolean) := h
  obtain ⟨han, hcd, hO7, hT7, hF7, hG7, hR7, hA7, hK7, hD7, hQ7, hB7⟩ := id hS
  have hO7 : M a = jdO 7 (fX7 a cu dr _) := hO7
  try dsimp only at hO7
  try dsimp only at hT7
  try dsimp only at hK7
  try dsimp only at hB7
  have hF : Fl M n cu ct td bk si ld := hF7
  have hRn : Rn M n (a + 19) g3 sp sk fa go := hR7
  obtain ⟨hnF, hOF, hAF, hBF, hCF, hDF, hEF, rA, rB, r0, rC, rD, rE⟩ := id hF
  obtain ⟨hnR, hOR, -⟩ := id hRn
  obtain ⟨dg, rm, wn, be, hDr, hwn, hbe⟩ := id hD7
  obtain ⟨hnD, hOD, -⟩ := id hDr
  obtain ⟨og, ww, hOd⟩ := id hQ7
  obtain ⟨hnQ, hOQ, -⟩ := id hOd
  obtain ⟨fc, wf, hTi⟩ := id hB7
  obtain ⟨hnB, hOB, -⟩ := id hTi
  obtain ⟨ht7, hOT, hTk, hPO, -⟩ := id hT7
  have ctr : 0 ≤ c_rows ct td ∧ c_rows ct td ≤ 40 := by
    unfold c_rows c_get
    have := (rB 0).1
    split
    · omega
    · rw [if_pos (by omega)]
      exact ⟨this, r0⟩
  refine jr_aload_n (pc := 0) h dX7_hasFlight_0 rfl ?_
  refine gf_X7_19 (pc := 1) h dX7_hasFlight_1 (by assumption) (by omega) ?_
  refine iv_X7_110 (pc := 4) h hl hR dX7_hasFlight_4 ⟨(Nat.le_of_ble_eq_true rfl), (Nat.le_of_ble_eq_true rfl), (Nat.le_of_ble_eq_true rfl), (Nat.le_of_ble_eq_true rfl)⟩ (Nat.le_of_ble_eq_true rfl) (by assumption) (by omega) (s_X1_rows hF) (fun v_4 n_4 M_4 hn_4 hp => ?_)
  obtain ⟨⟨rfl, rfl, rfl⟩, gr_4⟩ := hp
  refine jr_if_le (pc := 7) h 14 dX7_hasFlight_7 (by decide) (by omega) (fun c_7 => ?_) (fun c_7 => ?_)
  · skip
    refine jr_iconst (pc := 14) h dX7_hasFlight_14 ?_
    refine jr_iret (pc := 15) h hRt dX7_hasFlight_15 rfl (Nat.le_of_ble_eq_true rfl) (Nat.le_of_ble_eq_true rfl) ?_
    refine ⟨⟨ji_c ?_, rfl, rfl⟩, bz_r _⟩
    first | rw [bz_t (by omega)] | rw [bz_f (by omega)]
  · skip
    refine jr_iconst (pc := 10) h dX7_hasFlight_10 ?_
    refine jr_goto (pc := 11) h 15 dX7_hasFlight_11 (by decide) ?_
    refine jr_iret (pc := 15) h hRt dX7_hasFlight_15 rfl (Nat.le_of_ble_eq_true rfl) (Nat.le_of_ble_eq_true rfl) ?_
    refine ⟨⟨ji_c ?_, rfl, rfl⟩, bz_r _⟩
    first | rw [bz_t (by omega)] | rw [bz_f (by omega)]
set_option maxHeartbeats 1000000 in
set_option maxRecDepth 20000 in
theorem s_X7_isRow {l : Launch} {n : Nat} {M : jdM} {a cu dr : Nat} {g bs : Nat → Int} {p : TS} {ct td bk si ld : Nat → Int} {D : FS} {g3 sp sk fa go : Nat → Int} {mk : Nat → FS} {tg tk tr : Nat → Int} (hS : SXc M n a cu dr (g, bs, p, (ct, td, bk, si, ld), D, (g3, sp, sk, fa, go), mk, tg, tk, tr)) {x : Int} (hx : -2147483648 ≤ x ∧ x < 2147483648) : Ct l yX7_isRow cX7_isRow 2 (some .boolean) rX7_isRow [.ref a, jI x] n M (fun vv n' M' => (vv = some (jI (bz (1 ≤ x ∧ x ≤ c_rows ct td))) ∧ n = n' ∧ M = M') ∧ (0) ≤ (bz (1 ≤ x ∧ x ≤ c_rows ct td)) ∧ (bz (1 ≤ x ∧ x ≤ c_rows ct td)) ≤ 1) := by
  refine Ct_of [some (.ref a), some (jI x)] (by decide) (Nat.le_of_ble_eq_true rfl) rfl (fun κ hl h hR hRt hmn hn0 => ?_)
  have h : Ok κ RX7 cX7_isRow 2 (some .boolean) := h
  obtain ⟨han, hcd, hO7, hT7, hF7, hG7, hR7, hA7, hK7, hD7, hQ7, hB7⟩ := id hS
  have hO7 : M a = jdO 7 (fX7 a cu dr _) := hO7
  try dsimp only at hO7
  try dsimp only at hT7
  try dsimp only at hK7
  try dsimp only at hB7
  have hF : Fl M n cu ct td bk si ld := hF7
  have hRn : Rn M n (a + 19) g3 sp sk fa go := hR7
  obtain ⟨hnF, hOF, hAF, hBF, hCF, hDF, hEF, rA, rB, r0, rC, rD, rE⟩ := id hF
  obtain ⟨hnR, hOR, -⟩ := id hRn
  obtain ⟨dg, rm, wn, be, hDr, hwn, hbe⟩ := id hD7
  obtain ⟨hnD, hOD, -⟩ := id hDr
  obtain ⟨og, ww, hOd⟩ := id hQ7
  obtain ⟨hnQ, hOQ, -⟩ := id hOd
  obtain ⟨fc, wf, hTi⟩ := id hB7
  obtain ⟨hnB, hOB, -⟩ := id hTi
  obtain ⟨ht7, hOT, hTk, hPO, -⟩ := id hT7
  have ctr : 0 ≤ c_rows ct td ∧ c_rows ct td ≤ 40 := by
    unfold c_rows c_get
    have := (rB 0).1
    split
    · omega
    · rw [if_pos (by omega)]
      exact ⟨this, r0⟩
  refine jr_iload_n (pc := 0) h dX7_isRow_0 rfl ?_
  refine jr_iconst (pc := 1) h dX7_isRow_1 ?_
  refine jr_icmp_lt (pc := 2) h 20 dX7_isRow_2 (by decide) (by omega) (by omega) (fun c_2 => ?_) (fun c_2 => ?_)
  · skip
    refine jr_iconst (pc := 20) h dX7_isRow_20 ?_
    refine jr_iret (pc := 21) h hRt dX7_isRow_21 rfl (Nat.le_of_ble_eq_true rfl) (Nat.le_of_ble_eq_true rfl) ?_
    refine ⟨⟨ji_c ?_, rfl, rfl⟩, bz_r _⟩
    first | rw [bz_t (by omega)] | rw [bz_f (by omega)]
  · skip
    refine jr_iload_n (pc := 5) h dX7_isRow_5 rfl ?_
    refine jr_aload_n (pc := 6) h dX7_isRow_6 rfl ?_
    refine gf_X7_19 (pc := 7) h dX7_isRow_7 (by assumption) (by omega) ?_
    refine iv_X7_110 (pc := 10) h hl hR dX7_isRow_10 ⟨(Nat.le_of_ble_eq_true rfl), (Nat.le_of_ble_eq_true rfl), (Nat.le_of_ble_eq_true rfl), (Nat.le_of_ble_eq_true rfl)⟩ (Nat.le_of_ble_eq_true rfl) (by assumption) (by omega) (s_X1_rows hF) (fun v_10 n_10 M_10 hn_10 hp => ?_)
    obtain ⟨⟨rfl, rfl, rfl⟩, gr_10⟩ := hp
    refine jr_icmp_gt (pc := 13) h 20 dX7_isRow_13 (by decide) (by omega) (by omega) (fun c_13 => ?_) (fun c_13 => ?_)
    · skip
      refine jr_iconst (pc := 20) h dX7_isRow_20 ?_
      refine jr_iret (pc := 21) h hRt dX7_isRow_21 rfl (Nat.le_of_ble_eq_true rfl) (Nat.le_of_ble_eq_true rfl) ?_
      refine ⟨⟨ji_c ?_, rfl, rfl⟩, bz_r _⟩
      first | rw [bz_t (by omega)] | rw [bz_f (by omega)]
    · skip
      refine jr_iconst (pc := 16) h dX7_isRow_16 ?_
      refine jr_goto (pc := 17) h 21 dX7_isRow_17 (by decide) ?_
      refine jr_iret (pc := 21) h hRt dX7_isRow_21 rfl (Nat.le_of_ble_eq_true rfl) (Nat.le_of_ble_eq_true rfl) ?_
      refine ⟨⟨ji_c ?_, rfl, rfl⟩, bz_r _⟩
      first | rw [bz_t (by omega)] | rw [bz_f (by omega)]
set_option maxHeartbeats 1000000 in
set_option maxRecDepth 20000 in
theorem s_X7_isKind {l : Launch} {n : Nat} {M : jdM} {a cu dr : Nat} {g bs : Nat → Int} {p : TS} {ct td bk si ld : Nat → Int} {D : FS} {g3 sp sk fa go : Nat → Int} {mk : Nat → FS} {tg tk tr : Nat → Int} (hS : SXc M n a cu dr (g, bs, p, (ct, td, bk, si, ld), D, (g3, sp, sk, fa, go), mk, tg, tk, tr)) {x : Int} (hx : -2147483648 ≤ x ∧ x < 2147483648) : Ct l yX7_isKind cX7_isKind 2 (some .boolean) rX7_isKind [.ref a, jI x] n M (fun vv n' M' => (vv = some (jI (bz (0 ≤ x ∧ x < ct 2))) ∧ n = n' ∧ M = M') ∧ (0) ≤ (bz (0 ≤ x ∧ x < ct 2)) ∧ (bz (0 ≤ x ∧ x < ct 2)) ≤ 1) := by
  refine Ct_of [some (.ref a), some (jI x)] (by decide) (Nat.le_of_ble_eq_true rfl) rfl (fun κ hl h hR hRt hmn hn0 => ?_)
  have h : Ok κ RX7 cX7_isKind 2 (some .boolean) := h
  obtain ⟨han, hcd, hO7, hT7, hF7, hG7, hR7, hA7, hK7, hD7, hQ7, hB7⟩ := id hS
  have hO7 : M a = jdO 7 (fX7 a cu dr _) := hO7
  try dsimp only at hO7
  try dsimp only at hT7
  try dsimp only at hK7
  try dsimp only at hB7
  have hF : Fl M n cu ct td bk si ld := hF7
  have hRn : Rn M n (a + 19) g3 sp sk fa go := hR7
  obtain ⟨hnF, hOF, hAF, hBF, hCF, hDF, hEF, rA, rB, r0, rC, rD, rE⟩ := id hF
  obtain ⟨hnR, hOR, -⟩ := id hRn
  obtain ⟨dg, rm, wn, be, hDr, hwn, hbe⟩ := id hD7
  obtain ⟨hnD, hOD, -⟩ := id hDr
  obtain ⟨og, ww, hOd⟩ := id hQ7
  obtain ⟨hnQ, hOQ, -⟩ := id hOd
  obtain ⟨fc, wf, hTi⟩ := id hB7
  obtain ⟨hnB, hOB, -⟩ := id hTi
  obtain ⟨ht7, hOT, hTk, hPO, -⟩ := id hT7
  have c2 := rA 2
  refine jr_iload_n (pc := 0) h dX7_isKind_0 rfl ?_
  refine jr_if_lt (pc := 1) h 20 dX7_isKind_1 (by decide) (by omega) (fun c_1 => ?_) (fun c_1 => ?_)
  · skip
    refine jr_iconst (pc := 20) h dX7_isKind_20 ?_
    refine jr_iret (pc := 21) h hRt dX7_isKind_21 rfl (Nat.le_of_ble_eq_true rfl) (Nat.le_of_ble_eq_true rfl) ?_
    refine ⟨⟨ji_c ?_, rfl, rfl⟩, bz_r _⟩
    first | rw [bz_t (by omega)] | rw [bz_f (by omega)]
  · skip
    refine jr_iload_n (pc := 4) h dX7_isKind_4 rfl ?_
    refine jr_aload_n (pc := 5) h dX7_isKind_5 rfl ?_
    refine gf_X7_19 (pc := 6) h dX7_isKind_6 (by assumption) (by omega) ?_
    refine jr_iconst (pc := 9) h dX7_isKind_9 ?_
    refine iv_X7_90 (pc := 10) h hl hR dX7_isKind_10 ⟨(Nat.le_of_ble_eq_true rfl), (Nat.le_of_ble_eq_true rfl), (Nat.le_of_ble_eq_true rfl), (Nat.le_of_ble_eq_true rfl)⟩ (Nat.le_of_ble_eq_true rfl) (by assumption) (by omega) (s_X1_count hF (a := 2) (by omega)) (fun v_10 n_10 M_10 hn_10 hp => ?_)
    obtain ⟨⟨rfl, rfl, rfl⟩, gr_10⟩ := hp
    rw [show c_count ct 2 = ct 2 from if_pos (by omega)]
    refine jr_icmp_ge (pc := 13) h 20 dX7_isKind_13 (by decide) (by omega) (by omega) (fun c_13 => ?_) (fun c_13 => ?_)
    · skip
      refine jr_iconst (pc := 20) h dX7_isKind_20 ?_
      refine jr_iret (pc := 21) h hRt dX7_isKind_21 rfl (Nat.le_of_ble_eq_true rfl) (Nat.le_of_ble_eq_true rfl) ?_
      refine ⟨⟨ji_c ?_, rfl, rfl⟩, bz_r _⟩
      first | rw [bz_t (by omega)] | rw [bz_f (by omega)]
    · skip
      refine jr_iconst (pc := 16) h dX7_isKind_16 ?_
      refine jr_goto (pc := 17) h 21 dX7_isKind_17 (by decide) ?_
      refine jr_iret (pc := 21) h hRt dX7_isKind_21 rfl (Nat.le_of_ble_eq_true rfl) (Nat.le_of_ble_eq_true rfl) ?_
      refine ⟨⟨ji_c ?_, rfl, rfl⟩, bz_r _⟩
      first | rw [bz_t (by omega)] | rw [bz_f (by omega)]
set_option maxHeartbeats 1000000 in
set_option maxRecDepth 20000 in
theorem s_X7_isTrolley {l : Launch} {n : Nat} {M : jdM} {a cu dr : Nat} {g bs : Nat → Int} {p : TS} {ct td bk si ld : Nat → Int} {D : FS} {g3 sp sk fa go : Nat → Int} {mk : Nat → FS} {tg tk tr : Nat → Int} (hS : SXc M n a cu dr (g, bs, p, (ct, td, bk, si, ld), D, (g3, sp, sk, fa, go), mk, tg, tk, tr)) {x : Int} (hx : -2147483648 ≤ x ∧ x < 2147483648) : Ct l yX7_isTrolley cX7_isTrolley 2 (some .boolean) rX7_isTrolley [.ref a, jI x] n M (fun vv n' M' => (vv = some (jI (bz (0 ≤ x ∧ x < ct 5))) ∧ n = n' ∧ M = M') ∧ (0) ≤ (bz (0 ≤ x ∧ x < ct 5)) ∧ (bz (0 ≤ x ∧ x < ct 5)) ≤ 1) := by
  refine Ct_of [some (.ref a), some (jI x)] (by decide) (Nat.le_of_ble_eq_true rfl) rfl (fun κ hl h hR hRt hmn hn0 => ?_)
  have h : Ok κ RX7 cX7_isTrolley 2 (some .boolean) := h
  obtain ⟨han, hcd, hO7, hT7, hF7, hG7, hR7, hA7, hK7, hD7, hQ7, hB7⟩ := id hS
  have hO7 : M a = jdO 7 (fX7 a cu dr _) := hO7
  try dsimp only at hO7
  try dsimp only at hT7
  try dsimp only at hK7
  try dsimp only at hB7
  have hF : Fl M n cu ct td bk si ld := hF7
  have hRn : Rn M n (a + 19) g3 sp sk fa go := hR7
  obtain ⟨hnF, hOF, hAF, hBF, hCF, hDF, hEF, rA, rB, r0, rC, rD, rE⟩ := id hF
  obtain ⟨hnR, hOR, -⟩ := id hRn
  obtain ⟨dg, rm, wn, be, hDr, hwn, hbe⟩ := id hD7
  obtain ⟨hnD, hOD, -⟩ := id hDr
  obtain ⟨og, ww, hOd⟩ := id hQ7
  obtain ⟨hnQ, hOQ, -⟩ := id hOd
  obtain ⟨fc, wf, hTi⟩ := id hB7
  obtain ⟨hnB, hOB, -⟩ := id hTi
  obtain ⟨ht7, hOT, hTk, hPO, -⟩ := id hT7
  have c5 := rA 5
  refine jr_iload_n (pc := 0) h dX7_isTrolley_0 rfl ?_
  refine jr_if_lt (pc := 1) h 20 dX7_isTrolley_1 (by decide) (by omega) (fun c_1 => ?_) (fun c_1 => ?_)
  · skip
    refine jr_iconst (pc := 20) h dX7_isTrolley_20 ?_
    refine jr_iret (pc := 21) h hRt dX7_isTrolley_21 rfl (Nat.le_of_ble_eq_true rfl) (Nat.le_of_ble_eq_true rfl) ?_
    refine ⟨⟨ji_c ?_, rfl, rfl⟩, bz_r _⟩
    first | rw [bz_t (by omega)] | rw [bz_f (by omega)]
  · skip
    refine jr_iload_n (pc := 4) h dX7_isTrolley_4 rfl ?_
    refine jr_aload_n (pc := 5) h dX7_isTrolley_5 rfl ?_
    refine gf_X7_19 (pc := 6) h dX7_isTrolley_6 (by assumption) (by omega) ?_
    refine jr_iconst (pc := 9) h dX7_isTrolley_9 ?_
    refine iv_X7_90 (pc := 10) h hl hR dX7_isTrolley_10 ⟨(Nat.le_of_ble_eq_true rfl), (Nat.le_of_ble_eq_true rfl), (Nat.le_of_ble_eq_true rfl), (Nat.le_of_ble_eq_true rfl)⟩ (Nat.le_of_ble_eq_true rfl) (by assumption) (by omega) (s_X1_count hF (a := 5) (by omega)) (fun v_10 n_10 M_10 hn_10 hp => ?_)
    obtain ⟨⟨rfl, rfl, rfl⟩, gr_10⟩ := hp
    rw [show c_count ct 5 = ct 5 from if_pos (by omega)]
    refine jr_icmp_ge (pc := 13) h 20 dX7_isTrolley_13 (by decide) (by omega) (by omega) (fun c_13 => ?_) (fun c_13 => ?_)
    · skip
      refine jr_iconst (pc := 20) h dX7_isTrolley_20 ?_
      refine jr_iret (pc := 21) h hRt dX7_isTrolley_21 rfl (Nat.le_of_ble_eq_true rfl) (Nat.le_of_ble_eq_true rfl) ?_
      refine ⟨⟨ji_c ?_, rfl, rfl⟩, bz_r _⟩
      first | rw [bz_t (by omega)] | rw [bz_f (by omega)]
    · skip
      refine jr_iconst (pc := 16) h dX7_isTrolley_16 ?_
      refine jr_goto (pc := 17) h 21 dX7_isTrolley_17 (by decide) ?_
      refine jr_iret (pc := 21) h hRt dX7_isTrolley_21 rfl (Nat.le_of_ble_eq_true rfl) (Nat.le_of_ble_eq_true rfl) ?_
      refine ⟨⟨ji_c ?_, rfl, rfl⟩, bz_r _⟩
      first | rw [bz_t (by omega)] | rw [bz_f (by omega)]
set_option maxHeartbeats 1000000 in
set_option maxRecDepth 20000 in
theorem s_X7_isMeeting {l : Launch} {n : Nat} {M : jdM} {a cu dr : Nat} {g bs : Nat → Int} {p : TS} {ct td bk si ld : Nat → Int} {D : FS} {g3 sp sk fa go : Nat → Int} {mk : Nat → FS} {tg tk tr : Nat → Int} (hS : SXc M n a cu dr (g, bs, p, (ct, td, bk, si, ld), D, (g3, sp, sk, fa, go), mk, tg, tk, tr)) {x : Int} (hx : -2147483648 ≤ x ∧ x < 2147483648) : Ct l yX7_isMeeting cX7_isMeeting 2 (some .boolean) rX7_isMeeting [.ref a, jI x] n M (fun vv n' M' => (vv = some (jI (bz (0 ≤ x ∧ x ≤ c_rows ct td))) ∧ n = n' ∧ M = M') ∧ (0) ≤ (bz (0 ≤ x ∧ x ≤ c_rows ct td)) ∧ (bz (0 ≤ x ∧ x ≤ c_rows ct td)) ≤ 1) := by
  refine Ct_of [some (.ref a), some (jI x)] (by decide) (Nat.le_of_ble_eq_true rfl) rfl (fun κ hl h hR hRt hmn hn0 => ?_)
  have h : Ok κ RX7 cX7_isMeeting 2 (some .boolean) := h
  obtain ⟨han, hcd, hO7, hT7, hF7, hG7, hR7, hA7, hK7, hD7, hQ7, hB7⟩ := id hS
  have hO7 : M a = jdO 7 (fX7 a cu dr _) := hO7
  try dsimp only at hO7
  try dsimp only at hT7
  try dsimp only at hK7
  try dsimp only at hB7
  have hF : Fl M n cu ct td bk si ld := hF7
  have hRn : Rn M n (a + 19) g3 sp sk fa go := hR7
  obtain ⟨hnF, hOF, hAF, hBF, hCF, hDF, hEF, rA, rB, r0, rC, rD, rE⟩ := id hF
  obtain ⟨hnR, hOR, -⟩ := id hRn
  obtain ⟨dg, rm, wn, be, hDr, hwn, hbe⟩ := id hD7
  obtain ⟨hnD, hOD, -⟩ := id hDr
  obtain ⟨og, ww, hOd⟩ := id hQ7
  obtain ⟨hnQ, hOQ, -⟩ := id hOd
  obtain ⟨fc, wf, hTi⟩ := id hB7
  obtain ⟨hnB, hOB, -⟩ := id hTi
  obtain ⟨ht7, hOT, hTk, hPO, -⟩ := id hT7
  have ctr : 0 ≤ c_rows ct td ∧ c_rows ct td ≤ 40 := by
    unfold c_rows c_get
    have := (rB 0).1
    split
    · omega
    · rw [if_pos (by omega)]
      exact ⟨this, r0⟩
  refine jr_iload_n (pc := 0) h dX7_isMeeting_0 rfl ?_
  refine jr_if_lt (pc := 1) h 19 dX7_isMeeting_1 (by decide) (by omega) (fun c_1 => ?_) (fun c_1 => ?_)
  · skip
    refine jr_iconst (pc := 19) h dX7_isMeeting_19 ?_
    refine jr_iret (pc := 20) h hRt dX7_isMeeting_20 rfl (Nat.le_of_ble_eq_true rfl) (Nat.le_of_ble_eq_true rfl) ?_
    refine ⟨⟨ji_c ?_, rfl, rfl⟩, bz_r _⟩
    first | rw [bz_t (by omega)] | rw [bz_f (by omega)]
  · skip
    refine jr_iload_n (pc := 4) h dX7_isMeeting_4 rfl ?_
    refine jr_aload_n (pc := 5) h dX7_isMeeting_5 rfl ?_
    refine gf_X7_19 (pc := 6) h dX7_isMeeting_6 (by assumption) (by omega) ?_
    refine iv_X7_110 (pc := 9) h hl hR dX7_isMeeting_9 ⟨(Nat.le_of_ble_eq_true rfl), (Nat.le_of_ble_eq_true rfl), (Nat.le_of_ble_eq_true rfl), (Nat.le_of_ble_eq_true rfl)⟩ (Nat.le_of_ble_eq_true rfl) (by assumption) (by omega) (s_X1_rows hF) (fun v_9 n_9 M_9 hn_9 hp => ?_)
    obtain ⟨⟨rfl, rfl, rfl⟩, gr_9⟩ := hp
    refine jr_icmp_gt (pc := 12) h 19 dX7_isMeeting_12 (by decide) (by omega) (by omega) (fun c_12 => ?_) (fun c_12 => ?_)
    · skip
      refine jr_iconst (pc := 19) h dX7_isMeeting_19 ?_
      refine jr_iret (pc := 20) h hRt dX7_isMeeting_20 rfl (Nat.le_of_ble_eq_true rfl) (Nat.le_of_ble_eq_true rfl) ?_
      refine ⟨⟨ji_c ?_, rfl, rfl⟩, bz_r _⟩
      first | rw [bz_t (by omega)] | rw [bz_f (by omega)]
    · skip
      refine jr_iconst (pc := 15) h dX7_isMeeting_15 ?_
      refine jr_goto (pc := 16) h 20 dX7_isMeeting_16 (by decide) ?_
      refine jr_iret (pc := 20) h hRt dX7_isMeeting_20 rfl (Nat.le_of_ble_eq_true rfl) (Nat.le_of_ble_eq_true rfl) ?_
      refine ⟨⟨ji_c ?_, rfl, rfl⟩, bz_r _⟩
      first | rw [bz_t (by omega)] | rw [bz_f (by omega)]
set_option maxHeartbeats 1000000 in
set_option maxRecDepth 20000 in
theorem s_X7_isMinute {l : Launch} {n : Nat} {M : jdM} {x : Int} (hx : -2147483648 ≤ x ∧ x < 2147483648) : Ct l yX7_isMinute cX7_isMinute 1 (some .boolean) rX7_isMinute [jI x] n M (fun vv n' M' => (vv = some (jI (bz (0 ≤ x ∧ x ≤ 999))) ∧ n = n' ∧ M = M') ∧ (0) ≤ (bz (0 ≤ x ∧ x ≤ 999)) ∧ (bz (0 ≤ x ∧ x ≤ 999)) ≤ 1) := by
  refine Ct_of [some (jI x)] (by decide) (Nat.le_of_ble_eq_true rfl) rfl (fun κ hl h hR hRt hmn hn0 => ?_)
  have h : Ok κ RX7 cX7_isMinute 1 (some .boolean) := h
  refine jr_iload_n (pc := 0) h dX7_isMinute_0 rfl ?_
  refine jr_if_lt (pc := 1) h 15 dX7_isMinute_1 (by decide) (by omega) (fun c_1 => ?_) (fun c_1 => ?_)
  · skip
    refine jr_iconst (pc := 15) h dX7_isMinute_15 ?_
    refine jr_iret (pc := 16) h hRt dX7_isMinute_16 rfl (Nat.le_of_ble_eq_true rfl) (Nat.le_of_ble_eq_true rfl) ?_
    refine ⟨⟨ji_c ?_, rfl, rfl⟩, bz_r _⟩
    first | rw [bz_t (by omega)] | rw [bz_f (by omega)]
  · skip
    refine jr_iload_n (pc := 4) h dX7_isMinute_4 rfl ?_
    refine jr_sipush (pc := 5) h dX7_isMinute_5 sp_999 ?_
    refine jr_icmp_gt (pc := 8) h 15 dX7_isMinute_8 (by decide) (by omega) (by omega) (fun c_8 => ?_) (fun c_8 => ?_)
    · skip
      refine jr_iconst (pc := 15) h dX7_isMinute_15 ?_
      refine jr_iret (pc := 16) h hRt dX7_isMinute_16 rfl (Nat.le_of_ble_eq_true rfl) (Nat.le_of_ble_eq_true rfl) ?_
      refine ⟨⟨ji_c ?_, rfl, rfl⟩, bz_r _⟩
      first | rw [bz_t (by omega)] | rw [bz_f (by omega)]
    · skip
      refine jr_iconst (pc := 11) h dX7_isMinute_11 ?_
      refine jr_goto (pc := 12) h 16 dX7_isMinute_12 (by decide) ?_
      refine jr_iret (pc := 16) h hRt dX7_isMinute_16 rfl (Nat.le_of_ble_eq_true rfl) (Nat.le_of_ble_eq_true rfl) ?_
      refine ⟨⟨ji_c ?_, rfl, rfl⟩, bz_r _⟩
      first | rw [bz_t (by omega)] | rw [bz_f (by omega)]
set_option maxHeartbeats 1000000 in
set_option maxRecDepth 20000 in
theorem s_X7_isWanted {l : Launch} {n : Nat} {M : jdM} {a cu dr : Nat} {g bs : Nat → Int} {p : TS} {ct td bk si ld : Nat → Int} {D : FS} {g3 sp sk fa go : Nat → Int} {mk : Nat → FS} {tg tk tr : Nat → Int} (hS : SXc M n a cu dr (g, bs, p, (ct, td, bk, si, ld), D, (g3, sp, sk, fa, go), mk, tg, tk, tr)) {x y : Int} (hx : -2147483648 ≤ x ∧ x < 2147483648) (hy : -2147483648 ≤ y ∧ y < 2147483648) : Ct l yX7_isWanted cX7_isWanted 3 (some .boolean) rX7_isWanted [.ref a, jI x, jI y] n M (fun vv n' M' => (vv = some (jI (bz (y = 0 ∨ (0 < y ∧ 0 ≤ x ∧ x < ct 2)))) ∧ n = n' ∧ M = M') ∧ (0) ≤ (bz (y = 0 ∨ (0 < y ∧ 0 ≤ x ∧ x < ct 2))) ∧ (bz (y = 0 ∨ (0 < y ∧ 0 ≤ x ∧ x < ct 2))) ≤ 1) := by
  refine Ct_of [some (.ref a), some (jI x), some (jI y)] (by decide) (Nat.le_of_ble_eq_true rfl) rfl (fun κ hl h hR hRt hmn hn0 => ?_)
  have h : Ok κ RX7 cX7_isWanted 3 (some .boolean) := h
  obtain ⟨han, hcd, hO7, hT7, hF7, hG7, hR7, hA7, hK7, hD7, hQ7, hB7⟩ := id hS
  have hO7 : M a = jdO 7 (fX7 a cu dr _) := hO7
  try dsimp only at hO7
  try dsimp only at hT7
  try dsimp only at hK7
  try dsimp only at hB7
  have hF : Fl M n cu ct td bk si ld := hF7
  have hRn : Rn M n (a + 19) g3 sp sk fa go := hR7
  obtain ⟨hnF, hOF, hAF, hBF, hCF, hDF, hEF, rA, rB, r0, rC, rD, rE⟩ := id hF
  obtain ⟨hnR, hOR, -⟩ := id hRn
  obtain ⟨dg, rm, wn, be, hDr, hwn, hbe⟩ := id hD7
  obtain ⟨hnD, hOD, -⟩ := id hDr
  obtain ⟨og, ww, hOd⟩ := id hQ7
  obtain ⟨hnQ, hOQ, -⟩ := id hOd
  obtain ⟨fc, wf, hTi⟩ := id hB7
  obtain ⟨hnB, hOB, -⟩ := id hTi
  obtain ⟨ht7, hOT, hTk, hPO, -⟩ := id hT7
  have c2 := rA 2
  refine jr_iload_n (pc := 0) h dX7_isWanted_0 rfl ?_
  refine jr_if_eq (pc := 1) h 16 dX7_isWanted_1 (by decide) (by omega) (fun c_1 => ?_) (fun c_1 => ?_)
  · skip
    refine jr_iconst (pc := 16) h dX7_isWanted_16 ?_
    refine jr_goto (pc := 17) h 21 dX7_isWanted_17 (by decide) ?_
    refine jr_iret (pc := 21) h hRt dX7_isWanted_21 rfl (Nat.le_of_ble_eq_true rfl) (Nat.le_of_ble_eq_true rfl) ?_
    refine ⟨⟨ji_c ?_, rfl, rfl⟩, bz_r _⟩
    first
    | (have d9 := bz_1.mp c_13; rw [bz_t (by omega)])
    | (have d9 := bz_0.mp c_13; rw [bz_f (by omega)])
    | rw [bz_t (by omega)]
    | rw [bz_f (by omega)]
  · skip
    refine jr_iload_n (pc := 4) h dX7_isWanted_4 rfl ?_
    refine jr_if_le (pc := 5) h 20 dX7_isWanted_5 (by decide) (by omega) (fun c_5 => ?_) (fun c_5 => ?_)
    · skip
      refine jr_iconst (pc := 20) h dX7_isWanted_20 ?_
      refine jr_iret (pc := 21) h hRt dX7_isWanted_21 rfl (Nat.le_of_ble_eq_true rfl) (Nat.le_of_ble_eq_true rfl) ?_
      refine ⟨⟨ji_c ?_, rfl, rfl⟩, bz_r _⟩
      first
      | (have d9 := bz_1.mp c_13; rw [bz_t (by omega)])
      | (have d9 := bz_0.mp c_13; rw [bz_f (by omega)])
      | rw [bz_t (by omega)]
      | rw [bz_f (by omega)]
    · skip
      refine jr_aload_n (pc := 8) h dX7_isWanted_8 rfl ?_
      refine jr_iload_n (pc := 9) h dX7_isWanted_9 rfl ?_
      refine iv_X7_117 (pc := 10) h hl hR dX7_isWanted_10 ⟨(Nat.le_of_ble_eq_true rfl), (Nat.le_of_ble_eq_true rfl), (Nat.le_of_ble_eq_true rfl), (Nat.le_of_ble_eq_true rfl)⟩ (Nat.le_of_ble_eq_true rfl) (by assumption) (by omega) (s_X7_isKind hS (by omega)) (fun v_10 n_10 M_10 hn_10 hp => ?_)
      obtain ⟨⟨rfl, rfl, rfl⟩, gr_10⟩ := hp
      refine jr_if_eq (pc := 13) h 20 dX7_isWanted_13 (by decide) (by omega) (fun c_13 => ?_) (fun c_13 => ?_)
      · skip
        refine jr_iconst (pc := 20) h dX7_isWanted_20 ?_
        refine jr_iret (pc := 21) h hRt dX7_isWanted_21 rfl (Nat.le_of_ble_eq_true rfl) (Nat.le_of_ble_eq_true rfl) ?_
        refine ⟨⟨ji_c ?_, rfl, rfl⟩, bz_r _⟩
        first
        | (have d9 := bz_1.mp c_13; rw [bz_t (by omega)])
        | (have d9 := bz_0.mp c_13; rw [bz_f (by omega)])
        | rw [bz_t (by omega)]
        | rw [bz_f (by omega)]
      · skip
        refine jr_iconst (pc := 16) h dX7_isWanted_16 ?_
        refine jr_goto (pc := 17) h 21 dX7_isWanted_17 (by decide) ?_
        refine jr_iret (pc := 21) h hRt dX7_isWanted_21 rfl (Nat.le_of_ble_eq_true rfl) (Nat.le_of_ble_eq_true rfl) ?_
        refine ⟨⟨ji_c ?_, rfl, rfl⟩, bz_r _⟩
        first
        | (have d9 := bz_1.mp c_13; rw [bz_t (by omega)])
        | (have d9 := bz_0.mp c_13; rw [bz_f (by omega)])
        | rw [bz_t (by omega)]
        | rw [bz_f (by omega)]
