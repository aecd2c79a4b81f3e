/-! 74: on which row, in numbers -/
theorem fstZ_eq {p : Int → Prop} {a : Int} : ∀ {d : Nat} {i : Int}, i ≤ a → a < i + d → p a → (∀ j, i ≤ j → j < a → ¬ p j) → fstZ p i d = a
  | 0, i, h1, h2, _, _ => by omega
  | d + 1, i, h1, h2, hp, hn => by
    rw [fstZ]
    by_cases q : i = a
    · rw [q, if_pos hp]
    · rw [if_neg (hn i (by omega) (by omega))]
      exact fstZ_eq (by omega) (by omega) hp (fun j a1 a2 => hn j (by omega) a2)
theorem fstZ_none {p : Int → Prop} : ∀ {d : Nat} {i : Int}, (∀ j, i ≤ j → j < i + d → ¬ p j) → fstZ p i d = -1
  | 0, _, _ => rfl
  | d + 1, i, hn => by
    rw [fstZ, if_neg (hn i (by omega) (by omega))]
    exact fstZ_none (fun j a1 a2 => hn j (by omega) (by omega))
/-- the run's rows, by number -/
def SRV (ct td g sp fa : Nat → Int) : Prop :=
  (∀ a : Int, 1 ≤ a → a < g 4 → c_get td 5 (c_fact fa a 0) 0 = 0 ∧ 0 ≤ c_fact fa a 0 ∧ c_fact fa a 0 < ct 5) ∧
  (∀ a : Int, g 5 < a → a ≤ c_rows ct td → c_get td 5 (c_fact fa a 0) 0 ≠ 0 ∧ 0 ≤ c_fact fa a 0 ∧ c_fact fa a 0 < ct 5) ∧
  (∀ a : Int, 1 ≤ a → (a < g 4 ∨ (g 5 < a ∧ a ≤ c_rows ct td)) → c_fact fa a 1 ≤ c_fact fa a 2) ∧
  (∀ a : Int, 1 ≤ a → a + 1 < g 4 → c_fact fa a 2 ≤ c_fact fa (a + 1) 1) ∧
  (∀ a : Int, g 5 < a → a + 1 ≤ c_rows ct td → c_fact fa (a + 1) 2 ≤ c_fact fa a 1) ∧
  (∀ t : Int, 0 ≤ t → t < ct 5 → (c_get td 5 t 0 = 0 → 1 < g 4 → c_two sp t = c_fact fa (g 4 - 1) 2) ∧ (c_get td 5 t 0 ≠ 0 → g 5 < c_rows ct td → c_two sp t = c_fact fa (g 5 + 1) 2)) ∧
  (1 ≤ g 4 ∧ g 4 ≤ g 5 + 1 ∧ g 5 ≤ c_rows ct td) ∧ c_rows ct td ≤ 40
theorem SRV_of {ct td g sp sk fa go : Nat → Int} (h2 : RI2 ct td (g, sp, sk, fa, go)) (hRI : RI ct td (g, sp, sk, fa, go)) (hr : c_rows ct td ≤ 40) (h5 : ct 5 ≤ 2) : SRV ct td g sp fa := by
  obtain ⟨i1, -, -, -, -, hf, -⟩ := hRI
  obtain ⟨-, j2, j3, -, -, -, j7, j8, j9, j10⟩ := h2
  replace i1 : 1 ≤ g 4 ∧ g 4 ≤ g 5 + 1 ∧ g 5 ≤ c_rows ct td := i1
  replace hf : ∀ j, 0 ≤ fa j ∧ fa j ≤ 5000000 := hf
  replace j2 : ∀ r : Nat, 1 ≤ r → (r : Int) < g 4 → c_get td 5 (fa (11 * r)) 0 = 0 ∧ fa (11 * r) < ct 5 := j2
  replace j3 : ∀ r : Nat, g 5 < r → (r : Int) ≤ c_rows ct td → c_get td 5 (fa (11 * r)) 0 ≠ 0 ∧ fa (11 * r) < ct 5 := j3
  replace j7 : ∀ r : Nat, 1 ≤ r → ((r : Int) < g 4 ∨ (g 5 < r ∧ (r : Int) ≤ c_rows ct td)) → fa (11 * r + 1) ≤ fa (11 * r + 2) := j7
  replace j8 : ∀ r : Nat, 1 ≤ r → (r : Int) + 1 < g 4 → fa (11 * r + 2) ≤ fa (11 * (r + 1) + 1) := j8
  replace j9 : ∀ r : Nat, g 5 < r → (r : Int) + 1 ≤ c_rows ct td → fa (11 * (r + 1) + 2) ≤ fa (11 * r + 1) := j9
  replace j10 : ∀ t : Nat, (t : Int) < ct 5 → (c_get td 5 t 0 = 0 → 1 < g 4 → sp t = fa (11 * (g 4 - 1).toNat + 2)) ∧ (c_get td 5 t 0 ≠ 0 → g 5 < c_rows ct td → sp t = fa (11 * (g 5 + 1).toNat + 2)) ∧ _ := j10
  have e : ∀ (a : Int) (o : Nat), 0 ≤ a → a ≤ 40 → o < 11 → c_fact fa a o = fa (11 * a.toNat + o) := fun a o h1 h2 h3 => by
    unfold c_fact
    rw [if_pos (by omega), show (a * 11 + o).toNat = 11 * a.toNat + o by omega]
  have e0 : ∀ a : Int, 0 ≤ a → a ≤ 40 → c_fact fa a 0 = fa (11 * a.toNat) := fun a h1 h2 => e a 0 h1 h2 (by omega)
  have e1 : ∀ a : Int, 0 ≤ a → a ≤ 40 → c_fact fa a 1 = fa (11 * a.toNat + 1) := fun a h1 h2 => e a 1 h1 h2 (by omega)
  have e2 : ∀ a : Int, 0 ≤ a → a ≤ 40 → c_fact fa a 2 = fa (11 * a.toNat + 2) := fun a h1 h2 => e a 2 h1 h2 (by omega)
  refine ⟨fun a h1 h3 => ?_, fun a h1 h3 => ?_, fun a h1 h3 => ?_, fun a h1 h3 => ?_, fun a h1 h3 => ?_, fun t h1 h3 => ⟨fun h4 h6 => ?_, fun h4 h6 => ?_⟩, i1, hr⟩
  · rw [e0 a (by omega) (by omega)]
    have := j2 a.toNat (by omega) (by omega)
    exact ⟨this.1, (hf _).1, this.2⟩
  · rw [e0 a (by omega) (by omega)]
    have := j3 a.toNat (by omega) (by omega)
    exact ⟨this.1, (hf _).1, this.2⟩
  · rw [e1 a (by omega) (by omega), e2 a (by omega) (by omega)]
    exact j7 a.toNat (by omega) (by omega)
  · rw [e2 a (by omega) (by omega), e1 (a + 1) (by omega) (by omega), show (a + 1).toNat = a.toNat + 1 by omega]
    exact j8 a.toNat (by omega) (by omega)
  · rw [e1 a (by omega) (by omega), e2 (a + 1) (by omega) (by omega), show (a + 1).toNat = a.toNat + 1 by omega]
    exact j9 a.toNat (by omega) (by omega)
  · rw [e2 _ (by omega) (by omega)]
    unfold c_two
    rw [if_pos (by omega)]
    exact (j10 t.toNat (by omega)).1 (by rw [show ((t.toNat : Nat) : Int) = t by omega]; exact h4) h6
  · rw [e2 _ (by omega) (by omega)]
    unfold c_two
    rw [if_pos (by omega)]
    exact (j10 t.toNat (by omega)).2.1 (by rw [show ((t.toNat : Nat) : Int) = t by omega]; exact h4) h6
/-- a row that counts -/
def onQ (g fa : Nat → Int) (t s i : Int) : Prop := (i < g 4 ∨ g 5 < i) ∧ c_fact fa i 0 = t ∧ c_fact fa i 1 ≤ s
set_option maxHeartbeats 1000000 in
theorem on_f {ct td g sp fa : Nat → Int} (hs : SRV ct td g sp fa) (hends : ∀ i j : Int, 0 ≤ i → i < j → j < ct 5 → c_get td 5 i 0 ≠ c_get td 5 j 0) (hfc : ∀ i : Int, 0 ≤ i → i < ct 5 → 0 ≤ c_get td 5 i 0 ∧ c_get td 5 i 0 ≤ 1) {t s c : Int} (ht : 0 ≤ t ∧ t < ct 5) (hc : (c = -1 ∧ ∀ i, 1 ≤ i → i ≤ c_rows ct td → ¬ onQ g fa t s i) ∨ ((1 ≤ c ∧ c ≤ c_rows ct td) ∧ onQ g fa t s c ∧ ∀ i, 1 ≤ i → i ≤ c_rows ct td → onQ g fa t s i → (c_get td 5 t 0 = 0 → i ≤ c) ∧ (c_get td 5 t 0 ≠ 0 → c ≤ i))) : c_on ct td g fa t s = if c = -1 ∨ c_two sp t ≤ s then -1 else c := by
  obtain ⟨f1, f2, f3, f4, f5, f6, f7, f8⟩ := hs
  have uq : ∀ a : Int, 0 ≤ a → a < ct 5 → (c_get td 5 a 0 = 0 ↔ c_get td 5 t 0 = 0) → a = t := fun a a0 a1 q => by
    have u1 := hfc a a0 a1
    have u2 := hfc t ht.1 ht.2
    by_cases q1 : a < t
    · exact absurd (by omega) (hends a t a0 q1 ht.2)
    · by_cases q2 : t < a
      · exact absurd (by omega) (hends t a ht.1 q2 a1)
      · omega
  have onq : ∀ a, c_onp ct td g fa t s a → onQ g fa t s a := fun a h => ⟨h.1, h.2.1, h.2.2.1⟩
  have hlvp : ∀ a, c_go ct td g fa a → c_lv ct td g fa a = c_fact fa (c_nxr td fa a) 1 := fun a q => if_pos q
  have hlvn : ∀ a, ¬ c_go ct td g fa a → c_lv ct td g fa a = c_fact fa a 2 := fun a q => if_neg q
  unfold c_on
  rcases hc with ⟨e, hn⟩ | ⟨hcr, hq, hm⟩
  · rw [if_pos (Or.inl e)]
    exact fstZ_none (fun j a b q => hn j a (by omega) (onq j q))
  · by_cases hz : c_get td 5 t 0 = 0
    · have w1 : ∀ a, 1 ≤ a → a < g 4 → c_fact fa a 0 = t := fun a a0 a1 => by
        have := f1 a a0 a1
        exact uq _ this.2.1 this.2.2 ⟨fun _ => hz, fun _ => this.1⟩
      have w2 : ∀ a, g 5 < a → a ≤ c_rows ct td → c_fact fa a 0 ≠ t := fun a a0 a1 e => by
        have := (f2 a a0 a1).1
        rw [e] at this
        exact this hz
      have hin : ∀ a, 1 ≤ a → a ≤ c_rows ct td → onQ g fa t s a → a < g 4 := fun a a0 a1 q => by
        by_cases q1 : a < g 4
        · exact q1
        · exact absurd q.2.1 (w2 a (by have := q.1; omega) a1)
      have mono : ∀ (n : Nat) (a : Int), 1 ≤ a → a + n < g 4 → c_fact fa a 1 ≤ c_fact fa (a + n) 1 := by
        intro n
        induction n with
        | zero => intro a _ _; rw [show a + ((0 : Nat) : Int) = a by omega]; omega
        | succ n ih =>
          intro a a0 a1
          have k1 := ih a a0 (by omega)
          have k2 := f3 (a + n) (by omega) (Or.inl (by omega))
          have k3 := f4 (a + n) (by omega) (by omega)
          rw [show a + ((n + 1 : Nat) : Int) = a + n + 1 by omega]
          omega
      have mon : ∀ a b : Int, 1 ≤ a → a ≤ b → b < g 4 → c_fact fa a 1 ≤ c_fact fa b 1 := fun a b a0 a1 a2 => by
        have := mono (b - a).toNat a a0 (by omega)
        rw [show a + ((b - a).toNat : Int) = b by omega] at this
        exact this
      have nx : ∀ a, 1 ≤ a → a < g 4 → c_nxr td fa a = a + 1 := fun a a0 a1 => by
        unfold c_nxr
        rw [if_pos (f1 a a0 a1).1]
      have lv1 : ∀ a, 1 ≤ a → a + 1 < g 4 → c_lv ct td g fa a = c_fact fa (a + 1) 1 := fun a a0 a1 => by
        have e := nx a a0 (by omega)
        rw [hlvp a ⟨by omega, by omega, by rw [e]; exact Or.inl a1, by rw [e, w1 a a0 (by omega), w1 (a + 1) (by omega) a1]⟩, e]
      have lv2 : ∀ a, 1 ≤ a → a < g 4 → ¬ a + 1 < g 4 → c_lv ct td g fa a = c_fact fa a 2 := fun a a0 a1 a2 => by
        have e := nx a a0 (by omega)
        refine hlvn a (fun ⟨q1, q2, q3, q4⟩ => ?_)
        rw [e] at q2 q3 q4
        rw [w1 a a0 a1] at q4
        exact w2 (a + 1) (by omega) q2 q4
      have hc4 := hin c hcr.1 hcr.2 hq
      have hsp := (f6 t ht.1 ht.2).1 hz (by omega)
      by_cases q : c_two sp t ≤ s
      · rw [if_pos (Or.inr q)]
        refine fstZ_none (fun j a b p => ?_)
        have j4 := hin j a (by omega) (onq j p)
        have jl := p.2.2.2
        by_cases q1 : j + 1 < g 4
        · rw [lv1 j a q1] at jl
          have k1 := mon (j + 1) (g 4 - 1) (by omega) (by omega) (by omega)
          have k2 := f3 (g 4 - 1) (by omega) (Or.inl (by omega))
          omega
        · rw [lv2 j a j4 q1, show j = g 4 - 1 by omega] at jl
          omega
      · rw [if_neg (by omega)]
        refine fstZ_eq (by omega) (by omega) ⟨hq.1, hq.2.1, hq.2.2, ?_⟩ (fun j a b p => ?_)
        · by_cases q1 : c + 1 < g 4
          · rw [lv1 c hcr.1 q1]
            by_cases q2 : c_fact fa (c + 1) 1 ≤ s
            · have := (hm (c + 1) (by omega) (by omega) ⟨Or.inl q1, w1 _ (by omega) q1, q2⟩).1 hz
              omega
            · omega
          · rw [lv2 c hcr.1 hc4 q1, show c = g 4 - 1 by omega]
            omega
        · have jl := p.2.2.2
          rw [lv1 j a (by omega)] at jl
          have := mon (j + 1) c (by omega) (by omega) hc4
          have := hq.2.2
          omega
    · have w1 : ∀ a, 1 ≤ a → a < g 4 → c_fact fa a 0 ≠ t := fun a a0 a1 e => by
        have := (f1 a a0 a1).1
        rw [e] at this
        exact hz this
      have w2 : ∀ a, g 5 < a → a ≤ c_rows ct td → c_fact fa a 0 = t := fun a a0 a1 => by
        have := f2 a a0 a1
        exact uq _ this.2.1 this.2.2 ⟨fun q => absurd q this.1, fun q => absurd q hz⟩
      have hin : ∀ a, 1 ≤ a → a ≤ c_rows ct td → onQ g fa t s a → g 5 < a := fun a a0 a1 q => by
        by_cases q1 : g 5 < a
        · exact q1
        · exact absurd q.2.1 (w1 a a0 (by have := q.1; omega))
      have mono : ∀ (n : Nat) (a : Int), g 5 < a → a + n ≤ c_rows ct td → c_fact fa (a + n) 1 ≤ c_fact fa a 1 := by
        intro n
        induction n with
        | zero => intro a _ _; rw [show a + ((0 : Nat) : Int) = a by omega]; omega
        | succ n ih =>
          intro a a0 a1
          have k1 := ih a a0 (by omega)
          have k2 := f3 (a + n + 1) (by omega) (Or.inr (by omega))
          have k3 := f5 (a + n) (by omega) (by omega)
          rw [show a + ((n + 1 : Nat) : Int) = a + n + 1 by omega]
          omega
      have mon : ∀ a b : Int, g 5 < a → a ≤ b → b ≤ c_rows ct td → c_fact fa b 1 ≤ c_fact fa a 1 := fun a b a0 a1 a2 => by
        have := mono (b - a).toNat a a0 (by omega)
        rw [show a + ((b - a).toNat : Int) = b by omega] at this
        exact this
      have nx : ∀ a, g 5 < a → a ≤ c_rows ct td → c_nxr td fa a = a - 1 := fun a a0 a1 => by
        unfold c_nxr
        rw [if_neg (f2 a a0 a1).1]
      have lv1 : ∀ a, g 5 < a - 1 → a ≤ c_rows ct td → c_lv ct td g fa a = c_fact fa (a - 1) 1 := fun a a0 a1 => by
        have e := nx a (by omega) a1
        rw [hlvp a ⟨by omega, by omega, by rw [e]; exact Or.inr a0, by rw [e, w2 a (by omega) a1, w2 (a - 1) a0 (by omega)]⟩, e]
      have lv2 : ∀ a, g 5 < a → a ≤ c_rows ct td → ¬ g 5 < a - 1 → c_lv ct td g fa a = c_fact fa a 2 := fun a a0 a1 a2 => by
        have e := nx a a0 a1
        refine hlvn a (fun ⟨q1, q2, q3, q4⟩ => ?_)
        rw [e] at q1 q3 q4
        rw [w2 a a0 a1] at q4
        exact w1 (a - 1) q1 (by omega) q4
      have hc4 := hin c hcr.1 hcr.2 hq
      have hsp := (f6 t ht.1 ht.2).2 hz (by omega)
      by_cases q : c_two sp t ≤ s
      · rw [if_pos (Or.inr q)]
        refine fstZ_none (fun j a b p => ?_)
        have j4 := hin j a (by omega) (onq j p)
        have jl := p.2.2.2
        by_cases q1 : g 5 < j - 1
        · rw [lv1 j q1 (by omega)] at jl
          have k1 := mon (g 5 + 1) (j - 1) (by omega) (by omega) (by omega)
          have k2 := f3 (g 5 + 1) (by omega) (Or.inr (by omega))
          omega
        · rw [lv2 j j4 (by omega) q1, show j = g 5 + 1 by omega] at jl
          omega
      · rw [if_neg (by omega)]
        refine fstZ_eq (by omega) (by omega) ⟨hq.1, hq.2.1, hq.2.2, ?_⟩ (fun j a b p => ?_)
        · by_cases q1 : g 5 < c - 1
          · rw [lv1 c q1 hcr.2]
            by_cases q2 : c_fact fa (c - 1) 1 ≤ s
            · have := (hm (c - 1) (by omega) (by omega) ⟨Or.inr q1, w2 _ q1 (by omega), q2⟩).2 hz
              omega
            · omega
          · rw [lv2 c hc4 hcr.2 q1, show c = g 5 + 1 by omega]
            omega
        · have := (hm j a (by omega) (onq j p)).2 hz
          omega
