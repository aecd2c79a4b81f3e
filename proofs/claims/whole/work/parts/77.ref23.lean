/-! 77: the reference: waits -/
set_option maxHeartbeats 1000000 in
theorem on_u {ct td g sp fa : Nat → Int} (hs : SRV ct td g sp fa) (hends : ∀ i j : Int, 0 ≤ i → i < j → j < ct 5 → c_get td 5 i 0 ≠ c_get td 5 j 0) (hfc : ∀ i : Int, 0 ≤ i → i < ct 5 → 0 ≤ c_get td 5 i 0 ∧ c_get td 5 i 0 ≤ 1) {t s : Int} (ht : 0 ≤ t ∧ t < ct 5) {a b : Int} (ha : 1 ≤ a) (hab : a < b) (hb : b ≤ c_rows ct td) (pa : c_onp ct td g fa t s a) (pb : c_onp ct td g fa t s b) : False := by
  obtain ⟨f1, f2, f3, f4, f5, f6, f7, f8⟩ := hs
  have uq : ∀ a : Int, 0 ≤ a → a < ct 5 → (c_get td 5 a 0 = 0 ↔ c_get td 5 t 0 = 0) → a = t := fun a a0 a1 q => by
    have u1 := hfc a a0 a1
    have u2 := hfc t ht.1 ht.2
    by_cases q1 : a < t
    · exact absurd (by omega) (hends a t a0 q1 ht.2)
    · by_cases q2 : t < a
      · exact absurd (by omega) (hends t a ht.1 q2 a1)
      · omega
  have onq : ∀ a, c_onp ct td g fa t s a → onQ g fa t s a := fun a h => ⟨h.1, h.2.1, h.2.2.1⟩
  have hlvp : ∀ a, c_go ct td g fa a → c_lv ct td g fa a = c_fact fa (c_nxr td fa a) 1 := fun a q => if_pos q
  have hlvn : ∀ a, ¬ c_go ct td g fa a → c_lv ct td g fa a = c_fact fa a 2 := fun a q => if_neg q
  by_cases hz : c_get td 5 t 0 = 0
  · have w1 : ∀ a, 1 ≤ a → a < g 4 → c_fact fa a 0 = t := fun a a0 a1 => by
      have := f1 a a0 a1
      exact uq _ this.2.1 this.2.2 ⟨fun _ => hz, fun _ => this.1⟩
    have w2 : ∀ a, g 5 < a → a ≤ c_rows ct td → c_fact fa a 0 ≠ t := fun a a0 a1 e => by
      have := (f2 a a0 a1).1
      rw [e] at this
      exact this hz
    have hin : ∀ a, 1 ≤ a → a ≤ c_rows ct td → onQ g fa t s a → a < g 4 := fun a a0 a1 q => by
      by_cases q1 : a < g 4
      · exact q1
      · exact absurd q.2.1 (w2 a (by have := q.1; omega) a1)
    have mono : ∀ (n : Nat) (a : Int), 1 ≤ a → a + n < g 4 → c_fact fa a 1 ≤ c_fact fa (a + n) 1 := by
      intro n
      induction n with
      | zero => intro a _ _; rw [show a + ((0 : Nat) : Int) = a by omega]; omega
      | succ n ih =>
        intro a a0 a1
        have k1 := ih a a0 (by omega)
        have k2 := f3 (a + n) (by omega) (Or.inl (by omega))
        have k3 := f4 (a + n) (by omega) (by omega)
        rw [show a + ((n + 1 : Nat) : Int) = a + n + 1 by omega]
        omega
    have mon : ∀ a b : Int, 1 ≤ a → a ≤ b → b < g 4 → c_fact fa a 1 ≤ c_fact fa b 1 := fun a b a0 a1 a2 => by
      have := mono (b - a).toNat a a0 (by omega)
      rw [show a + ((b - a).toNat : Int) = b by omega] at this
      exact this
    have nx : ∀ a, 1 ≤ a → a < g 4 → c_nxr td fa a = a + 1 := fun a a0 a1 => by
      unfold c_nxr
      rw [if_pos (f1 a a0 a1).1]
    have lv1 : ∀ a, 1 ≤ a → a + 1 < g 4 → c_lv ct td g fa a = c_fact fa (a + 1) 1 := fun a a0 a1 => by
      have e := nx a a0 (by omega)
      rw [hlvp a ⟨by omega, by omega, by rw [e]; exact Or.inl a1, by rw [e, w1 a a0 (by omega), w1 (a + 1) (by omega) a1]⟩, e]
    have lv2 : ∀ a, 1 ≤ a → a < g 4 → ¬ a + 1 < g 4 → c_lv ct td g fa a = c_fact fa a 2 := fun a a0 a1 a2 => by
      have e := nx a a0 (by omega)
      refine hlvn a (fun ⟨q1, q2, q3, q4⟩ => ?_)
      rw [e] at q2 q3 q4
      rw [w1 a a0 a1] at q4
      exact w2 (a + 1) (by omega) q2 q4
    have j4 := hin b (by omega) hb (onq b pb)
    have jl := pa.2.2.2
    rw [lv1 a ha (by omega)] at jl
    have k1 := mon (a + 1) b (by omega) (by omega) j4
    have := pb.2.2.1
    omega
  · have w1 : ∀ a, 1 ≤ a → a < g 4 → c_fact fa a 0 ≠ t := fun a a0 a1 e => by
      have := (f1 a a0 a1).1
      rw [e] at this
      exact hz this
    have w2 : ∀ a, g 5 < a → a ≤ c_rows ct td → c_fact fa a 0 = t := fun a a0 a1 => by
      have := f2 a a0 a1
      exact uq _ this.2.1 this.2.2 ⟨fun q => absurd q this.1, fun q => absurd q hz⟩
    have hin : ∀ a, 1 ≤ a → a ≤ c_rows ct td → onQ g fa t s a → g 5 < a := fun a a0 a1 q => by
      by_cases q1 : g 5 < a
      · exact q1
      · exact absurd q.2.1 (w1 a a0 (by have := q.1; omega))
    have mono : ∀ (n : Nat) (a : Int), g 5 < a → a + n ≤ c_rows ct td → c_fact fa (a + n) 1 ≤ c_fact fa a 1 := by
      intro n
      induction n with
      | zero => intro a _ _; rw [show a + ((0 : Nat) : Int) = a by omega]; omega
      | succ n ih =>
        intro a a0 a1
        have k1 := ih a a0 (by omega)
        have k2 := f3 (a + n + 1) (by omega) (Or.inr (by omega))
        have k3 := f5 (a + n) (by omega) (by omega)
        rw [show a + ((n + 1 : Nat) : Int) = a + n + 1 by omega]
        omega
    have mon : ∀ a b : Int, g 5 < a → a ≤ b → b ≤ c_rows ct td → c_fact fa b 1 ≤ c_fact fa a 1 := fun a b a0 a1 a2 => by
      have := mono (b - a).toNat a a0 (by omega)
      rw [show a + ((b - a).toNat : Int) = b by omega] at this
      exact this
    have nx : ∀ a, g 5 < a → a ≤ c_rows ct td → c_nxr td fa a = a - 1 := fun a a0 a1 => by
      unfold c_nxr
      rw [if_neg (f2 a a0 a1).1]
    have lv1 : ∀ a, g 5 < a - 1 → a ≤ c_rows ct td → c_lv ct td g fa a = c_fact fa (a - 1) 1 := fun a a0 a1 => by
      have e := nx a (by omega) a1
      rw [hlvp a ⟨by omega, by omega, by rw [e]; exact Or.inr a0, by rw [e, w2 a (by omega) a1, w2 (a - 1) a0 (by omega)]⟩, e]
    have lv2 : ∀ a, g 5 < a → a ≤ c_rows ct td → ¬ g 5 < a - 1 → c_lv ct td g fa a = c_fact fa a 2 := fun a a0 a1 a2 => by
      have e := nx a a0 a1
      refine hlvn a (fun ⟨q1, q2, q3, q4⟩ => ?_)
      rw [e] at q1 q3 q4
      rw [w2 a a0 a1] at q4
      exact w1 (a - 1) q1 (by omega) q4
    have j4 := hin a ha (by omega) (onq a pa)
    have jl := pb.2.2.2
    rw [lv1 b (by omega) hb] at jl
    have k1 := mon a (b - 1) j4 (by omega) (by omega)
    have := pa.2.2.1
    omega
theorem on_at {ct td g sp fa : Nat → Int} (hs : SRV ct td g sp fa) (hends : ∀ i j : Int, 0 ≤ i → i < j → j < ct 5 → c_get td 5 i 0 ≠ c_get td 5 j 0) (hfc : ∀ i : Int, 0 ≤ i → i < ct 5 → 0 ≤ c_get td 5 i 0 ∧ c_get td 5 i 0 ≤ 1) {t s : Int} (ht : 0 ≤ t ∧ t < ct 5) {a : Int} (ha : 1 ≤ a ∧ a ≤ c_rows ct td) (pa : c_onp ct td g fa t s a) : c_on ct td g fa t s = a := by
  unfold c_on
  exact fstZ_eq ha.1 (by omega) pa (fun j a1 a2 p => on_u hs hends hfc ht a1 a2 ha.2 p pa)
theorem sumZ_lt {f g : Int → Int} {k : Int} : ∀ {n : Nat}, (∀ i : Int, 0 ≤ i → i < n → f i ≤ g i) → 0 ≤ k → k < n → f k < g k → sumZ f n < sumZ g n
  | 0, _, h1, h2, _ => by omega
  | n + 1, h, h1, h2, h3 => by
    rw [sumZ, sumZ]
    have hn := h n (by omega) (by omega)
    by_cases q : k = n
    · have key : ∀ m : Nat, m ≤ n → sumZ f m ≤ sumZ g m := by
        intro m
        induction m with
        | zero => intro _; exact Int.le_refl _
        | succ m ih =>
          intro hm
          have := ih (by omega)
          have := h m (by omega) (by omega)
          rw [sumZ, sumZ]
          omega
      have := key n (Nat.le_refl _)
      rw [q] at h3
      omega
    · have := sumZ_lt (n := n) (fun i a b => h i a (by omega)) h1 (by omega) h3
      omega
def frW (ct td g fa : Nat → Int) (x s : Int) : Prop := ∀ t : Int, 0 ≤ t → t < ct 5 → ¬ c_wyp ct td g fa x s t
theorem wt_all {ct td g sp fa : Nat → Int} (hs : SRV ct td g sp fa) (hends : ∀ i j : Int, 0 ≤ i → i < j → j < ct 5 → c_get td 5 i 0 ≠ c_get td 5 j 0) (hfc : ∀ i : Int, 0 ≤ i → i < ct 5 → 0 ≤ c_get td 5 i 0 ∧ c_get td 5 i 0 ≤ 1) (h0 : 0 ≤ ct 5) (hcf : ∀ a b : Int, 0 ≤ c_fact fa a b ∧ c_fact fa a b ≤ 5000000) {x : Int} (hx : 1 ≤ min (c_get td 11 x 1) (c_get td 11 x 2)) : ∀ {n : Nat} {s : Int}, sumZ (fun i => if s < c_lv ct td g fa (1 + i) then 1 else 0) (c_rows ct td).toNat < n → (s ≤ wtR ct td g fa x s n ∧ wtR ct td g fa x s n ≤ max s 5000000) ∧ frW ct td g fa x (wtR ct td g fa x s n) ∧ ∀ s', s ≤ s' → s' < wtR ct td g fa x s n → ¬ frW ct td g fa x s'
  | 0, s, h => by
    exfalso
    have := (sumZ_b (f := fun i => if s < c_lv ct td g fa (1 + i) then (1 : Int) else 0) (k := (c_rows ct td).toNat) (lo := 0) (hi := 1) (fun i _ _ => by
      show 0 ≤ (if s < c_lv ct td g fa (1 + i) then (1 : Int) else 0) ∧ (if s < c_lv ct td g fa (1 + i) then (1 : Int) else 0) ≤ 1
      split <;> omega)).1
    omega
  | n + 1, s, h => by
    have hrows := hs.2.2.2.2.2.2
    have hon : ∀ t, c_on ct td g fa t s = -1 ∨ (1 ≤ c_on ct td g fa t s ∧ c_on ct td g fa t s ≤ c_rows ct td ∧ c_onp ct td g fa t s (c_on ct td g fa t s)) := fun t => by
      rcases fstZ_r (p := c_onp ct td g fa t s) (i := 1) (d := (c_rows ct td + 1 - 1).toNat) (by omega) with q | ⟨q1, q2, q3⟩
      · exact Or.inl q
      · exact Or.inr ⟨q1, by show fstZ _ _ _ ≤ _; omega, q3⟩
    have hw : c_way ct td g fa x s = (if fstZ (c_wyp ct td g fa x s) 0 (ct 5 - 0).toNat = -1 then -1 else c_on ct td g fa (fstZ (c_wyp ct td g fa x s) 0 (ct 5 - 0).toNat) s) := rfl
    rcases fstZ_r (p := c_wyp ct td g fa x s) (i := 0) (d := (ct 5 - 0).toNat) (by omega) with q | ⟨q1, q2, q3⟩
    · have e : wtR ct td g fa x s (n + 1) = s := by
        rw [wtR, if_pos (by rw [hw, if_pos q])]
      rw [e]
      exact ⟨⟨by omega, by omega⟩, fun t a b => fstZ_n q (by omega) t a (by omega), fun s' a b => by omega⟩
    · generalize fstZ (c_wyp ct td g fa x s) 0 (ct 5 - 0).toNat = t at hw q1 q2 q3
      rw [if_neg (by omega)] at hw
      obtain ⟨y1, y2, y3⟩ := q3
      rcases hon t with z | ⟨z1, z2, z3⟩
      · omega
      · generalize c_on ct td g fa t s = a at hw y1 y2 y3 z1 z2 z3
        have hlv : s < c_lv ct td g fa a := z3.2.2.2
        have hlb : c_lv ct td g fa a ≤ 5000000 := by
          unfold c_lv
          split
          · exact (hcf _ _).2
          · exact (hcf _ _).2
        have e : wtR ct td g fa x s (n + 1) = wtR ct td g fa x (c_lv ct td g fa a) n := by
          rw [wtR, if_neg (by rw [hw]; omega), hw]
        have hlt : sumZ (fun i => if c_lv ct td g fa a < c_lv ct td g fa (1 + i) then (1 : Int) else 0) (c_rows ct td).toNat < sumZ (fun i => if s < c_lv ct td g fa (1 + i) then (1 : Int) else 0) (c_rows ct td).toNat := by
          refine sumZ_lt (k := a - 1) (fun i _ _ => ?_) (by omega) (by omega) ?_
          · show (if c_lv ct td g fa a < c_lv ct td g fa (1 + i) then (1 : Int) else 0) ≤ (if s < c_lv ct td g fa (1 + i) then (1 : Int) else 0)
            by_cases q : c_lv ct td g fa a < c_lv ct td g fa (1 + i)
            · rw [if_pos q, if_pos (by omega)]; omega
            · rw [if_neg q]
              split <;> omega
          · show (if c_lv ct td g fa a < c_lv ct td g fa (1 + (a - 1)) then (1 : Int) else 0) < (if s < c_lv ct td g fa (1 + (a - 1)) then (1 : Int) else 0)
            rw [show 1 + (a - 1) = a by omega, if_neg (by omega), if_pos hlv]
            omega
        obtain ⟨⟨i1, i2⟩, i3, i4⟩ := wt_all hs hends hfc h0 hcf hx (n := n) (s := c_lv ct td g fa a) (by omega)
        rw [e]
        refine ⟨⟨by omega, by omega⟩, i3, fun s' a1 a2 hf => ?_⟩
        by_cases q : s' < c_lv ct td g fa a
        · have eo := on_at hs hends hfc (t := t) (s := s') ⟨q1, by omega⟩ (a := a) ⟨z1, z2⟩ ⟨z3.1, z3.2.1, by have := z3.2.2.1; omega, q⟩
          exact hf t q1 (by omega) ⟨by rw [eo]; exact y1, by rw [eo]; exact y2, by rw [eo]; exact y3⟩
        · exact i4 s' (by omega) a2 hf
