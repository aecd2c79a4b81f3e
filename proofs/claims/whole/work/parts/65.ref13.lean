/-! 65: what the class's run keeps to, in numbers -/
theorem c_bel_ge {ct td : Nat → Int} {x : Int} : x ≤ c_bel ct td x := by
  have h1 : ∀ (a i : Int), x ≤ a → x ≤ c_bel1 td a i := fun a i ha => by
    unfold c_bel1
    split <;> omega
  have h2 : ∀ a : Int, x ≤ a → x ≤ c_belP ct td a := fun a ha => foldZ_inv (P := fun a => x ≤ a) ha (fun a i p _ _ => h1 a i p)
  exact foldZ_inv (P := fun a => x ≤ a) (Int.le_refl _) (fun a i p _ _ => h2 a p)
theorem av_beg_ge {ct td g sp : Nat → Int} (rB : ∀ j, 0 ≤ td j ∧ td j ≤ 999) : sp (c_nxt ct td sp).toNat ≤ av_beg ct td g sp := by
  have h1 := c_bel_ge (ct := ct) (td := td) (x := sp (c_nxt ct td sp).toNat)
  have h2 := c_getr rB 0 0 1
  unfold av_beg
  split <;> omega
theorem hd4_4 {k : Nat} {x : Int} {w : Nat → Int} : hd4 k x w 4 = w 4 + 1 := by
  unfold hd4
  rw [up_ne (by omega)]
  unfold hd3
  rw [up_eq]
  unfold hd2
  rw [up_ne (by omega)]
  unfold hd1
  rw [up_ne (by omega)]
theorem hd4_t {k j : Nat} {x : Int} {w : Nat → Int} (hj : j < 4) : hd4 k x w (5 + j) = w (5 + j) + if j = k then 1 else 0 := by
  have e : hd3 k x w (5 + j) = w (5 + j) := by
    unfold hd3
    rw [up_ne (by omega)]
    unfold hd2
    rw [up_ne (by omega)]
    unfold hd1
    rw [up_ne (by omega)]
  unfold hd4
  by_cases q : j = k
  · subst q
    rw [if_pos rfl, up_eq, e]
  · rw [if_neg q, up_ne (by omega), e]
    omega
theorem hdW_4 {ct td w : Nat → Int} {k : Nat} : hdW ct td k w 4 = w 4 + 1 := by
  unfold hdW
  split
  · rw [up_ne (by omega)]; exact hd4_4
  · exact hd4_4
theorem hdW_t {ct td w : Nat → Int} {k j : Nat} (hj : j < 4) : hdW ct td k w (5 + j) = w (5 + j) + if j = k then 1 else 0 := by
  unfold hdW
  split
  · rw [up_ne (by omega)]; exact hd4_t hj
  · exact hd4_t hj
/-- what the row under way keeps to -/
def WY (ct w : Nat → Int) (b : Int) : Prop := WZ ct w ∧ w 4 = w 5 + w 6 + w 7 + w 8 ∧ (∀ k : Nat, ct 2 ≤ k → k < 4 → w (5 + k) = 0) ∧ b ≤ w 0
theorem WY_up {ct w : Nat → Int} {o : Nat} {x b : Int} (h : WY ct w b) (ho : (1 ≤ o ∧ o ≤ 3) ∨ 13 ≤ o) : WY ct (up w o x) b := by
  obtain ⟨h1, h2, h3, h4⟩ := h
  refine ⟨WZ_up h1 (by omega), ?_, fun k a c => ?_, ?_⟩
  · rw [up_ne (by omega), up_ne (by omega), up_ne (by omega), up_ne (by omega), up_ne (by omega)]; exact h2
  · rw [up_ne (by omega)]; exact h3 k a c
  · rw [up_ne (by omega)]; exact h4
theorem WY_hd {ct td w : Nat → Int} {k : Nat} {b : Int} (h : WY ct w b) (hk : k < 4) (h2 : (k : Int) < ct 2) (rB : ∀ j, 0 ≤ td j ∧ td j ≤ 999) : WY ct (hdW ct td k w) b := by
  obtain ⟨h1, h3, h4, h5⟩ := h
  refine ⟨WZ_hd h1 hk h2, ?_, fun j a c => ?_, ?_⟩
  · have t0 := hdW_t (ct := ct) (td := td) (w := w) (k := k) (j := 0) (by omega)
    have t1 := hdW_t (ct := ct) (td := td) (w := w) (k := k) (j := 1) (by omega)
    have t2 := hdW_t (ct := ct) (td := td) (w := w) (k := k) (j := 2) (by omega)
    have t3 := hdW_t (ct := ct) (td := td) (w := w) (k := k) (j := 3) (by omega)
    rw [hdW_4]
    rw [show hdW ct td k w 5 = hdW ct td k w (5 + 0) from rfl, show hdW ct td k w 6 = hdW ct td k w (5 + 1) from rfl, show hdW ct td k w 7 = hdW ct td k w (5 + 2) from rfl, show hdW ct td k w 8 = hdW ct td k w (5 + 3) from rfl, t0, t1, t2, t3]
    show w 4 + 1 = w 5 + _ + (w 6 + _) + (w 7 + _) + (w 8 + _)
    match k, hk with
    | 0, _ => simp; omega
    | 1, _ => simp; omega
    | 2, _ => simp; omega
    | 3, _ => simp; omega
  · rw [hdW_t c, h4 j a c, if_neg (by omega)]
    rfl
  · rw [hdW_0]
    have := c_getr rB 0 0 2
    omega
theorem WY_nm {ct td w : Nat → Int} {ρ : Nat} {c i b : Int} (h : WY ct w b) (hk : 0 ≤ c_get td 8 i 1 ∧ c_get td 8 i 1 < ct 2) (h4 : ct 2 ≤ 4) (rB : ∀ j, 0 ≤ td j ∧ td j ≤ 999) : WY ct (nm1 ct td ρ c w i) b := by
  unfold nm1
  split
  · split
    · exact WY_up (o := 14 + i.toNat) (WY_hd h (by omega) (by omega) rB) (Or.inr (by omega))
    · exact WY_up (o := 2) h (Or.inl (by omega))
  · exact h
theorem WY_nmF {ct td w : Nat → Int} {ρ : Nat} {c b : Int} (h : WY ct w b) (h4 : ct 2 ≤ 4) (rB : ∀ j, 0 ≤ td j ∧ td j ≤ 999) : ∀ {k : Nat}, (∀ i : Int, 0 ≤ i → i < k → 0 ≤ c_get td 8 i 1 ∧ c_get td 8 i 1 < ct 2) → WY ct (foldS (nm1 ct td ρ c) w k) b
  | 0, _ => h
  | k + 1, hk => WY_nm (WY_nmF h h4 rB (k := k) (fun i a b => hk i a (by omega))) (hk k (by omega) (by omega)) h4 rB
theorem WY_ot {ct td bk w : Nat → Int} {ρ : Nat} {i b : Int} (h : WY ct w b) (h0 : ∀ k, k < 4 → 0 ≤ w (9 + k)) (h2 : 1 ≤ ct 2 ∧ ct 2 ≤ 4) (hl : ∀ v, 0 ≤ c_liked td bk ρ v ∧ c_liked td bk ρ v < ct 2) (rB : ∀ j, 0 ≤ td j ∧ td j ≤ 999) : WY ct (ot1 ct td bk ρ w i) b := by
  unfold ot1
  have h1 : WY ct (up w 13 ((75 * w 13 + 74) % 65537)) b := WY_up h (Or.inr (by omega))
  have h01 : ∀ k, k < 4 → 0 ≤ up w 13 ((75 * w 13 + 74) % 65537) (9 + k) := fun k hk => by rw [up_ne (by omega)]; exact h0 k hk
  have hlk := hl ((75 * w 13 + 74) % 65537 % max 1 (c_weights td bk ρ))
  generalize c_liked td bk ρ ((75 * w 13 + 74) % 65537 % max 1 (c_weights td bk ρ)) = lk at hlk
  generalize up w 13 ((75 * w 13 + 74) % 65537) = w1 at h1 h01
  dsimp only
  have hm := mostF_b (L := fun k : Int => w1 (9 + k.toNat))
  have hmp : mostF (fun k : Int => w1 (9 + k.toNat)) ≠ -1 → 0 < w1 (9 + (mostF (fun k : Int => w1 (9 + k.toNat))).toNat) := mostF_p (L := fun k : Int => w1 (9 + k.toNat)) (k := 4)
  have htk : ∀ tk : Int, tk = (if 0 < w1 (9 + lk.toNat) then lk else mostF (fun k : Int => w1 (9 + k.toNat))) → tk = -1 ∨ tk.toNat < 4 ∧ ((tk.toNat : Nat) : Int) < ct 2 := by
    intro tk e
    by_cases q1 : 0 < w1 (9 + lk.toNat)
    · rw [if_pos q1] at e
      right
      omega
    · rw [if_neg q1] at e
      by_cases q : mostF (fun k : Int => w1 (9 + k.toNat)) = -1
      · left
        omega
      · right
        have hp := hmp q
        by_cases q2 : mostF (fun k : Int => w1 (9 + k.toNat)) < ct 2
        · omega
        · have := h1.1 (mostF (fun k : Int => w1 (9 + k.toNat))).toNat (by omega) (by omega)
          omega
  generalize (if 0 < w1 (9 + lk.toNat) then lk else mostF (fun k : Int => w1 (9 + k.toNat))) = tk at htk ⊢
  have htk := htk tk rfl
  by_cases q : tk = -1
  · rw [if_pos q]
    exact WY_up (o := 2) h1 (Or.inl (by omega))
  · rw [if_neg q]
    exact WY_hd (WY_up (o := 1) h1 (Or.inl (by omega))) (by omega) (by omega) rB
theorem WY_otF {ct td bk w : Nat → Int} {ρ : Nat} {b C : Int} (h : WY ct w b) (hW : WB w C) (h2 : 1 ≤ ct 2 ∧ ct 2 ≤ 4) (hl : ∀ v, 0 ≤ c_liked td bk ρ v ∧ c_liked td bk ρ v < ct 2) (rB : ∀ j, 0 ≤ td j ∧ td j ≤ 999) : ∀ {k : Nat}, WY ct (foldS (ot1 ct td bk ρ) w k) b
  | 0 => h
  | k + 1 => WY_ot (WY_otF h hW h2 hl rB (k := k)) (fun j hj => ((otF_B hW (fun v => by have := hl v; omega) rB (k := k)).2.1 j hj).1) h2 hl rB
theorem WY_av {ct td bk si g sp sk go : Nat → Int} (rB : ∀ j, 0 ≤ td j ∧ td j ≤ 999) (h8 : 0 ≤ ct 8) (h2 : 1 ≤ ct 2 ∧ ct 2 ≤ 4) (hk8 : ∀ i : Int, 0 ≤ i → i < ct 8 → 0 ≤ c_get td 8 i 1 ∧ c_get td 8 i 1 < ct 2) (hl : ∀ r v, 0 ≤ c_liked td bk r v ∧ c_liked td bk r v < ct 2) (hs : ∀ j, 0 ≤ sp j ∧ sp j ≤ 5000000) (hk : ∀ j, 0 ≤ sk j ∧ sk j ≤ 9999) (hz : 0 ≤ g 7 ∧ g 7 ≤ 65536) (h0 : ∀ t k : Nat, t < 2 → k < 4 → ct 2 ≤ k → sk (4 * t + k) = 0) : WY ct (av_w ct td bk si g sp sk go) (av_beg ct td g sp) := by
  have hx := c_nxt_r (ct := ct) (td := td) (sp := sp)
  have h1 := w_ini_B (sk := sk) (τ := (c_nxt ct td sp).toNat) (go := go) (av_begr (ct := ct) (g := g) rB hs).1 hk hz
  have y1 : WY ct (w_ini (av_beg ct td g sp) sk (c_nxt ct td sp).toNat (g 7) go) (av_beg ct td g sp) := by
    refine ⟨fun k a b => ?_, rfl, fun k a b => ?_, Int.le_refl _⟩
    · unfold w_ini
      rw [if_neg (by omega), if_neg (by omega), if_pos (by omega), show 9 + k - 9 = k by omega]
      exact h0 _ k (by omega) b a
    · unfold w_ini
      rw [if_neg (by omega), if_pos (by omega)]
  have kk : ∀ i : Int, 0 ≤ i → i < ((ct 8).toNat : Int) → 0 ≤ c_get td 8 i 1 ∧ c_get td 8 i 1 < ct 2 := fun i a b => hk8 i a (by omega)
  have kk3 : ∀ i : Int, 0 ≤ i → i < ((ct 8).toNat : Int) → 0 ≤ c_get td 8 i 1 ∧ c_get td 8 i 1 ≤ 3 := fun i a b => by have := kk i a b; omega
  have b2 := nmF_B (ct := ct) (ρ := (av_row ct td g sp).toNat) (c := 1) h1 rB kk3
  have b3 := nmF_B (ct := ct) (ρ := (av_row ct td g sp).toNat) (c := 0) b2 rB kk3
  have y2 := WY_nmF (ρ := (av_row ct td g sp).toNat) (c := 1) y1 h2.2 rB kk
  have y3 := WY_nmF (ρ := (av_row ct td g sp).toNat) (c := 0) y2 h2.2 rB kk
  exact WY_otF y3 b3 h2 (hl _) rB
theorem rwX_ne {fa w : Nat → Int} {ρ r o : Nat} {x y : Int} (hr : r ≠ ρ) (ho : o < 11) : rwX (up (up fa (11 * ρ) x) (11 * ρ + 1) y) ρ w (11 * r + o) = fa (11 * r + o) := by
  unfold rwX
  rw [if_neg (by omega), up_ne (by omega), up_ne (by omega)]
theorem rwX_ne0 {fa w : Nat → Int} {ρ r : Nat} {x y : Int} (hr : r ≠ ρ) : rwX (up (up fa (11 * ρ) x) (11 * ρ + 1) y) ρ w (11 * r) = fa (11 * r) := rwX_ne (o := 0) hr (by omega)
theorem rwX_0 {fa w : Nat → Int} {ρ : Nat} {x y : Int} : rwX (up (up fa (11 * ρ) x) (11 * ρ + 1) y) ρ w (11 * ρ) = x := by
  unfold rwX
  rw [if_neg (by omega), up_ne (by omega), up_eq]
theorem rwX_1 {fa w : Nat → Int} {ρ : Nat} {x y : Int} : rwX (up (up fa (11 * ρ) x) (11 * ρ + 1) y) ρ w (11 * ρ + 1) = y := by
  unfold rwX
  rw [if_neg (by omega), up_eq]
theorem rwX_2 {fa w : Nat → Int} {ρ : Nat} : rwX fa ρ w (11 * ρ + 2) = w 0 := rwX_at (o := 0) (by omega)
set_option maxHeartbeats 1000000 in
theorem RI2_av {ct td bk si : Nat → Int} {R : FS} (h2 : RI2 ct td R) (h : RI ct td R) (hF : FI ct td) (hW : WY ct (av_w ct td bk si R.1 R.2.1 R.2.2.1 R.2.2.2.2) (av_beg ct td R.1 R.2.1)) (hno : R.1 4 ≤ R.1 5) (hr : c_rows ct td ≤ 40) (h5 : 1 ≤ ct 5) : RI2 ct td (avR ct td bk si R) := by
  obtain ⟨g, sp, sk, fa, go⟩ := R
  obtain ⟨i1, -⟩ := h
  obtain ⟨j1, j2, j3, j4, j5, j6, j7, j8, j9, j10⟩ := h2
  replace hno : g 4 ≤ g 5 := hno
  replace i1 : 1 ≤ g 4 ∧ g 4 ≤ g 5 + 1 ∧ g 5 ≤ c_rows ct td := i1
  replace j1 : ∀ t k : Nat, t < 2 → k < 4 → ct 2 ≤ k → sk (4 * t + k) = 0 := j1
  replace j2 : ∀ r : Nat, 1 ≤ r → (r : Int) < g 4 → c_get td 5 (fa (11 * r)) 0 = 0 ∧ fa (11 * r) < ct 5 := j2
  replace j3 : ∀ r : Nat, g 5 < r → (r : Int) ≤ c_rows ct td → c_get td 5 (fa (11 * r)) 0 ≠ 0 ∧ fa (11 * r) < ct 5 := j3
  replace j4 : ∀ r : Nat, fa (11 * r + 6) = fa (11 * r + 7) + fa (11 * r + 8) + fa (11 * r + 9) + fa (11 * r + 10) := j4
  replace j5 : ∀ r o : Nat, c_rows ct td < r → o < 11 → fa (11 * r + o) = 0 := j5
  replace j6 : ∀ r k : Nat, k < 4 → ct 2 ≤ k → fa (11 * r + 7 + k) = 0 := j6
  replace j7 : ∀ r : Nat, 1 ≤ r → ((r : Int) < g 4 ∨ (g 5 < r ∧ (r : Int) ≤ c_rows ct td)) → fa (11 * r + 1) ≤ fa (11 * r + 2) := j7
  replace j8 : ∀ r : Nat, 1 ≤ r → (r : Int) + 1 < g 4 → fa (11 * r + 2) ≤ fa (11 * (r + 1) + 1) := j8
  replace j9 : ∀ r : Nat, g 5 < r → (r : Int) + 1 ≤ c_rows ct td → fa (11 * (r + 1) + 2) ≤ fa (11 * r + 1) := j9
  replace j10 : ∀ t : Nat, (t : Int) < ct 5 → (c_get td 5 t 0 = 0 → 1 < g 4 → sp t = fa (11 * (g 4 - 1).toNat + 2)) ∧ (c_get td 5 t 0 ≠ 0 → g 5 < c_rows ct td → sp t = fa (11 * (g 5 + 1).toNat + 2)) ∧ (c_get td 5 t 0 = 0 → g 4 ≤ 1 → sp t = 0) ∧ (c_get td 5 t 0 ≠ 0 → c_rows ct td ≤ g 5 → sp t = 0) := j10
  have hx := c_nxt_r (ct := ct) (td := td) (sp := sp)
  have l5 := (hF.1 5 (by omega)).2
  rw [show (jtab 0).2.2 5 = 2 from rfl] at l5
  have hx5 : c_nxt ct td sp < ct 5 := by
    unfold c_nxt
    (repeat' split) <;> omega
  have hrow : (c_get td 5 (c_nxt ct td sp) 0 = 0 ∧ av_row ct td g sp = g 4) ∨ (c_get td 5 (c_nxt ct td sp) 0 ≠ 0 ∧ av_row ct td g sp = g 5) := by
    unfold av_row
    split
    · rename_i q; exact Or.inl ⟨q, rfl⟩
    · rename_i q; exact Or.inr ⟨q, rfl⟩
  have hbge := av_beg_ge (ct := ct) (td := td) (g := g) (sp := sp) hF.2.2.2
  have hag : av_g ct td bk si g sp sk go = (if c_get td 5 (c_nxt ct td sp) 0 = 0 then up (up (up g 7 (av_w ct td bk si g sp sk go 13)) 6 (g 6 + c_begun ct td (av_beg ct td g sp) (av_w ct td bk si g sp sk go 0))) 4 (g 4 + 1) else up (up (up g 7 (av_w ct td bk si g sp sk go 13)) 6 (g 6 + c_begun ct td (av_beg ct td g sp) (av_w ct td bk si g sp sk go 0))) 5 (g 5 - 1)) := rfl
  replace hW : WY ct (av_w ct td bk si g sp sk go) (av_beg ct td g sp) := hW
  unfold avR
  dsimp only
  have efa : av_fa ct td bk si g sp sk fa go = rwX (up (up fa (11 * (av_row ct td g sp).toNat) (c_nxt ct td sp)) (11 * (av_row ct td g sp).toNat + 1) (av_beg ct td g sp)) (av_row ct td g sp).toNat (av_w ct td bk si g sp sk go) := rfl
  rw [efa]
  generalize av_w ct td bk si g sp sk go = w at hag hW
  generalize av_beg ct td g sp = beg at hag hW hbge
  obtain ⟨τ, eτ⟩ : ∃ τ : Nat, c_nxt ct td sp = (τ : Int) := ⟨(c_nxt ct td sp).toNat, by omega⟩
  obtain ⟨ρ, eρ⟩ : ∃ ρ : Nat, av_row ct td g sp = (ρ : Int) := ⟨(av_row ct td g sp).toNat, by omega⟩
  generalize hG : av_g ct td bk si g sp sk go = G at hag
  rw [eτ] at hrow hag hx hx5 hbge ⊢
  rw [eρ] at hrow ⊢
  rw [Int.toNat_natCast] at hbge
  rw [Int.toNat_natCast, Int.toNat_natCast]
  have hG4 : (c_get td 5 τ 0 = 0 ∧ G 4 = g 4 + 1 ∧ G 5 = g 5 ∧ (ρ : Int) = g 4) ∨ (c_get td 5 τ 0 ≠ 0 ∧ G 4 = g 4 ∧ G 5 = g 5 - 1 ∧ (ρ : Int) = g 5) := by
    rcases hrow with ⟨q, e⟩ | ⟨q, e⟩
    · rw [hag, if_pos q]
      exact Or.inl ⟨q, up_eq, by rw [up_ne (by omega), up_ne (by omega), up_ne (by omega)], e⟩
    · rw [hag, if_neg q]
      exact Or.inr ⟨q, by rw [up_ne (by omega), up_ne (by omega), up_ne (by omega)], up_eq, e⟩
  obtain ⟨w1, w2, w3, w4⟩ := hW
  have hoth : ∀ t : Nat, (t : Int) < ct 5 → t ≠ τ → (c_get td 5 t 0 = 0 ↔ c_get td 5 τ 0 ≠ 0) := by
    intro t ht hne
    have u1 := ((hF.2.1 5 t (by omega) (by omega) (by omega)).2.2.2.2.2.1 rfl).1
    have u2 := ((hF.2.1 5 τ (by omega) (by omega) (by omega)).2.2.2.2.2.1 rfl).1
    have v1 := c_getr hF.2.2.2 5 t 0
    have v2 := c_getr hF.2.2.2 5 τ 0
    have d : c_get td 5 t 0 ≠ c_get td 5 τ 0 := by
      by_cases q : t < τ
      · exact hF.2.2.1 t τ (by omega) (by omega) (by omega)
      · exact fun e => hF.2.2.1 τ t (by omega) (by omega) (by omega) e.symm
    omega
  clear hag hG hrow efa
  refine ⟨fun t k ht hk hc => ?_, fun r h1 h3 => ?_, fun r h1 h3 => ?_, fun r => ?_, fun r o h1 h3 => ?_, fun r k hk hc => ?_, fun r h1 h3 => ?_, fun r h1 h3 => ?_, fun r h1 h3 => ?_, fun t ht => ?_⟩
  · show rwS sk τ w (4 * t + k) = 0
    unfold rwS
    by_cases q : t = τ
    · rw [if_pos (by omega), show 4 * t + k - 4 * τ = k by omega]
      exact w1 k hc hk
    · rw [if_neg (by omega)]
      exact j1 t k ht hk hc
  · show c_get td 5 (rwX (up (up fa (11 * ρ) τ) (11 * ρ + 1) beg) ρ w (11 * r)) 0 = 0 ∧ rwX (up (up fa (11 * ρ) τ) (11 * ρ + 1) beg) ρ w (11 * r) < ct 5
    replace h3 : (r : Int) < G 4 := h3
    by_cases q : r = ρ
    · rw [q, rwX_0]
      exact ⟨by omega, hx5⟩
    · rw [rwX_ne0 q]
      exact j2 r h1 (by omega)
  · show c_get td 5 (rwX (up (up fa (11 * ρ) τ) (11 * ρ + 1) beg) ρ w (11 * r)) 0 ≠ 0 ∧ rwX (up (up fa (11 * ρ) τ) (11 * ρ + 1) beg) ρ w (11 * r) < ct 5
    replace h1 : G 5 < (r : Int) := h1
    by_cases q : r = ρ
    · rw [q, rwX_0]
      exact ⟨by omega, hx5⟩
    · rw [rwX_ne0 q]
      exact j3 r (by omega) h3
  · show rwX (up (up fa (11 * ρ) τ) (11 * ρ + 1) beg) ρ w (11 * r + 6) = rwX (up (up fa (11 * ρ) τ) (11 * ρ + 1) beg) ρ w (11 * r + 7) + rwX (up (up fa (11 * ρ) τ) (11 * ρ + 1) beg) ρ w (11 * r + 8) + rwX (up (up fa (11 * ρ) τ) (11 * ρ + 1) beg) ρ w (11 * r + 9) + rwX (up (up fa (11 * ρ) τ) (11 * ρ + 1) beg) ρ w (11 * r + 10)
    by_cases q : r = ρ
    · rw [q, show 11 * ρ + 6 = 11 * ρ + 2 + 4 by omega, show 11 * ρ + 7 = 11 * ρ + 2 + 5 by omega, show 11 * ρ + 8 = 11 * ρ + 2 + 6 by omega, show 11 * ρ + 9 = 11 * ρ + 2 + 7 by omega, show 11 * ρ + 10 = 11 * ρ + 2 + 8 by omega, rwX_at (by omega), rwX_at (by omega), rwX_at (by omega), rwX_at (by omega), rwX_at (by omega)]
      exact w2
    · rw [rwX_ne q (by omega), rwX_ne q (by omega), rwX_ne q (by omega), rwX_ne q (by omega), rwX_ne q (by omega)]
      exact j4 r
  · show rwX (up (up fa (11 * ρ) τ) (11 * ρ + 1) beg) ρ w (11 * r + o) = 0
    rw [rwX_ne (by omega) h3]
    exact j5 r o h1 h3
  · show rwX (up (up fa (11 * ρ) τ) (11 * ρ + 1) beg) ρ w (11 * r + 7 + k) = 0
    by_cases q : r = ρ
    · rw [q, show 11 * ρ + 7 + k = 11 * ρ + 2 + (5 + k) by omega, rwX_at (by omega)]
      exact w3 k hc hk
    · rw [show 11 * r + 7 + k = 11 * r + (7 + k) by omega, rwX_ne q (by omega), ← Nat.add_assoc]
      exact j6 r k hk hc
  · show rwX (up (up fa (11 * ρ) τ) (11 * ρ + 1) beg) ρ w (11 * r + 1) ≤ rwX (up (up fa (11 * ρ) τ) (11 * ρ + 1) beg) ρ w (11 * r + 2)
    replace h3 : (r : Int) < G 4 ∨ (G 5 < r ∧ (r : Int) ≤ c_rows ct td) := h3
    by_cases q : r = ρ
    · rw [q, rwX_1, rwX_2]
      exact w4
    · rw [rwX_ne q (by omega), rwX_ne q (by omega)]
      exact j7 r h1 (by omega)
  · show rwX (up (up fa (11 * ρ) τ) (11 * ρ + 1) beg) ρ w (11 * r + 2) ≤ rwX (up (up fa (11 * ρ) τ) (11 * ρ + 1) beg) ρ w (11 * (r + 1) + 1)
    replace h3 : (r : Int) + 1 < G 4 := h3
    rw [rwX_ne (by omega) (by omega)]
    by_cases q : r + 1 = ρ
    · rw [q, rwX_1]
      have e := (j10 τ hx5).1 (by omega) (by omega)
      rw [show (g 4 - 1).toNat = r by omega] at e
      omega
    · rw [rwX_ne q (by omega)]
      exact j8 r h1 (by omega)
  · show rwX (up (up fa (11 * ρ) τ) (11 * ρ + 1) beg) ρ w (11 * (r + 1) + 2) ≤ rwX (up (up fa (11 * ρ) τ) (11 * ρ + 1) beg) ρ w (11 * r + 1)
    replace h1 : G 5 < (r : Int) := h1
    rw [rwX_ne (r := r + 1) (by omega) (by omega)]
    by_cases q : r = ρ
    · rw [q, rwX_1]
      have e := (j10 τ hx5).2.1 (by omega) (by omega)
      rw [show (g 5 + 1).toNat = r + 1 by omega, q] at e
      omega
    · rw [rwX_ne q (by omega)]
      exact j9 r (by omega) h3
  · show (c_get td 5 t 0 = 0 → 1 < G 4 → up sp τ (w 0) t = rwX (up (up fa (11 * ρ) τ) (11 * ρ + 1) beg) ρ w (11 * (G 4 - 1).toNat + 2)) ∧ (c_get td 5 t 0 ≠ 0 → G 5 < c_rows ct td → up sp τ (w 0) t = rwX (up (up fa (11 * ρ) τ) (11 * ρ + 1) beg) ρ w (11 * (G 5 + 1).toNat + 2)) ∧ (c_get td 5 t 0 = 0 → G 4 ≤ 1 → up sp τ (w 0) t = 0) ∧ (c_get td 5 t 0 ≠ 0 → c_rows ct td ≤ G 5 → up sp τ (w 0) t = 0)
    obtain ⟨k1, k2, k3, k4⟩ := j10 t ht
    by_cases q : t = τ
    · rw [q, up_eq]
      refine ⟨fun a b => ?_, fun a b => ?_, fun a b => by omega, fun a b => by omega⟩
      · rw [show (G 4 - 1).toNat = ρ by omega, rwX_2]
      · rw [show (G 5 + 1).toNat = ρ by omega, rwX_2]
    · rw [up_ne q]
      have ho := hoth t ht q
      refine ⟨fun a b => ?_, fun a b => ?_, fun a b => ?_, fun a b => ?_⟩
      · rw [rwX_ne (by omega) (by omega), show (G 4 - 1).toNat = (g 4 - 1).toNat by omega]
        exact k1 a (by omega)
      · rw [rwX_ne (by omega) (by omega), show (G 5 + 1).toNat = (g 5 + 1).toNat by omega]
        exact k2 a (by omega)
      · exact k3 a (by omega)
      · exact k4 a (by omega)
