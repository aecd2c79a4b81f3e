/-! 38: Run: a row as it is served -/
/-- w: 0 its end so far, 1 NO CHOICE, 2 NOTHING, 3 COLD, 4 trays, 5 .. 8 trays by kinds, 9 .. 12 what is left, 13 SEED, from 14 on who got his kind -/
def rwX (fa : Nat → Int) (ρ : Nat) (w : Nat → Int) : Nat → Int := fun j => if 11 * ρ + 2 ≤ j ∧ j < 11 * ρ + 11 then w (j - (11 * ρ + 2)) else fa j
def rwS (sk : Nat → Int) (τ : Nat) (w : Nat → Int) : Nat → Int := fun j => if 4 * τ ≤ j ∧ j < 4 * τ + 4 then w (9 + (j - 4 * τ)) else sk j
def gtX (w : Nat → Int) : Nat → Int := fun j => w (14 + j)
theorem rwX_up {fa w : Nat → Int} {ρ o : Nat} {x : Int} (h : o < 9) : up (rwX fa ρ w) (11 * ρ + 2 + o) x = rwX fa ρ (up w o x) := by
  funext j
  unfold up rwX
  dsimp only
  by_cases q : j = 11 * ρ + 2 + o
  · rw [if_pos q, if_pos (by omega), if_pos (by omega)]
  · rw [if_neg q]
    by_cases q2 : 11 * ρ + 2 ≤ j ∧ j < 11 * ρ + 11
    · rw [if_pos q2, if_pos q2, if_neg (by omega)]
    · rw [if_neg q2, if_neg q2]
theorem rwX_at {fa w : Nat → Int} {ρ o : Nat} (h : o < 9) : rwX fa ρ w (11 * ρ + 2 + o) = w o := by
  unfold rwX
  rw [if_pos (by omega), show 11 * ρ + 2 + o - (11 * ρ + 2) = o by omega]
theorem rwX_o {fa w : Nat → Int} {ρ o : Nat} {x : Int} (h : 9 ≤ o) : rwX fa ρ (up w o x) = rwX fa ρ w := by
  funext j
  unfold rwX
  split
  · exact up_ne (by omega)
  · rfl
theorem rwS_up {sk w : Nat → Int} {τ k : Nat} {x : Int} (h : k < 4) : up (rwS sk τ w) (4 * τ + k) x = rwS sk τ (up w (9 + k) x) := by
  funext j
  unfold up rwS
  dsimp only
  by_cases q : j = 4 * τ + k
  · rw [if_pos q, if_pos (by omega), if_pos (by omega)]
  · rw [if_neg q]
    by_cases q2 : 4 * τ ≤ j ∧ j < 4 * τ + 4
    · rw [if_pos q2, if_pos q2, if_neg (by omega)]
    · rw [if_neg q2, if_neg q2]
theorem rwS_at {sk w : Nat → Int} {τ k : Nat} (h : k < 4) : rwS sk τ w (4 * τ + k) = w (9 + k) := by
  unfold rwS
  rw [if_pos (by omega), show 4 * τ + k - 4 * τ = k by omega]
theorem rwS_o {sk w : Nat → Int} {τ o : Nat} {x : Int} (h : o < 9 ∨ 13 ≤ o) : rwS sk τ (up w o x) = rwS sk τ w := by
  funext j
  unfold rwS
  split
  · exact up_ne (by omega)
  · rfl
theorem gtX_up {w : Nat → Int} {o : Nat} {x : Int} : up (gtX w) o x = gtX (up w (14 + o) x) := by
  funext j
  unfold up gtX
  dsimp only
  by_cases q : j = o
  · rw [if_pos q, if_pos (by omega)]
  · rw [if_neg q, if_neg (by omega)]
theorem gtX_o {w : Nat → Int} {o : Nat} {x : Int} (h : o < 14) : gtX (up w o x) = gtX w := by
  funext j
  unfold gtX
  exact up_ne (by omega)
def RWp (M : jdM) (n r : Nat) (g sp sk fa : Nat → Int) (ρ τ : Nat) (w : Nat → Int) : Prop := Rn M n r (up g 7 (w 13)) sp (rwS sk τ w) (rwX fa ρ w) (gtX w) ∧ fa (11 * ρ) = (τ : Int) ∧ ρ ≤ 40 ∧ τ ≤ 1
/-- a tray of a kind is handed -/
def hd1 (k : Nat) (w : Nat → Int) : Nat → Int := up w (9 + k) (w (9 + k) - 1)
def hd2 (k : Nat) (x : Int) (w : Nat → Int) : Nat → Int := up (hd1 k w) 0 (hd1 k w 0 + x)
def hd3 (k : Nat) (x : Int) (w : Nat → Int) : Nat → Int := up (hd2 k x w) 4 (hd2 k x w 4 + 1)
def hd4 (k : Nat) (x : Int) (w : Nat → Int) : Nat → Int := up (hd3 k x w) (5 + k) (hd3 k x w (5 + k) + 1)
theorem hd4_0 {k : Nat} {x : Int} {w : Nat → Int} : hd4 k x w 0 = w 0 + x := by
  unfold hd4
  rw [up_ne (by omega)]
  unfold hd3
  rw [up_ne (by omega)]
  unfold hd2
  rw [up_eq]
  unfold hd1
  rw [up_ne (by omega)]
theorem hd4_hi {k j : Nat} {x : Int} {w : Nat → Int} (hj : 9 ≤ j) (hk : k < 4) : hd4 k x w j = if j = 9 + k then w (9 + k) - 1 else w j := by
  unfold hd4
  rw [up_ne (by omega)]
  unfold hd3
  rw [up_ne (by omega)]
  unfold hd2
  rw [up_ne (by omega)]
  rfl
def hdW (ct td : Nat → Int) (k : Nat) (w : Nat → Int) : Nat → Int := if c_deg ct td k ((w 0 + c_get td 0 0 2) / 60) < c_get td 1 0 0 then up (hd4 k (c_get td 0 0 2) w) 3 (hd4 k (c_get td 0 0 2) w 3 + 1) else hd4 k (c_get td 0 0 2) w
def WB (w : Nat → Int) (B : Int) : Prop := (0 ≤ w 0 ∧ w 0 ≤ B) ∧ (∀ k, k < 4 → 0 ≤ w (9 + k) ∧ w (9 + k) ≤ 9999) ∧ 0 ≤ w 13 ∧ w 13 ≤ 65536
theorem hdW_0 {ct td w : Nat → Int} {k : Nat} : hdW ct td k w 0 = w 0 + c_get td 0 0 2 := by
  unfold hdW
  split
  · rw [up_ne (by omega)]; exact hd4_0
  · exact hd4_0
theorem hdW_hi {ct td w : Nat → Int} {k j : Nat} (hj : 9 ≤ j) (hk : k < 4) : hdW ct td k w j = if j = 9 + k then w (9 + k) - 1 else w j := by
  unfold hdW
  split
  · rw [up_ne (by omega)]; exact hd4_hi hj hk
  · exact hd4_hi hj hk
theorem WB_hd {ct td w : Nat → Int} {k : Nat} {B : Int} (h : WB w B) (hk : k < 4) (hp : 0 < w (9 + k)) (rB : ∀ j, 0 ≤ td j ∧ td j ≤ 999) : WB (hdW ct td k w) (B + 999) := by
  obtain ⟨h1, h2, h3⟩ := h
  have r := c_getr rB 0 0 2
  refine ⟨by rw [hdW_0]; omega, fun j hj => ?_, by rw [hdW_hi (by omega) hk, if_neg (by omega)]; exact h3⟩
  have := h2 j hj
  rw [hdW_hi (by omega) hk]
  by_cases q : 9 + j = 9 + k
  · rw [if_pos q]
    rw [q] at this
    omega
  · rw [if_neg q]; exact this
theorem WB_up {w : Nat → Int} {B x : Int} {o : Nat} (h : WB w B) (ho : (1 ≤ o ∧ o < 9) ∨ 14 ≤ o) : WB (up w o x) B := by
  obtain ⟨h1, h2, h3⟩ := h
  refine ⟨by rw [up_ne (by omega)]; exact h1, fun j hj => by rw [up_ne (by omega)]; exact h2 j hj, by rw [up_ne (by omega)]; exact h3⟩
theorem WB_13 {w : Nat → Int} {B x : Int} (h : WB w B) (hx : 0 ≤ x ∧ x ≤ 65536) : WB (up w 13 x) B := by
  obtain ⟨h1, h2, h3⟩ := h
  refine ⟨by rw [up_ne (by omega)]; exact h1, fun j hj => by rw [up_ne (by omega)]; exact h2 j hj, by rw [up_eq]; exact hx⟩
theorem WB_mo {w : Nat → Int} {B C : Int} (h : WB w B) (hc : B ≤ C) : WB w C := ⟨⟨h.1.1, by have := h.1.2; omega⟩, h.2⟩
theorem RWp_fa {M M1 : jdM} {n r : Nat} {g sp sk fa w : Nat → Int} {ρ τ o : Nat} {x : Int} (h : RWp M n r g sp sk fa ρ τ w) (ho : o < 9) (h1 : Rn M1 n r (up g 7 (w 13)) sp (rwS sk τ w) (up (rwX fa ρ w) (11 * ρ + 2 + o) x) (gtX w)) : RWp M1 n r g sp sk fa ρ τ (up w o x) := by
  obtain ⟨-, a1, a2, a3⟩ := h
  refine ⟨?_, a1, a2, a3⟩
  rw [up_ne (by omega), rwS_o (Or.inl ho), gtX_o (by omega), ← rwX_up ho]
  exact h1
theorem RWp_sk {M M1 : jdM} {n r : Nat} {g sp sk fa w : Nat → Int} {ρ τ k : Nat} {x : Int} (h : RWp M n r g sp sk fa ρ τ w) (ho : k < 4) (h1 : Rn M1 n r (up g 7 (w 13)) sp (up (rwS sk τ w) (4 * τ + k) x) (rwX fa ρ w) (gtX w)) : RWp M1 n r g sp sk fa ρ τ (up w (9 + k) x) := by
  obtain ⟨-, a1, a2, a3⟩ := h
  refine ⟨?_, a1, a2, a3⟩
  rw [up_ne (by omega), rwX_o (by omega), gtX_o (by omega), ← rwS_up ho]
  exact h1
theorem RWp_go {M M1 : jdM} {n r : Nat} {g sp sk fa w : Nat → Int} {ρ τ k : Nat} {x : Int} (h : RWp M n r g sp sk fa ρ τ w) (h1 : Rn M1 n r (up g 7 (w 13)) sp (rwS sk τ w) (rwX fa ρ w) (up (gtX w) k x)) : RWp M1 n r g sp sk fa ρ τ (up w (14 + k) x) := by
  obtain ⟨-, a1, a2, a3⟩ := h
  refine ⟨?_, a1, a2, a3⟩
  rw [up_ne (by omega), rwX_o (by omega), rwS_o (Or.inr (by omega)), ← gtX_up]
  exact h1
theorem RWp_13 {M M1 : jdM} {n r : Nat} {g sp sk fa w : Nat → Int} {ρ τ : Nat} {x : Int} (h : RWp M n r g sp sk fa ρ τ w) (h1 : Rn M1 n r (up (up g 7 (w 13)) 7 x) sp (rwS sk τ w) (rwX fa ρ w) (gtX w)) : RWp M1 n r g sp sk fa ρ τ (up w 13 x) := by
  obtain ⟨-, a1, a2, a3⟩ := h
  refine ⟨?_, a1, a2, a3⟩
  rw [up_up] at h1
  rw [up_eq, rwX_o (by omega), rwS_o (Or.inr (by omega)), gtX_o (by omega)]
  exact h1
theorem cf_by {fa w : Nat → Int} {ρ : Nat} (h : ρ ≤ 40) : c_fact (rwX fa ρ w) (ρ : Int) 0 = fa (11 * ρ) := by
  unfold c_fact rwX
  rw [if_pos (by omega), show ((ρ : Int) * 11 + 0).toNat = 11 * ρ by omega, if_neg (by omega)]
theorem cf_w {fa w : Nat → Int} {ρ : Nat} {o : Int} (h : ρ ≤ 40) (ho : 2 ≤ o ∧ o < 11) : c_fact (rwX fa ρ w) (ρ : Int) o = w (o - 2).toNat := by
  unfold c_fact rwX
  rw [if_pos (by omega), if_pos (by omega), show ((ρ : Int) * 11 + o).toNat - (11 * ρ + 2) = (o - 2).toNat by omega]
theorem cl_w {sk w : Nat → Int} {τ : Nat} {k : Int} (h : τ ≤ 1) (hk : 0 ≤ k ∧ k < 4) : c_left (rwS sk τ w) (τ : Int) k = w (9 + k.toNat) := by
  unfold c_left rwS
  rw [if_pos (by omega), if_pos (by omega), show ((τ : Int) * 4 + k).toNat - 4 * τ = k.toNat by omega]
/-- the kind of which there is most, by what is left of each -/
def mostF (L : Int → Int) : Int := foldZ (fun a k => if (if a = -1 then 0 else L a) < L k then k else a) (-1) 4
theorem mostF_r {L : Int → Int} : ∀ {k : Nat}, -1 ≤ foldZ (fun a k => if (if a = -1 then 0 else L a) < L k then k else a) (-1) k ∧ foldZ (fun a k => if (if a = -1 then 0 else L a) < L k then k else a) (-1) k < k
  | 0 => by simp [foldZ]
  | k + 1 => by
    have h := mostF_r (L := L) (k := k)
    rw [foldZ]
    by_cases q : (if foldZ (fun a k => if (if a = -1 then 0 else L a) < L k then k else a) (-1) k = -1 then 0 else L (foldZ (fun a k => if (if a = -1 then 0 else L a) < L k then k else a) (-1) k)) < L k
    · rw [if_pos q]; omega
    · rw [if_neg q]; omega
theorem mostF_c0 {L L' : Int → Int} : ∀ {k : Nat}, (∀ i : Int, 0 ≤ i → i < k → L i = L' i) → foldZ (fun a k => if (if a = -1 then 0 else L a) < L k then k else a) (-1) k = foldZ (fun a k => if (if a = -1 then 0 else L' a) < L' k then k else a) (-1) k
  | 0, _ => rfl
  | k + 1, h => by
    have e := mostF_c0 (k := k) (fun i a b => h i a (by omega))
    have r := mostF_r (L := L') (k := k)
    rw [foldZ, foldZ, e]
    generalize foldZ (fun a k => if (if a = -1 then 0 else L' a) < L' k then k else a) (-1) k = z at r
    rw [h k (by omega) (by omega)]
    by_cases q : z = -1
    · rw [if_pos q, if_pos q]
    · rw [if_neg q, if_neg q, h z (by omega) (by omega)]
theorem mostF_c {L L' : Int → Int} (h : ∀ i : Int, 0 ≤ i → i < 4 → L i = L' i) : mostF L = mostF L' := mostF_c0 h
theorem mostF_b {L : Int → Int} : -1 ≤ mostF L ∧ mostF L < 4 := mostF_r
theorem mostF_p {L : Int → Int} : ∀ {k : Nat}, foldZ (fun a k => if (if a = -1 then 0 else L a) < L k then k else a) (-1) k ≠ -1 → 0 < L (foldZ (fun a k => if (if a = -1 then 0 else L a) < L k then k else a) (-1) k)
  | 0, h => absurd rfl h
  | k + 1, h => by
    have ih := mostF_p (L := L) (k := k)
    rw [foldZ] at h ⊢
    generalize foldZ (fun a k => if (if a = -1 then 0 else L a) < L k then k else a) (-1) k = z at h ih
    by_cases q : (if z = -1 then 0 else L z) < L k
    · rw [if_pos q]
      by_cases q2 : z = -1
      · rw [if_pos q2] at q; exact q
      · rw [if_neg q2] at q
        have := ih q2
        omega
    · rw [if_neg q] at h ⊢
      exact ih h
def nm1 (ct td : Nat → Int) (ρ : Nat) (c : Int) (w : Nat → Int) (i : Int) : Nat → Int :=
  if c_get td 8 i 0 = ρ ∧ c_get td 8 i 2 = c then (if 0 < w (9 + (c_get td 8 i 1).toNat) then up (hdW ct td (c_get td 8 i 1).toNat w) (14 + i.toNat) 1 else up w 2 (w 2 + 1)) else w
def nmW (ct td : Nat → Int) (ρ : Nat) (c : Int) (w : Nat → Int) : Nat → Int := foldS (nm1 ct td ρ c) w (ct 8).toNat
def ot1 (ct td bk : Nat → Int) (ρ : Nat) (w : Nat → Int) (_ : Int) : Nat → Int :=
  (fun (w1 : Nat → Int) (lk : Int) => (fun kd : Int => if kd = -1 then up w1 2 (w1 2 + 1) else hdW ct td kd.toNat (up w1 1 (w1 1 + if kd = lk then 0 else 1))) (if 0 < w1 (9 + lk.toNat) then lk else mostF (fun k => w1 (9 + k.toNat))))
    (up w 13 ((75 * w 13 + 74) % 65537)) (c_liked td bk ρ ((75 * w 13 + 74) % 65537 % max 1 (c_weights td bk ρ)))
def otW (ct td bk si : Nat → Int) (ρ : Nat) (w : Nat → Int) : Nat → Int := foldS (ot1 ct td bk ρ) w (c_unn ct td si ρ).toNat
set_option maxHeartbeats 1000000 in
set_option maxRecDepth 20000 in
theorem s_X3_hand {l : Launch} {n : Nat} {M : jdM} {r : Nat} {g sp sk fa w : Nat → Int} {ρ τ : Nat} (hW : RWp M n r g sp sk fa ρ τ w) {f : Nat} {ct td bk si ld : Nat → Int} (hF : Fl M n f ct td bk si ld) (hsep : f + 5 < r ∨ r + 4 < f) {k : Nat} (hk : k < 4) (h0 : 0 ≤ w 0 ∧ w 0 ≤ 5900000) : Ct l yX3_hand cX3_hand 5 none rX3_hand [.ref r, .ref f, jI (ρ : Int), jI (k : Int)] n M (fun vv n' M' => (vv = none ∧ n = n') ∧ RWp M' n r g sp sk fa ρ τ (hdW ct td k w) ∧ fr (RnS r) M M') := by
  refine Ct_of [some (.ref r), some (.ref f), some (jI (ρ : Int)), some (jI (k : Int)), none] (by decide) (Nat.le_of_ble_eq_true rfl) rfl (fun κ hl h hR hRt hmn hn0 => ?_)
  have h : Ok κ RX3 cX3_hand 5 none := h
  obtain ⟨R1, hby0, hρ, hτ⟩ := id hW
  obtain ⟨hn, hO, hA, hB, hC, hD⟩ := id R1
  obtain ⟨hnF, hOF, hAF, hBF, hCF, hDF, hEF, rA, rB, r0, rC, rD, rE⟩ := id hF
  have f1 : fr (RnS r) M M := fr_rf
  have sv := c_getr rB 0 0 2
  refine jr_aload_n (pc := 0) h dX3_hand_0 rfl ?_
  refine jr_iload_n (pc := 1) h dX3_hand_1 rfl ?_
  refine jr_iconst (pc := 2) h dX3_hand_2 ?_
  refine iv_X3_59 (pc := 3) h hl hR dX3_hand_3 ⟨(Nat.le_of_ble_eq_true rfl), (Nat.le_of_ble_eq_true rfl), (Nat.le_of_ble_eq_true rfl), (Nat.le_of_ble_eq_true rfl)⟩ (Nat.le_of_ble_eq_true rfl) (by assumption) (by omega) (s_X3_fact R1 (by omega) (by omega)) (fun v_3 n_3 M_3 hn_3 hp => ?_)
  obtain ⟨rfl, rfl, rfl⟩ := hp
  rw [cf_by hρ, hby0]
  refine jr_iconst (pc := 6) h dX3_hand_6 ?_
  refine jr_imul (pc := 7) h dX3_hand_7 ?_
  refine jr_iload_n (pc := 8) h dX3_hand_8 rfl ?_
  refine jr_iadd (pc := 9) h dX3_hand_9 ?_
  refine jr_istore (pc := 10) h [_, _, _, _, _] dX3_hand_10 (by decide) rfl ?_
  refine jr_iload (pc := 12) h dX3_hand_12 rfl ?_
  refine jr_if_lt (pc := 14) h 38 dX3_hand_14 (by decide) (by omega) (fun c => absurd c (by omega)) (fun _ => ?_)
  refine jr_iload (pc := 17) h dX3_hand_17 rfl ?_
  refine jr_aload_n (pc := 19) h dX3_hand_19 rfl ?_
  refine gf_X3_15 (pc := 20) h dX3_hand_20 (by assumption) (by omega) ?_
  refine jr_alen (pc := 23) h dX3_hand_23 (by assumption) (by omega) ?_
  refine jr_icmp_ge (pc := 24) h 38 dX3_hand_24 (by decide) (by omega) (by omega) (fun c => absurd c (by omega)) (fun _ => ?_)
  refine jr_aload_n (pc := 27) h dX3_hand_27 rfl ?_
  refine gf_X3_15 (pc := 28) h dX3_hand_28 (by assumption) (by omega) ?_
  refine jr_iload (pc := 31) h dX3_hand_31 rfl ?_
  refine jr_dup2 (pc := 33) h dX3_hand_33 rfl rfl ?_
  refine jr_iald (pc := 34) h dX3_hand_34 (by assumption) (by omega) (by omega) ?_
  refine jr_iconst (pc := 35) h dX3_hand_35 ?_
  refine jr_isub (pc := 36) h dX3_hand_36 ?_
  have ecl : ((τ : Int) * 4 + (k : Int)).toNat = 4 * τ + k := by omega
  refine jr_iast (pc := 37) h dX3_hand_37 (by assumption) (by omega) (by omega) ?_
  refine jm_gen (fun M2 hM2 => ?_)
  rw [ecl, rwS_at hk] at hM2
  have R9 := Rn_sk R1 hM2
  have hW : RWp _ n r g sp sk fa ρ τ (hd1 k w) := RWp_sk hW hk R9
  have f9 : fr (RnS r) M M2 := fr_up hM2 ⟨by omega, by omega⟩
  have hF := Fl_fr hF f9 (Nat.le_refl _) (fun k h1 h2 q => by have := q.1; have := q.2; omega)
  have f1 := fr_tr f1 f9
  obtain ⟨hnF, hOF, hAF, hBF, -⟩ := id hF
  obtain ⟨R1, hby0, hρ, hτ⟩ := id hW
  obtain ⟨hn, hO, hA, hB, hC, hD⟩ := id R1
  refine jr_aload_n (pc := 38) h dX3_hand_38 rfl ?_
  refine jr_iload_n (pc := 39) h dX3_hand_39 rfl ?_
  refine jr_iconst (pc := 40) h dX3_hand_40 ?_
  refine jr_aload_n (pc := 41) h dX3_hand_41 rfl ?_
  refine iv_X3_123 (pc := 42) h hl hR dX3_hand_42 ⟨(Nat.le_of_ble_eq_true rfl), (Nat.le_of_ble_eq_true rfl), (Nat.le_of_ble_eq_true rfl), (Nat.le_of_ble_eq_true rfl)⟩ (Nat.le_of_ble_eq_true rfl) (by assumption) (by omega) (s_X1_serve hF) (fun v_42 n_42 M_42 hn_42 hp => ?_)
  obtain ⟨⟨rfl, rfl, rfl⟩, gr_42⟩ := hp
  refine iv_X3_77 (pc := 45) h hl hR dX3_hand_45 ⟨(Nat.le_of_ble_eq_true rfl), (Nat.le_of_ble_eq_true rfl), (Nat.le_of_ble_eq_true rfl), (Nat.le_of_ble_eq_true rfl)⟩ (Nat.le_of_ble_eq_true rfl) (by assumption) (by omega) (s_X3_addFact R1 (by omega) (by omega)) (fun v_45 n_45 M_45 hn_45 hp => ?_)
  obtain ⟨rfl, rfl, R9, f9⟩ := hp
  rw [show ((ρ : Int) * 11 + 2).toNat = 11 * ρ + 2 + 0 by omega, rwX_at (by omega)] at R9
  have hW : RWp _ n r g sp sk fa ρ τ (hd2 k (c_get td 0 0 2) w) := RWp_fa hW (by omega) R9
  have hF := Fl_fr hF f9 (Nat.le_refl _) (fun k h1 h2 q => by have := q.1; have := q.2; omega)
  have f1 := fr_tr f1 f9
  obtain ⟨hnF, hOF, hAF, hBF, -⟩ := id hF
  obtain ⟨R1, hby0, hρ, hτ⟩ := id hW
  obtain ⟨hn, hO, hA, hB, hC, hD⟩ := id R1
  refine jr_aload_n (pc := 48) h dX3_hand_48 rfl ?_
  refine jr_iload_n (pc := 49) h dX3_hand_49 rfl ?_
  refine jr_bipush (pc := 50) h dX3_hand_50 bp_6 ?_
  refine jr_iconst (pc := 52) h dX3_hand_52 ?_
  refine iv_X3_77 (pc := 53) h hl hR dX3_hand_53 ⟨(Nat.le_of_ble_eq_true rfl), (Nat.le_of_ble_eq_true rfl), (Nat.le_of_ble_eq_true rfl), (Nat.le_of_ble_eq_true rfl)⟩ (Nat.le_of_ble_eq_true rfl) (by assumption) (by omega) (s_X3_addFact R1 (by omega) (by omega)) (fun v_53 n_53 M_53 hn_53 hp => ?_)
  obtain ⟨rfl, rfl, R9, f9⟩ := hp
  rw [show ((ρ : Int) * 11 + 6).toNat = 11 * ρ + 2 + 4 by omega, rwX_at (by omega)] at R9
  have hW : RWp _ n r g sp sk fa ρ τ (hd3 k (c_get td 0 0 2) w) := RWp_fa hW (by omega) R9
  have hF := Fl_fr hF f9 (Nat.le_refl _) (fun k h1 h2 q => by have := q.1; have := q.2; omega)
  have f1 := fr_tr f1 f9
  obtain ⟨hnF, hOF, hAF, hBF, -⟩ := id hF
  obtain ⟨R1, hby0, hρ, hτ⟩ := id hW
  obtain ⟨hn, hO, hA, hB, hC, hD⟩ := id R1
  refine jr_aload_n (pc := 56) h dX3_hand_56 rfl ?_
  refine jr_iload_n (pc := 57) h dX3_hand_57 rfl ?_
  refine jr_bipush (pc := 58) h dX3_hand_58 bp_7 ?_
  refine jr_iload_n (pc := 60) h dX3_hand_60 rfl ?_
  refine jr_iadd (pc := 61) h dX3_hand_61 ?_
  refine jr_iconst (pc := 62) h dX3_hand_62 ?_
  refine iv_X3_77 (pc := 63) h hl hR dX3_hand_63 ⟨(Nat.le_of_ble_eq_true rfl), (Nat.le_of_ble_eq_true rfl), (Nat.le_of_ble_eq_true rfl), (Nat.le_of_ble_eq_true rfl)⟩ (Nat.le_of_ble_eq_true rfl) (by assumption) (by omega) (s_X3_addFact R1 (by omega) (by omega)) (fun v_63 n_63 M_63 hn_63 hp => ?_)
  obtain ⟨rfl, rfl, R9, f9⟩ := hp
  rw [show ((ρ : Int) * 11 + (7 + (k : Int))).toNat = 11 * ρ + 2 + (5 + k) by omega, rwX_at (by omega)] at R9
  have hW : RWp _ n r g sp sk fa ρ τ (hd4 k (c_get td 0 0 2) w) := RWp_fa hW (by omega) R9
  have hF := Fl_fr hF f9 (Nat.le_refl _) (fun k h1 h2 q => by have := q.1; have := q.2; omega)
  have f1 := fr_tr f1 f9
  obtain ⟨hnF, hOF, hAF, hBF, -⟩ := id hF
  obtain ⟨R1, hby0, hρ, hτ⟩ := id hW
  obtain ⟨hn, hO, hA, hB, hC, hD⟩ := id R1
  refine jr_aload_n (pc := 66) h dX3_hand_66 rfl ?_
  refine jr_iload_n (pc := 67) h dX3_hand_67 rfl ?_
  refine jr_aload_n (pc := 68) h dX3_hand_68 rfl ?_
  refine jr_iload_n (pc := 69) h dX3_hand_69 rfl ?_
  refine jr_iconst (pc := 70) h dX3_hand_70 ?_
  refine iv_X3_59 (pc := 71) h hl hR dX3_hand_71 ⟨(Nat.le_of_ble_eq_true rfl), (Nat.le_of_ble_eq_true rfl), (Nat.le_of_ble_eq_true rfl), (Nat.le_of_ble_eq_true rfl)⟩ (Nat.le_of_ble_eq_true rfl) (by assumption) (by omega) (s_X3_fact R1 (by omega) (by omega)) (fun v_71 n_71 M_71 hn_71 hp => ?_)
  obtain ⟨rfl, rfl, rfl⟩ := hp
  rw [cf_w hρ (by omega), show Int.toNat (2 - 2) = 0 from rfl, hd4_0]
  refine jr_bipush (pc := 74) h dX3_hand_74 bp_60 ?_
  refine jr_idivp (pc := 76) h dX3_hand_76 (by omega) (by omega) ?_
  refine iv_X3_126 (pc := 77) h hl hR dX3_hand_77 ⟨(Nat.le_of_ble_eq_true rfl), (Nat.le_of_ble_eq_true rfl), (Nat.le_of_ble_eq_true rfl), (Nat.le_of_ble_eq_true rfl)⟩ (Nat.le_of_ble_eq_true rfl) (by assumption) (by omega) (s_X1_isCold hF (by omega) (by omega)) (fun v_77 n_77 M_77 hn_77 hp => ?_)
  obtain ⟨⟨rfl, rfl, rfl⟩, gr_77⟩ := hp
  refine jr_if_eq (pc := 80) h 90 dX3_hand_80 (by decide) (by omega) (fun c_80 => ?_) (fun c_80 => ?_)
  · skip
    refine jr_vret (pc := 90) h hRt dX3_hand_90 (Nat.le_of_ble_eq_true rfl) (Nat.le_of_ble_eq_true rfl) ?_
    refine ⟨⟨rfl, rfl⟩, ?_, f1⟩
    unfold hdW
    first
    | (rw [if_pos (bz_1.mp c_80)]; exact hW)
    | (rw [if_neg (bz_0.mp c_80)]; exact hW)
  · skip
    refine jr_aload_n (pc := 83) h dX3_hand_83 rfl ?_
    refine jr_iload_n (pc := 84) h dX3_hand_84 rfl ?_
    refine jr_iconst (pc := 85) h dX3_hand_85 ?_
    refine jr_iconst (pc := 86) h dX3_hand_86 ?_
    refine iv_X3_77 (pc := 87) h hl hR dX3_hand_87 ⟨(Nat.le_of_ble_eq_true rfl), (Nat.le_of_ble_eq_true rfl), (Nat.le_of_ble_eq_true rfl), (Nat.le_of_ble_eq_true rfl)⟩ (Nat.le_of_ble_eq_true rfl) (by assumption) (by omega) (s_X3_addFact R1 (by omega) (by omega)) (fun v_87 n_87 M_87 hn_87 hp => ?_)
    obtain ⟨rfl, rfl, R9, f9⟩ := hp
    rw [show ((ρ : Int) * 11 + 5).toNat = 11 * ρ + 2 + 3 by omega, rwX_at (by omega)] at R9
    have hW : RWp _ n r g sp sk fa ρ τ (up (hd4 k (c_get td 0 0 2) w) 3 (hd4 k (c_get td 0 0 2) w 3 + 1)) := RWp_fa hW (by omega) R9
    have hF := Fl_fr hF f9 (Nat.le_refl _) (fun k h1 h2 q => by have := q.1; have := q.2; omega)
    have f1 := fr_tr f1 f9
    obtain ⟨hnF, hOF, hAF, hBF, -⟩ := id hF
    obtain ⟨R1, hby0, hρ, hτ⟩ := id hW
    obtain ⟨hn, hO, hA, hB, hC, hD⟩ := id R1
    refine jr_vret (pc := 90) h hRt dX3_hand_90 (Nat.le_of_ble_eq_true rfl) (Nat.le_of_ble_eq_true rfl) ?_
    refine ⟨⟨rfl, rfl⟩, ?_, f1⟩
    unfold hdW
    first
    | (rw [if_pos (bz_1.mp c_80)]; exact hW)
    | (rw [if_neg (bz_0.mp c_80)]; exact hW)
