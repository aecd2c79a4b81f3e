/-! 16: Drawers: empty, holdLoad, takeBack -/
theorem ffd_ge {rm : Nat → Int} {sh : Int} : ∀ {d : Nat} {i : Int}, 0 ≤ ffd rm sh i d → sh ≤ rm (ffd rm sh i d).toNat
  | 0, i, h => by simp [ffd] at h
  | d + 1, i, h => by
    rw [ffd] at h ⊢
    split
    · assumption
    · rename_i q
      rw [if_neg q] at h
      exact ffd_ge h
theorem tkS_r {cnt sh : Int} {s : Int × Int × (Nat → Int)} (hs : 0 ≤ sh) (h : ∀ j, 0 ≤ s.2.2 j ∧ s.2.2 j ≤ 999) (i : Int) : ∀ j, 0 ≤ (tkS cnt sh s i).2.2 j ∧ (tkS cnt sh s i).2.2 j ≤ 999 := by
  intro j
  unfold tkS
  split
  · exact h j
  · split
    · exact h j
    · have h1 := ffd_ge (rm := s.2.2) (sh := sh) (i := 0) (d := cnt.toNat) (by omega)
      have h2 := h (ffd s.2.2 sh 0 cnt.toNat).toNat
      show 0 ≤ up s.2.2 _ _ j ∧ up s.2.2 _ _ j ≤ 999
      by_cases q : j = (ffd s.2.2 sh 0 cnt.toNat).toNat
      · rw [q, up_eq]; omega
      · rw [up_ne q]; exact h j
theorem tkS_go {cnt sh : Int} {s : Int × Int × (Nat → Int)} {i : Int} (h : s.1 = 0) (hp : ¬ ffd s.2.2 sh 0 cnt.toNat < 0) : (tkS cnt sh s i).1 = 0 ∧ (tkS cnt sh s i).2.1 = s.2.1 + 1 := by
  unfold tkS
  rw [if_neg (by omega), if_neg hp]
  exact ⟨rfl, rfl⟩
theorem tkS_no {cnt sh : Int} {s : Int × Int × (Nat → Int)} {i : Int} (h : s.1 = 0) (hp : ffd s.2.2 sh 0 cnt.toNat < 0) : tkS cnt sh s i = (1, s.2.1, s.2.2) := by
  unfold tkS
  rw [if_neg (by omega), if_pos hp]
theorem tkS_y {cnt sh : Int} {s : Int × Int × (Nat → Int)} {i : Int} (h : s.1 = 0) (hp : ¬ ffd s.2.2 sh 0 cnt.toNat < 0) : tkS cnt sh s i = (0, s.2.1 + 1, up s.2.2 (ffd s.2.2 sh 0 cnt.toNat).toNat (s.2.2 (ffd s.2.2 sh 0 cnt.toNat).toNat - sh)) := by
  unfold tkS
  rw [if_neg (by omega), if_neg hp]
theorem tkS_3 {cnt sh : Int} {s : Int × Int × (Nat → Int)} {i : Int} (h : s.1 = 0) : (tkS cnt sh s i).2.2 = (tkS cnt sh (0, 0, s.2.2) 0).2.2 := by
  by_cases q : ffd s.2.2 sh 0 cnt.toNat < 0
  · rw [tkS_no h q, tkS_no (s := (0, 0, s.2.2)) rfl q]
  · rw [tkS_y h q, tkS_y (s := (0, 0, s.2.2)) rfl q]
theorem foldS_st {σ : Type} {g : σ → Int → σ} {s : σ} (hs : ∀ i : Int, g s i = s) {k : Nat} : foldS g s k = s := foldS_stop (j := 0) (s1 := s) rfl hs (Nat.zero_le k)
theorem c_loadr {ld : Nat → Int} (r : ∀ j, 0 ≤ ld j ∧ ld j ≤ 9999) (a b : Int) : 0 ≤ c_load ld a b ∧ c_load ld a b ≤ 9999 := by
  unfold c_load
  have := r (a * 4 + b).toNat
  split <;> omega
theorem agr_rf {cnt : Int} {a : Nat → Int} : agr cnt a a := fun _ _ => rfl
def c_cnt (td : Nat → Int) (t : Int) : Int := min 14 (c_get td 5 t 1)
/-- what is loaded goes in, KIND by KIND -/
def c_hl (ct td ld : Nat → Int) (t : Int) : Int × Int × (Nat → Int) := foldS (fun s k => foldS (tkS (c_cnt td t) (c_get td 2 k 0)) s (c_load ld t k).toNat) (0, 0, fun _ => c_get td 5 t 2) (ct 2).toNat
/-- what was handed goes in, ROW by ROW, KIND by KIND -/
def c_tb (ct td fa : Nat → Int) (t : Int) : Int × Int × (Nat → Int) := foldS (fun s r => foldS (fun s k => foldS (tkS (c_cnt td t) (c_get td 2 k 0)) s (c_fact fa (1 + r) (7 + k)).toNat) s (ct 2).toNat) (0, 0, fun _ => c_get td 5 t 2) (c_rows ct td).toNat
set_option maxHeartbeats 1000000 in
set_option maxRecDepth 20000 in
theorem s_X0_empty {l : Launch} {n : Nat} {M : jdM} {d : Nat} {g rm wn be : Nat → Int} (hDr : Dr M n d g rm wn be) {f : Nat} {ct td bk si ld : Nat → Int} (hF : Fl M n f ct td bk si ld) (hsep : f + 5 < d) {a : Int} (ha : -2147483648 ≤ a ∧ a < 2147483648) : Ct l yX0_empty cX0_empty 4 none rX0_empty [.ref d, .ref f, jI a] n M (fun vv n' M' => vv = none ∧ n' = n ∧ ∃ rm', Dr M' n d (up g 1 (c_cnt td a)) rm' wn be ∧ fr (DrS d) M M' ∧ agr (c_cnt td a) rm' (fun _ => c_get td 5 a 2)) := by
  refine Ct_of [some (.ref d), some (.ref f), some (jI a), none] (by decide) (Nat.le_of_ble_eq_true rfl) rfl (fun κ hl h hR hRt hmn hn0 => ?_)
  have h : Ok κ RX0 cX0_empty 4 none := h
  obtain ⟨hnd, hOd, hAd, hBd, hCd⟩ := id hDr
  obtain ⟨hn, hO, hA, hB, hC, hD, hE, rA, rB, r0, rC, rD, rE⟩ := id hF
  have gt := c_getr rB 5 a 1
  have ecnt : c_cnt td a = min 14 (c_get td 5 a 1) := rfl
  have loop : ∀ (dq : Nat) (i : Int) (M1 : jdM) (rm1 : Nat → Int), (0 ≤ i ∧ i ≤ c_cnt td a) → (Dr M1 n d (up g 1 (c_cnt td a)) rm1 wn be) → (fr (DrS d) M M1) → (∀ j : Nat, (j : Int) < i → rm1 j = c_get td 5 a 2) → (20 - i).toNat < dq → J κ 4 0 0 n 18 [some (.ref d), some (.ref f), some (jI a), some (jI i)] [] M1 := by
    intro dq
    induction dq with
    | zero => intro i M1 rm1 hi hD1 hf1 ha1 hd; omega
    | succ dq ih =>
      intro i M1 rm1 hi hD1 hf1 ha1 hd
      have hF1 := Fl_fr hF hf1 (Nat.le_refl _) (fun k h1 h2 h3 => by unfold DrS at h3; omega)
      obtain ⟨hnd, hOd, hAd, hBd, hCd⟩ := id hD1
      obtain ⟨hn, hO, hA, hB, hC, hD, hE, rA, rB, r0, rC, rD, rE⟩ := id hF1
      have eg1 : (up g 1 (c_cnt td a)) 1 = c_cnt td a := up_eq
      have gh := c_getr rB 5 a 2
      refine jr_iload_n (pc := 18) h dX0_empty_18 rfl ?_
      refine jr_aload_n (pc := 19) h dX0_empty_19 rfl ?_
      refine gf_X0_33 (pc := 20) h dX0_empty_20 (by assumption) (by omega) ?_
      refine jr_icmp_ge (pc := 23) h 45 dX0_empty_23 (by decide) (by omega) (by omega) (fun c_23 => ?_) (fun c_23 => ?_)
      · skip
        refine jr_vret (pc := 45) h hRt dX0_empty_45 (Nat.le_of_ble_eq_true rfl) (Nat.le_of_ble_eq_true rfl) ?_
        have e : i = c_cnt td a := by omega
        exact ⟨rfl, rfl, rm1, hD1, hf1, fun j hj => ha1 j (by omega)⟩
      · skip
        refine jr_aload_n (pc := 26) h dX0_empty_26 rfl ?_
        refine gf_X0_9 (pc := 27) h dX0_empty_27 (by assumption) (by omega) ?_
        refine jr_iload_n (pc := 30) h dX0_empty_30 rfl ?_
        refine jr_aload_n (pc := 31) h dX0_empty_31 rfl ?_
        refine jr_iconst (pc := 32) h dX0_empty_32 ?_
        refine jr_iload_n (pc := 33) h dX0_empty_33 rfl ?_
        refine jr_iconst (pc := 34) h dX0_empty_34 ?_
        refine iv_X0_21 (pc := 35) h hl hR dX0_empty_35 ⟨(Nat.le_of_ble_eq_true rfl), (Nat.le_of_ble_eq_true rfl), (Nat.le_of_ble_eq_true rfl), (Nat.le_of_ble_eq_true rfl)⟩ (Nat.le_of_ble_eq_true rfl) (by assumption) (by omega) (s_X1_get hF1 (by omega) (by omega) (by omega)) (fun v_35 n_35 M_35 hn_35 hp => ?_)
        obtain ⟨⟨rfl, rfl, rfl⟩, gr_35⟩ := hp
        refine jr_iast (pc := 38) h dX0_empty_38 (by assumption) (by omega) (by omega) ?_
        refine jm_gen (fun M2 hM2 => ?_)
        refine jr_iinc (pc := 39) h [_, _, _, _] dX0_empty_39 (by decide) rfl rfl ?_
        refine jr_goto (pc := 42) h 18 dX0_empty_42 (by decide) ?_
        refine ih _ M2 _ (by omega) (Dr_rm hD1 hM2) (fr_tr hf1 (fr_up hM2 ⟨by omega, by omega⟩)) ?_ (by omega)
        intro j hj
        by_cases q : j = i.toNat
        · rw [q, up_eq]
        · rw [up_ne q]; exact ha1 j (by omega)
  refine jr_aload_n (pc := 0) h dX0_empty_0 rfl ?_
  refine jr_bipush (pc := 1) h dX0_empty_1 bp_14 ?_
  refine jr_aload_n (pc := 3) h dX0_empty_3 rfl ?_
  refine jr_iconst (pc := 4) h dX0_empty_4 ?_
  refine jr_iload_n (pc := 5) h dX0_empty_5 rfl ?_
  refine jr_iconst (pc := 6) h dX0_empty_6 ?_
  refine iv_X0_21 (pc := 7) h hl hR dX0_empty_7 ⟨(Nat.le_of_ble_eq_true rfl), (Nat.le_of_ble_eq_true rfl), (Nat.le_of_ble_eq_true rfl), (Nat.le_of_ble_eq_true rfl)⟩ (Nat.le_of_ble_eq_true rfl) (by assumption) (by omega) (s_X1_get hF (by omega) (by omega) (by omega)) (fun v_7 n_7 M_7 hn_7 hp => ?_)
  obtain ⟨⟨rfl, rfl, rfl⟩, gr_7⟩ := hp
  refine im_X0_27 (pc := 10) h hR dX0_empty_10 ⟨(Nat.le_of_ble_eq_true rfl), (Nat.le_of_ble_eq_true rfl), (Nat.le_of_ble_eq_true rfl), (Nat.le_of_ble_eq_true rfl)⟩ (by omega) (by omega) ?_
  refine pf_X0_33 (pc := 13) h dX0_empty_13 (by assumption) (by omega) ?_
  refine jm_gen (fun M1 hM1 => ?_)
  refine jr_iconst (pc := 16) h dX0_empty_16 ?_
  refine jr_istore_n (pc := 17) h [_, _, _, _] dX0_empty_17 (by decide) rfl ?_
  rw [← ecnt] at hM1
  exact loop _ _ M1 rm (by omega) (Dr_f1 hDr hM1) (fr_up hM1 ⟨by omega, by omega⟩) (fun j hj => by omega) (Nat.lt_succ_self _)
set_option maxHeartbeats 1000000 in
set_option maxRecDepth 20000 in
theorem s_X0_holdLoad {l : Launch} {n : Nat} {M : jdM} {d : Nat} {g rm wn be : Nat → Int} (hDr : Dr M n d g rm wn be) {f : Nat} {ct td bk si ld : Nat → Int} (hF : Fl M n f ct td bk si ld) (hsep : f + 5 < d) {a : Int} (ha : 0 ≤ a ∧ a ≤ 10) : Ct l yX0_holdLoad cX0_holdLoad 6 (some .boolean) rX0_holdLoad [.ref d, .ref f, jI a] n M (fun vv n' M' => (vv = some (jI (bz ((c_hl ct td ld a).1 = 0))) ∧ n = n') ∧ ∃ g' rm', Dr M' n d g' rm' wn be ∧ fr (DrS d) M M') := by
  refine Ct_of [some (.ref d), some (.ref f), some (jI a), none, none, none] (by decide) (Nat.le_of_ble_eq_true rfl) rfl (fun κ hl h hR hRt hmn hn0 => ?_)
  have h : Ok κ RX0 cX0_holdLoad 6 (some .boolean) := h
  obtain ⟨hnd, hOd, hAd, hBd, hCd⟩ := id hDr
  obtain ⟨hn, hO, hA, hB, hC, hD, hE, rA, rB, r0, rC, rD, rE⟩ := id hF
  have ec : c_count ct 2 = ct 2 := by unfold c_count; rw [if_pos (by omega)]; rfl
  have a2 := rA 2
  have gh := c_getr rB 5 a 2
  have ecnt : c_cnt td a = min 14 (c_get td 5 a 1) := rfl
  have gt := c_getr rB 5 a 1
  have loop : ∀ (dq : Nat) (k : Int) (u : Option Value) (u1 : Option Value) (M1 : jdM) (rm1 : Nat → Int), (0 ≤ k ∧ k ≤ ct 2) → (Dr M1 n d (up g 1 (c_cnt td a)) rm1 wn be) → (fr (DrS d) M M1) → ((foldS (fun s k => foldS (tkS (c_cnt td a) (c_get td 2 k 0)) s (c_load ld a k).toNat) (0, 0, fun _ => c_get td 5 a 2) k.toNat).1 = 0) → (agr (c_cnt td a) rm1 (foldS (fun s k => foldS (tkS (c_cnt td a) (c_get td 2 k 0)) s (c_load ld a k).toNat) (0, 0, fun _ => c_get td 5 a 2) k.toNat).2.2) → (∀ q, 0 ≤ (foldS (fun s k => foldS (tkS (c_cnt td a) (c_get td 2 k 0)) s (c_load ld a k).toNat) (0, 0, fun _ => c_get td 5 a 2) k.toNat).2.2 q ∧ (foldS (fun s k => foldS (tkS (c_cnt td a) (c_get td 2 k 0)) s (c_load ld a k).toNat) (0, 0, fun _ => c_get td 5 a 2) k.toNat).2.2 q ≤ 999) → (10 - k).toNat < dq → J κ 6 0 0 n 8 [some (.ref d), some (.ref f), some (jI a), some (jI k), u, u1] [] M1 := by
    intro dq
    induction dq with
    | zero => intro k u u1 M1 rm1 hk hD1 hf1 hs1 ha1 hr1 hd; omega
    | succ dq ih =>
      intro k u u1 M1 rm1 hk hD1 hf1 hs1 ha1 hr1 hd
      have hF1 := Fl_fr hF hf1 (Nat.le_refl _) (fun k h1 h2 h3 => by unfold DrS at h3; omega)
      obtain ⟨hnd, hOd, hAd, hBd, hCd⟩ := id hD1
      obtain ⟨hn, hO, hA, hB, hC, hD, hE, rA, rB, r0, rC, rD, rE⟩ := id hF1
      have eg1 : (up g 1 (c_cnt td a)) 1 = c_cnt td a := up_eq
      refine jr_iload_n (pc := 8) h dX0_holdLoad_8 rfl ?_
      refine jr_aload_n (pc := 9) h dX0_holdLoad_9 rfl ?_
      refine jr_iconst (pc := 10) h dX0_holdLoad_10 ?_
      refine iv_X0_41 (pc := 11) h hl hR dX0_holdLoad_11 ⟨(Nat.le_of_ble_eq_true rfl), (Nat.le_of_ble_eq_true rfl), (Nat.le_of_ble_eq_true rfl), (Nat.le_of_ble_eq_true rfl)⟩ (Nat.le_of_ble_eq_true rfl) (by assumption) (by omega) (s_X1_count hF1 (by omega)) (fun v_11 n_11 M_11 hn_11 hp => ?_)
      obtain ⟨⟨rfl, rfl, rfl⟩, gr_11⟩ := hp
      rw [ec] at gr_11 ⊢
      refine jr_icmp_ge (pc := 14) h 63 dX0_holdLoad_14 (by decide) (by omega) (by omega) (fun c_14 => ?_) (fun c_14 => ?_)
      · skip
        refine jr_iconst (pc := 63) h dX0_holdLoad_63 ?_
        refine jr_iret (pc := 64) h hRt dX0_holdLoad_64 rfl (Nat.le_of_ble_eq_true rfl) (Nat.le_of_ble_eq_true rfl) ?_
        have ek : k = ct 2 := by omega
        subst ek
        exact ⟨⟨ji_c (bz_t hs1).symm, rfl⟩, _, _, hD1, hf1⟩
      · skip
        refine jr_aload_n (pc := 17) h dX0_holdLoad_17 rfl ?_
        refine jr_iconst (pc := 18) h dX0_holdLoad_18 ?_
        refine jr_iload_n (pc := 19) h dX0_holdLoad_19 rfl ?_
        refine jr_iconst (pc := 20) h dX0_holdLoad_20 ?_
        refine iv_X0_21 (pc := 21) h hl hR dX0_holdLoad_21 ⟨(Nat.le_of_ble_eq_true rfl), (Nat.le_of_ble_eq_true rfl), (Nat.le_of_ble_eq_true rfl), (Nat.le_of_ble_eq_true rfl)⟩ (Nat.le_of_ble_eq_true rfl) (by assumption) (by omega) (s_X1_get hF1 (by omega) (by omega) (by omega)) (fun v_21 n_21 M_21 hn_21 hp => ?_)
        obtain ⟨⟨rfl, rfl, rfl⟩, gr_21⟩ := hp
        refine jr_istore (pc := 24) h [_, _, _, _, _, _] dX0_holdLoad_24 (by decide) rfl ?_
        refine jr_iconst (pc := 26) h dX0_holdLoad_26 ?_
        refine jr_istore (pc := 27) h [_, _, _, _, _, _] dX0_holdLoad_27 (by decide) rfl ?_
        have inner : ∀ (dq2 : Nat) (j : Int) (M1 : jdM) (rm1 : Nat → Int), (0 ≤ j ∧ j ≤ c_load ld a k) → (Dr M1 n d (up g 1 (c_cnt td a)) rm1 wn be) → (fr (DrS d) M M1) → ((foldS (tkS (c_cnt td a) (c_get td 2 k 0)) (foldS (fun s k => foldS (tkS (c_cnt td a) (c_get td 2 k 0)) s (c_load ld a k).toNat) (0, 0, fun _ => c_get td 5 a 2) k.toNat) j.toNat).1 = 0) → (agr (c_cnt td a) rm1 (foldS (tkS (c_cnt td a) (c_get td 2 k 0)) (foldS (fun s k => foldS (tkS (c_cnt td a) (c_get td 2 k 0)) s (c_load ld a k).toNat) (0, 0, fun _ => c_get td 5 a 2) k.toNat) j.toNat).2.2) → (∀ q, 0 ≤ (foldS (tkS (c_cnt td a) (c_get td 2 k 0)) (foldS (fun s k => foldS (tkS (c_cnt td a) (c_get td 2 k 0)) s (c_load ld a k).toNat) (0, 0, fun _ => c_get td 5 a 2) k.toNat) j.toNat).2.2 q ∧ (foldS (tkS (c_cnt td a) (c_get td 2 k 0)) (foldS (fun s k => foldS (tkS (c_cnt td a) (c_get td 2 k 0)) s (c_load ld a k).toNat) (0, 0, fun _ => c_get td 5 a 2) k.toNat) j.toNat).2.2 q ≤ 999) → (10000 - j).toNat < dq2 → J κ 6 0 0 n 29 [some (.ref d), some (.ref f), some (jI a), some (jI k), some (jI (c_get td 2 k 0)), some (jI j)] [] M1 := by
          intro dq2
          induction dq2 with
          | zero => intro j M1 rm1 hj hD1 hf1 hs1 ha1 hr1 hd; omega
          | succ dq2 ih2 =>
            intro j M1 rm1 hj hD1 hf1 hs1 ha1 hr1 hd
            have hF1 := Fl_fr hF hf1 (Nat.le_refl _) (fun k h1 h2 h3 => by unfold DrS at h3; omega)
            obtain ⟨hnd, hOd, hAd, hBd, hCd⟩ := id hD1
            obtain ⟨hn, hO, hA, hB, hC, hD, hE, rA, rB, r0, rC, rD, rE⟩ := id hF1
            have eg1 : (up g 1 (c_cnt td a)) 1 = c_cnt td a := up_eq
            refine jr_iload (pc := 29) h dX0_holdLoad_29 rfl ?_
            refine jr_aload_n (pc := 31) h dX0_holdLoad_31 rfl ?_
            refine jr_iload_n (pc := 32) h dX0_holdLoad_32 rfl ?_
            refine jr_iload_n (pc := 33) h dX0_holdLoad_33 rfl ?_
            refine iv_X0_44 (pc := 34) h hl hR dX0_holdLoad_34 ⟨(Nat.le_of_ble_eq_true rfl), (Nat.le_of_ble_eq_true rfl), (Nat.le_of_ble_eq_true rfl), (Nat.le_of_ble_eq_true rfl)⟩ (Nat.le_of_ble_eq_true rfl) (by assumption) (by omega) (s_X1_loadOf hF1 (by omega) (by omega)) (fun v_34 n_34 M_34 hn_34 hp => ?_)
            obtain ⟨⟨rfl, rfl, rfl⟩, gr_34⟩ := hp
            refine jr_icmp_ge (pc := 37) h 57 dX0_holdLoad_37 (by decide) (by omega) (by omega) (fun c_37 => ?_) (fun c_37 => ?_)
            · skip
              refine jr_iinc (pc := 57) h [_, _, _, _, _, _] dX0_holdLoad_57 (by decide) rfl rfl ?_
              refine jr_goto (pc := 60) h 8 dX0_holdLoad_60 (by decide) ?_
              have ej : j = c_load ld a k := by omega
              subst ej
              refine ih _ _ _ M1 rm1 (by omega) hD1 hf1 ?_ ?_ ?_ (by omega)
              · rw [foldS_s (by omega)]; exact hs1
              · rw [foldS_s (by omega)]; exact ha1
              · rw [foldS_s (by omega)]; exact hr1
            · skip
              refine jr_aload_n (pc := 40) h dX0_holdLoad_40 rfl ?_
              refine jr_iload (pc := 41) h dX0_holdLoad_41 rfl ?_
              refine iv_X0_47 (pc := 43) h hl hR dX0_holdLoad_43 ⟨(Nat.le_of_ble_eq_true rfl), (Nat.le_of_ble_eq_true rfl), (Nat.le_of_ble_eq_true rfl), (Nat.le_of_ble_eq_true rfl)⟩ (Nat.le_of_ble_eq_true rfl) (by assumption) (by omega) (s_X0_takes hD1 (A := (foldS (tkS (c_cnt td a) (c_get td 2 k 0)) (foldS (fun s k => foldS (tkS (c_cnt td a) (c_get td 2 k 0)) s (c_load ld a k).toNat) (0, 0, fun _ => c_get td 5 a 2) k.toNat) j.toNat).2.2) (by rw [eg1]; exact ha1) (by omega) (by omega) (fun q _ => by have := hr1 q; omega)) (fun v_43 n_43 M_43 hn_43 hp => ?_)
              obtain ⟨⟨rfl, rfl⟩, rm2, hD2, hf2, ha2⟩ := hp
              rw [eg1] at ha2
              have br := bz_r (¬ ffd (foldS (tkS (c_cnt td a) (c_get td 2 k 0)) (foldS (fun s k => foldS (tkS (c_cnt td a) (c_get td 2 k 0)) s (c_load ld a k).toNat) (0, 0, fun _ => c_get td 5 a 2) k.toNat) j.toNat).2.2 (c_get td 2 k 0) 0 ((up g 1 (c_cnt td a)) 1).toNat < 0)
              refine jr_if_ne (pc := 46) h 51 dX0_holdLoad_46 (by decide) (by omega) (fun c_46 => ?_) (fun c_46 => ?_)
              · skip
                refine jr_iinc (pc := 51) h [_, _, _, _, _, _] dX0_holdLoad_51 (by decide) rfl rfl ?_
                refine jr_goto (pc := 54) h 29 dX0_holdLoad_54 (by decide) ?_
                have hq := bz_1.mp c_46
                rw [eg1] at hq
                have hgo := tkS_go (i := j) (cnt := c_cnt td a) (sh := c_get td 2 k 0) hs1 hq
                refine ih2 _ M_43 rm2 (by omega) hD2 (fr_tr hf1 hf2) ?_ ?_ ?_ (by omega)
                · rw [foldS_s (by omega)]; exact hgo.1
                · rw [foldS_s (by omega), tkS_3 hs1]; exact ha2
                · rw [foldS_s (by omega)]; exact tkS_r (by omega) hr1 j
              · skip
                refine jr_iconst (pc := 49) h dX0_holdLoad_49 ?_
                refine jr_iret (pc := 50) h hRt dX0_holdLoad_50 rfl (Nat.le_of_ble_eq_true rfl) (Nat.le_of_ble_eq_true rfl) ?_
                have hq := bz_0.mp c_46
                rw [eg1] at hq
                have hno := tkS_no (i := j) (cnt := c_cnt td a) (sh := c_get td 2 k 0) hs1 (Classical.not_not.mp hq)
                have h1 : foldS (tkS (c_cnt td a) (c_get td 2 k 0)) (foldS (fun s k => foldS (tkS (c_cnt td a) (c_get td 2 k 0)) s (c_load ld a k).toNat) (0, 0, fun _ => c_get td 5 a 2) k.toNat) (c_load ld a k).toNat = (1, (foldS (tkS (c_cnt td a) (c_get td 2 k 0)) (foldS (fun s k => foldS (tkS (c_cnt td a) (c_get td 2 k 0)) s (c_load ld a k).toNat) (0, 0, fun _ => c_get td 5 a 2) k.toNat) j.toNat).2.1, (foldS (tkS (c_cnt td a) (c_get td 2 k 0)) (foldS (fun s k => foldS (tkS (c_cnt td a) (c_get td 2 k 0)) s (c_load ld a k).toNat) (0, 0, fun _ => c_get td 5 a 2) k.toNat) j.toNat).2.2) := foldS_stop (j := (j + 1).toNat) (by rw [foldS_s (by omega)]; exact hno) (fun i => tkS_stop (by simp) i) (by omega)
                have h2 : c_hl ct td ld a = (1, (foldS (tkS (c_cnt td a) (c_get td 2 k 0)) (foldS (fun s k => foldS (tkS (c_cnt td a) (c_get td 2 k 0)) s (c_load ld a k).toNat) (0, 0, fun _ => c_get td 5 a 2) k.toNat) j.toNat).2.1, (foldS (tkS (c_cnt td a) (c_get td 2 k 0)) (foldS (fun s k => foldS (tkS (c_cnt td a) (c_get td 2 k 0)) s (c_load ld a k).toNat) (0, 0, fun _ => c_get td 5 a 2) k.toNat) j.toNat).2.2) := foldS_stop (j := (k + 1).toNat) (by rw [foldS_s (by omega)]; exact h1) (fun i => foldS_st (fun i => tkS_stop (by simp) i)) (by omega)
                refine ⟨⟨ji_c ?_, rfl⟩, _, _, hD2, fr_tr hf1 hf2⟩
                rw [h2, bz_f (by simp)]
        have gl := c_loadr rE a k
        exact inner _ _ M1 rm1 (by omega) hD1 hf1 hs1 ha1 hr1 (Nat.lt_succ_self _)
  refine jr_aload_n (pc := 0) h dX0_holdLoad_0 rfl ?_
  refine jr_aload_n (pc := 1) h dX0_holdLoad_1 rfl ?_
  refine jr_iload_n (pc := 2) h dX0_holdLoad_2 rfl ?_
  refine iv_X0_37 (pc := 3) h hl hR dX0_holdLoad_3 ⟨(Nat.le_of_ble_eq_true rfl), (Nat.le_of_ble_eq_true rfl), (Nat.le_of_ble_eq_true rfl), (Nat.le_of_ble_eq_true rfl)⟩ (Nat.le_of_ble_eq_true rfl) (by assumption) (by omega) (s_X0_empty hDr hF hsep (by omega)) (fun v_3 n_3 M_3 hn_3 hp => ?_)
  obtain ⟨rfl, rfl, rm0, hD0, hf0, ha0⟩ := hp
  refine jr_iconst (pc := 6) h dX0_holdLoad_6 ?_
  refine jr_istore_n (pc := 7) h [_, _, _, _, _, _] dX0_holdLoad_7 (by decide) rfl ?_
  exact loop _ _ _ _ M_3 rm0 (by omega) hD0 hf0 rfl ha0 (fun q => gh) (Nat.lt_succ_self _)
set_option maxHeartbeats 1000000 in
set_option maxRecDepth 20000 in
theorem s_X0_takeBack {l : Launch} {n : Nat} {M : jdM} {d : Nat} {g rm wn be : Nat → Int} (hDr : Dr M n d g rm wn be) {f : Nat} {ct td bk si ld : Nat → Int} (hF : Fl M n f ct td bk si ld) (hsep : f + 5 < d) {r : Nat} {g3 sp sk fa go : Nat → Int} (hRn : Rn M n r g3 sp sk fa go) (hsep2 : r + 4 < d ∨ d + 3 < r) (hc2 : ct 2 ≤ 4) (hfa : ∀ i k : Int, 1 ≤ i → i ≤ 40 → 0 ≤ k → k < 4 → 0 ≤ c_fact fa i (7 + k) ∧ c_fact fa i (7 + k) ≤ 1000) (hrow : 0 < c_rows ct td) {a : Int} (ha : 0 ≤ a ∧ a ≤ 10) : Ct l yX0_takeBack cX0_takeBack 9 (some .int) rX0_takeBack [.ref d, .ref f, .ref r, jI a] n M (fun vv n' M' => (vv = some (jI (c_tb ct td fa a).2.1) ∧ n = n') ∧ ∃ g' rm', Dr M' n d g' rm' wn be ∧ fr (DrS d) M M' ∧ g' 1 = c_cnt td a ∧ agr (c_cnt td a) rm' (c_tb ct td fa a).2.2) := by
  refine Ct_of [some (.ref d), some (.ref f), some (.ref r), some (jI a), none, none, none, none, none] (by decide) (Nat.le_of_ble_eq_true rfl) rfl (fun κ hl h hR hRt hmn hn0 => ?_)
  have h : Ok κ RX0 cX0_takeBack 9 (some .int) := h
  obtain ⟨hnd, hOd, hAd, hBd, hCd⟩ := id hDr
  obtain ⟨hn, hO, hA, hB, hC, hD, hE, rA, rB, r0, rC, rD, rE⟩ := id hF
  have ec : c_count ct 2 = ct 2 := by unfold c_count; rw [if_pos (by omega)]; rfl
  have a2 := rA 2
  have gh := c_getr rB 5 a 2
  have ecnt : c_cnt td a = min 14 (c_get td 5 a 1) := rfl
  have gt := c_getr rB 5 a 1
  have rloop : ∀ (dqr : Nat) (x i : Int) (u2 : Option Value) (u : Option Value) (u1 : Option Value) (M1 : jdM) (rm1 : Nat → Int), (1 ≤ i ∧ (i = 1 ∨ i ≤ c_rows ct td + 1)) → (Dr M1 n d (up g 1 (c_cnt td a)) rm1 wn be) → (fr (DrS d) M M1) → ((foldS (fun s r => foldS (fun s k => foldS (tkS (c_cnt td a) (c_get td 2 k 0)) s (c_fact fa (1 + r) (7 + k)).toNat) s (ct 2).toNat) (0, 0, fun _ => c_get td 5 a 2) (i - 1).toNat).1 = 0) → (agr (c_cnt td a) rm1 (foldS (fun s r => foldS (fun s k => foldS (tkS (c_cnt td a) (c_get td 2 k 0)) s (c_fact fa (1 + r) (7 + k)).toNat) s (ct 2).toNat) (0, 0, fun _ => c_get td 5 a 2) (i - 1).toNat).2.2) → (∀ q, 0 ≤ (foldS (fun s r => foldS (fun s k => foldS (tkS (c_cnt td a) (c_get td 2 k 0)) s (c_fact fa (1 + r) (7 + k)).toNat) s (ct 2).toNat) (0, 0, fun _ => c_get td 5 a 2) (i - 1).toNat).2.2 q ∧ (foldS (fun s r => foldS (fun s k => foldS (tkS (c_cnt td a) (c_get td 2 k 0)) s (c_fact fa (1 + r) (7 + k)).toNat) s (ct 2).toNat) (0, 0, fun _ => c_get td 5 a 2) (i - 1).toNat).2.2 q ≤ 999) → (x = (foldS (fun s r => foldS (fun s k => foldS (tkS (c_cnt td a) (c_get td 2 k 0)) s (c_fact fa (1 + r) (7 + k)).toNat) s (ct 2).toNat) (0, 0, fun _ => c_get td 5 a 2) (i - 1).toNat).2.1) → (50 - i).toNat < dqr → J κ 9 0 0 n 12 [some (.ref d), some (.ref f), some (.ref r), some (jI a), some (jI x), some (jI i), u2, u, u1] [] M1 := by
    intro dqr
    induction dqr with
    | zero => intro x i u2 u u1 M1 rm1 hi hD1 hf1 hs1 ha1 hr1 hx hd; omega
    | succ dqr ihr =>
      intro x i u2 u u1 M1 rm1 hi hD1 hf1 hs1 ha1 hr1 hx hd
      have hF1 := Fl_fr hF hf1 (Nat.le_refl _) (fun k h1 h2 h3 => by unfold DrS at h3; omega)
      have hRn1 := Rn_fr hRn hf1 (Nat.le_refl _) (fun k h1 h2 h3 => by unfold DrS at h3; omega)
      obtain ⟨hnd, hOd, hAd, hBd, hCd⟩ := id hD1
      obtain ⟨hn, hO, hA, hB, hC, hD, hE, rA, rB, r0, rC, rD, rE⟩ := id hF1
      obtain ⟨hnr, hOr, hAr, hBr, hCr, hDr2⟩ := id hRn1
      have eg1 : (up g 1 (c_cnt td a)) 1 = c_cnt td a := up_eq
      refine jr_iload (pc := 12) h dX0_takeBack_12 rfl ?_
      refine jr_aload_n (pc := 14) h dX0_takeBack_14 rfl ?_
      refine iv_X0_51 (pc := 15) h hl hR dX0_takeBack_15 ⟨(Nat.le_of_ble_eq_true rfl), (Nat.le_of_ble_eq_true rfl), (Nat.le_of_ble_eq_true rfl), (Nat.le_of_ble_eq_true rfl)⟩ (Nat.le_of_ble_eq_true rfl) (by assumption) (by omega) (s_X1_rows hF1) (fun v_15 n_15 M_15 hn_15 hp => ?_)
      obtain ⟨⟨rfl, rfl, rfl⟩, gr_15⟩ := hp
      refine jr_icmp_gt (pc := 18) h 96 dX0_takeBack_18 (by decide) (by omega) (by omega) (fun c_18 => ?_) (fun c_18 => ?_)
      · skip
        refine jr_iload (pc := 96) h dX0_takeBack_96 rfl ?_
        refine jr_iret (pc := 98) h hRt dX0_takeBack_98 rfl (Nat.le_of_ble_eq_true rfl) (Nat.le_of_ble_eq_true rfl) ?_
        have ei : i = c_rows ct td + 1 := by omega
        subst ei
        have es : c_rows ct td + 1 - 1 = c_rows ct td := by omega
        rw [es] at ha1 hx
        exact ⟨⟨ji_c hx, rfl⟩, _, rm1, hD1, hf1, eg1, ha1⟩
      · skip
        refine jr_iconst (pc := 21) h dX0_takeBack_21 ?_
        refine jr_istore (pc := 22) h [_, _, _, _, _, _, _, _, _] dX0_takeBack_22 (by decide) rfl ?_
        have kloop : ∀ (dqk : Nat) (x k : Int) (u : Option Value) (u1 : Option Value) (M1 : jdM) (rm1 : Nat → Int), (0 ≤ k ∧ k ≤ ct 2) → (Dr M1 n d (up g 1 (c_cnt td a)) rm1 wn be) → (fr (DrS d) M M1) → ((foldS (fun s k => foldS (tkS (c_cnt td a) (c_get td 2 k 0)) s (c_fact fa i (7 + k)).toNat) (foldS (fun s r => foldS (fun s k => foldS (tkS (c_cnt td a) (c_get td 2 k 0)) s (c_fact fa (1 + r) (7 + k)).toNat) s (ct 2).toNat) (0, 0, fun _ => c_get td 5 a 2) (i - 1).toNat) k.toNat).1 = 0) → (agr (c_cnt td a) rm1 (foldS (fun s k => foldS (tkS (c_cnt td a) (c_get td 2 k 0)) s (c_fact fa i (7 + k)).toNat) (foldS (fun s r => foldS (fun s k => foldS (tkS (c_cnt td a) (c_get td 2 k 0)) s (c_fact fa (1 + r) (7 + k)).toNat) s (ct 2).toNat) (0, 0, fun _ => c_get td 5 a 2) (i - 1).toNat) k.toNat).2.2) → (∀ q, 0 ≤ (foldS (fun s k => foldS (tkS (c_cnt td a) (c_get td 2 k 0)) s (c_fact fa i (7 + k)).toNat) (foldS (fun s r => foldS (fun s k => foldS (tkS (c_cnt td a) (c_get td 2 k 0)) s (c_fact fa (1 + r) (7 + k)).toNat) s (ct 2).toNat) (0, 0, fun _ => c_get td 5 a 2) (i - 1).toNat) k.toNat).2.2 q ∧ (foldS (fun s k => foldS (tkS (c_cnt td a) (c_get td 2 k 0)) s (c_fact fa i (7 + k)).toNat) (foldS (fun s r => foldS (fun s k => foldS (tkS (c_cnt td a) (c_get td 2 k 0)) s (c_fact fa (1 + r) (7 + k)).toNat) s (ct 2).toNat) (0, 0, fun _ => c_get td 5 a 2) (i - 1).toNat) k.toNat).2.2 q ≤ 999) → (x = (foldS (fun s k => foldS (tkS (c_cnt td a) (c_get td 2 k 0)) s (c_fact fa i (7 + k)).toNat) (foldS (fun s r => foldS (fun s k => foldS (tkS (c_cnt td a) (c_get td 2 k 0)) s (c_fact fa (1 + r) (7 + k)).toNat) s (ct 2).toNat) (0, 0, fun _ => c_get td 5 a 2) (i - 1).toNat) k.toNat).2.1) → (10 - k).toNat < dqk → J κ 9 0 0 n 24 [some (.ref d), some (.ref f), some (.ref r), some (jI a), some (jI x), some (jI i), some (jI k), u, u1] [] M1 := by
          intro dqk
          induction dqk with
          | zero => intro x k u u1 M1 rm1 hk hD1 hf1 hs1 ha1 hr1 hx hd; omega
          | succ dqk ihk =>
            intro x k u u1 M1 rm1 hk hD1 hf1 hs1 ha1 hr1 hx hd
            have hF1 := Fl_fr hF hf1 (Nat.le_refl _) (fun k h1 h2 h3 => by unfold DrS at h3; omega)
            have hRn1 := Rn_fr hRn hf1 (Nat.le_refl _) (fun k h1 h2 h3 => by unfold DrS at h3; omega)
            obtain ⟨hnd, hOd, hAd, hBd, hCd⟩ := id hD1
            obtain ⟨hn, hO, hA, hB, hC, hD, hE, rA, rB, r0, rC, rD, rE⟩ := id hF1
            obtain ⟨hnr, hOr, hAr, hBr, hCr, hDr2⟩ := id hRn1
            have eg1 : (up g 1 (c_cnt td a)) 1 = c_cnt td a := up_eq
            refine jr_iload (pc := 24) h dX0_takeBack_24 rfl ?_
            refine jr_aload_n (pc := 26) h dX0_takeBack_26 rfl ?_
            refine jr_iconst (pc := 27) h dX0_takeBack_27 ?_
            refine iv_X0_41 (pc := 28) h hl hR dX0_takeBack_28 ⟨(Nat.le_of_ble_eq_true rfl), (Nat.le_of_ble_eq_true rfl), (Nat.le_of_ble_eq_true rfl), (Nat.le_of_ble_eq_true rfl)⟩ (Nat.le_of_ble_eq_true rfl) (by assumption) (by omega) (s_X1_count hF1 (by omega)) (fun v_28 n_28 M_28 hn_28 hp => ?_)
            obtain ⟨⟨rfl, rfl, rfl⟩, gr_28⟩ := hp
            rw [ec] at gr_28 ⊢
            refine jr_icmp_ge (pc := 31) h 90 dX0_takeBack_31 (by decide) (by omega) (by omega) (fun c_31 => ?_) (fun c_31 => ?_)
            · skip
              refine jr_iinc (pc := 90) h [_, _, _, _, _, _, _, _, _] dX0_takeBack_90 (by decide) rfl rfl ?_
              refine jr_goto (pc := 93) h 12 dX0_takeBack_93 (by decide) ?_
              have ek : k = ct 2 := by omega
              subst ek
              have es : foldS (fun s r => foldS (fun s k => foldS (tkS (c_cnt td a) (c_get td 2 k 0)) s (c_fact fa (1 + r) (7 + k)).toNat) s (ct 2).toNat) (0, 0, fun _ => c_get td 5 a 2) (i + 1 - 1).toNat = foldS (fun s k => foldS (tkS (c_cnt td a) (c_get td 2 k 0)) s (c_fact fa i (7 + k)).toNat) (foldS (fun s r => foldS (fun s k => foldS (tkS (c_cnt td a) (c_get td 2 k 0)) s (c_fact fa (1 + r) (7 + k)).toNat) s (ct 2).toNat) (0, 0, fun _ => c_get td 5 a 2) (i - 1).toNat) (ct 2).toNat := by
                rw [show i + 1 - 1 = (i - 1) + 1 by omega, foldS_s (by omega), show 1 + (i - 1) = i by omega]
              refine ihr _ _ _ _ _ M1 rm1 (by omega) hD1 hf1 ?_ ?_ ?_ ?_ (by omega)
              · rw [es]; exact hs1
              · rw [es]; exact ha1
              · rw [es]; exact hr1
              · rw [es]; exact hx
            · skip
              refine jr_aload_n (pc := 34) h dX0_takeBack_34 rfl ?_
              refine jr_iconst (pc := 35) h dX0_takeBack_35 ?_
              refine jr_iload (pc := 36) h dX0_takeBack_36 rfl ?_
              refine jr_iconst (pc := 38) h dX0_takeBack_38 ?_
              refine iv_X0_21 (pc := 39) h hl hR dX0_takeBack_39 ⟨(Nat.le_of_ble_eq_true rfl), (Nat.le_of_ble_eq_true rfl), (Nat.le_of_ble_eq_true rfl), (Nat.le_of_ble_eq_true rfl)⟩ (Nat.le_of_ble_eq_true rfl) (by assumption) (by omega) (s_X1_get hF1 (by omega) (by omega) (by omega)) (fun v_39 n_39 M_39 hn_39 hp => ?_)
              obtain ⟨⟨rfl, rfl, rfl⟩, gr_39⟩ := hp
              refine jr_istore (pc := 42) h [_, _, _, _, _, _, _, _, _] dX0_takeBack_42 (by decide) rfl ?_
              refine jr_iconst (pc := 44) h dX0_takeBack_44 ?_
              refine jr_istore (pc := 45) h [_, _, _, _, _, _, _, _, _] dX0_takeBack_45 (by decide) rfl ?_
              have nf := hfa i k (by omega) (by omega) (by omega) (by omega)
              have inner : ∀ (dq2 : Nat) (j x : Int) (M1 : jdM) (rm1 : Nat → Int), (0 ≤ j ∧ j ≤ (c_fact fa i (7 + k))) → (Dr M1 n d (up g 1 (c_cnt td a)) rm1 wn be) → (fr (DrS d) M M1) → ((foldS (tkS (c_cnt td a) (c_get td 2 k 0)) (foldS (fun s k => foldS (tkS (c_cnt td a) (c_get td 2 k 0)) s (c_fact fa i (7 + k)).toNat) (foldS (fun s r => foldS (fun s k => foldS (tkS (c_cnt td a) (c_get td 2 k 0)) s (c_fact fa (1 + r) (7 + k)).toNat) s (ct 2).toNat) (0, 0, fun _ => c_get td 5 a 2) (i - 1).toNat) k.toNat) j.toNat).1 = 0) → (agr (c_cnt td a) rm1 (foldS (tkS (c_cnt td a) (c_get td 2 k 0)) (foldS (fun s k => foldS (tkS (c_cnt td a) (c_get td 2 k 0)) s (c_fact fa i (7 + k)).toNat) (foldS (fun s r => foldS (fun s k => foldS (tkS (c_cnt td a) (c_get td 2 k 0)) s (c_fact fa (1 + r) (7 + k)).toNat) s (ct 2).toNat) (0, 0, fun _ => c_get td 5 a 2) (i - 1).toNat) k.toNat) j.toNat).2.2) → (∀ q, 0 ≤ (foldS (tkS (c_cnt td a) (c_get td 2 k 0)) (foldS (fun s k => foldS (tkS (c_cnt td a) (c_get td 2 k 0)) s (c_fact fa i (7 + k)).toNat) (foldS (fun s r => foldS (fun s k => foldS (tkS (c_cnt td a) (c_get td 2 k 0)) s (c_fact fa (1 + r) (7 + k)).toNat) s (ct 2).toNat) (0, 0, fun _ => c_get td 5 a 2) (i - 1).toNat) k.toNat) j.toNat).2.2 q ∧ (foldS (tkS (c_cnt td a) (c_get td 2 k 0)) (foldS (fun s k => foldS (tkS (c_cnt td a) (c_get td 2 k 0)) s (c_fact fa i (7 + k)).toNat) (foldS (fun s r => foldS (fun s k => foldS (tkS (c_cnt td a) (c_get td 2 k 0)) s (c_fact fa (1 + r) (7 + k)).toNat) s (ct 2).toNat) (0, 0, fun _ => c_get td 5 a 2) (i - 1).toNat) k.toNat) j.toNat).2.2 q ≤ 999) → (x = (foldS (tkS (c_cnt td a) (c_get td 2 k 0)) (foldS (fun s k => foldS (tkS (c_cnt td a) (c_get td 2 k 0)) s (c_fact fa i (7 + k)).toNat) (foldS (fun s r => foldS (fun s k => foldS (tkS (c_cnt td a) (c_get td 2 k 0)) s (c_fact fa (1 + r) (7 + k)).toNat) s (ct 2).toNat) (0, 0, fun _ => c_get td 5 a 2) (i - 1).toNat) k.toNat) j.toNat).2.1) → (2000 - j).toNat < dq2 → J κ 9 0 0 n 47 [some (.ref d), some (.ref f), some (.ref r), some (jI a), some (jI x), some (jI i), some (jI k), some (jI (c_get td 2 k 0)), some (jI j)] [] M1 := by
                intro dq2
                induction dq2 with
                | zero => intro j x M1 rm1 hj hD1 hf1 hs1 ha1 hr1 hx hd; omega
                | succ dq2 ih2 =>
                  intro j x M1 rm1 hj hD1 hf1 hs1 ha1 hr1 hx hd
                  have hF1 := Fl_fr hF hf1 (Nat.le_refl _) (fun k h1 h2 h3 => by unfold DrS at h3; omega)
                  have hRn1 := Rn_fr hRn hf1 (Nat.le_refl _) (fun k h1 h2 h3 => by unfold DrS at h3; omega)
                  obtain ⟨hnd, hOd, hAd, hBd, hCd⟩ := id hD1
                  obtain ⟨hn, hO, hA, hB, hC, hD, hE, rA, rB, r0, rC, rD, rE⟩ := id hF1
                  obtain ⟨hnr, hOr, hAr, hBr, hCr, hDr2⟩ := id hRn1
                  have eg1 : (up g 1 (c_cnt td a)) 1 = c_cnt td a := up_eq
                  refine jr_iload (pc := 47) h dX0_takeBack_47 rfl ?_
                  refine jr_aload_n (pc := 49) h dX0_takeBack_49 rfl ?_
                  refine jr_iload (pc := 50) h dX0_takeBack_50 rfl ?_
                  refine jr_bipush (pc := 52) h dX0_takeBack_52 bp_7 ?_
                  refine jr_iload (pc := 54) h dX0_takeBack_54 rfl ?_
                  refine jr_iadd (pc := 56) h dX0_takeBack_56 ?_
                  refine iv_X0_55 (pc := 57) h hl hR dX0_takeBack_57 ⟨(Nat.le_of_ble_eq_true rfl), (Nat.le_of_ble_eq_true rfl), (Nat.le_of_ble_eq_true rfl), (Nat.le_of_ble_eq_true rfl)⟩ (Nat.le_of_ble_eq_true rfl) (by assumption) (by omega) (s_X3_fact hRn1 (by omega) (by omega)) (fun v_57 n_57 M_57 hn_57 hp => ?_)
                  obtain ⟨rfl, rfl, rfl⟩ := hp
                  refine jr_icmp_ge (pc := 60) h 84 dX0_takeBack_60 (by decide) (by omega) (by omega) (fun c_60 => ?_) (fun c_60 => ?_)
                  · skip
                    refine jr_iinc (pc := 84) h [_, _, _, _, _, _, _, _, _] dX0_takeBack_84 (by decide) rfl rfl ?_
                    refine jr_goto (pc := 87) h 24 dX0_takeBack_87 (by decide) ?_
                    have ej : j = c_fact fa i (7 + k) := by omega
                    subst ej
                    refine ihk _ _ _ _ M1 rm1 (by omega) hD1 hf1 ?_ ?_ ?_ ?_ (by omega)
                    · rw [foldS_s (by omega)]; exact hs1
                    · rw [foldS_s (by omega)]; exact ha1
                    · rw [foldS_s (by omega)]; exact hr1
                    · rw [foldS_s (by omega)]; exact hx
                  · skip
                    refine jr_aload_n (pc := 63) h dX0_takeBack_63 rfl ?_
                    refine jr_iload (pc := 64) h dX0_takeBack_64 rfl ?_
                    refine iv_X0_47 (pc := 66) h hl hR dX0_takeBack_66 ⟨(Nat.le_of_ble_eq_true rfl), (Nat.le_of_ble_eq_true rfl), (Nat.le_of_ble_eq_true rfl), (Nat.le_of_ble_eq_true rfl)⟩ (Nat.le_of_ble_eq_true rfl) (by assumption) (by omega) (s_X0_takes hD1 (A := (foldS (tkS (c_cnt td a) (c_get td 2 k 0)) (foldS (fun s k => foldS (tkS (c_cnt td a) (c_get td 2 k 0)) s (c_fact fa i (7 + k)).toNat) (foldS (fun s r => foldS (fun s k => foldS (tkS (c_cnt td a) (c_get td 2 k 0)) s (c_fact fa (1 + r) (7 + k)).toNat) s (ct 2).toNat) (0, 0, fun _ => c_get td 5 a 2) (i - 1).toNat) k.toNat) j.toNat).2.2) (by rw [eg1]; exact ha1) (by omega) (by omega) (fun q _ => by have := hr1 q; omega)) (fun v_66 n_66 M_66 hn_66 hp => ?_)
                    obtain ⟨⟨rfl, rfl⟩, rm2, hD2, hf2, ha2⟩ := hp
                    rw [eg1] at ha2
                    have br := bz_r (¬ ffd (foldS (tkS (c_cnt td a) (c_get td 2 k 0)) (foldS (fun s k => foldS (tkS (c_cnt td a) (c_get td 2 k 0)) s (c_fact fa i (7 + k)).toNat) (foldS (fun s r => foldS (fun s k => foldS (tkS (c_cnt td a) (c_get td 2 k 0)) s (c_fact fa (1 + r) (7 + k)).toNat) s (ct 2).toNat) (0, 0, fun _ => c_get td 5 a 2) (i - 1).toNat) k.toNat) j.toNat).2.2 (c_get td 2 k 0) 0 ((up g 1 (c_cnt td a)) 1).toNat < 0)
                    refine jr_if_ne (pc := 69) h 75 dX0_takeBack_69 (by decide) (by omega) (fun c_69 => ?_) (fun c_69 => ?_)
                    · skip
                      refine jr_iinc (pc := 75) h [_, _, _, _, _, _, _, _, _] dX0_takeBack_75 (by decide) rfl rfl ?_
                      refine jr_iinc (pc := 78) h [_, _, _, _, _, _, _, _, _] dX0_takeBack_78 (by decide) rfl rfl ?_
                      refine jr_goto (pc := 81) h 47 dX0_takeBack_81 (by decide) ?_
                      have hq := bz_1.mp c_69
                      rw [eg1] at hq
                      have hgo := tkS_go (i := j) (cnt := c_cnt td a) (sh := c_get td 2 k 0) hs1 hq
                      refine ih2 _ _ M_66 rm2 (by omega) hD2 (fr_tr hf1 hf2) ?_ ?_ ?_ ?_ (by omega)
                      · rw [foldS_s (by omega)]; exact hgo.1
                      · rw [foldS_s (by omega), tkS_3 hs1]; exact ha2
                      · rw [foldS_s (by omega)]; exact tkS_r (by omega) hr1 j
                      · rw [foldS_s (by omega), hgo.2, ← hx]
                    · skip
                      refine jr_iload (pc := 72) h dX0_takeBack_72 rfl ?_
                      refine jr_iret (pc := 74) h hRt dX0_takeBack_74 rfl (Nat.le_of_ble_eq_true rfl) (Nat.le_of_ble_eq_true rfl) ?_
                      have hq := bz_0.mp c_69
                      rw [eg1] at hq
                      have hno := tkS_no (i := j) (cnt := c_cnt td a) (sh := c_get td 2 k 0) hs1 (Classical.not_not.mp hq)
                      have h1 : foldS (tkS (c_cnt td a) (c_get td 2 k 0)) (foldS (fun s k => foldS (tkS (c_cnt td a) (c_get td 2 k 0)) s (c_fact fa i (7 + k)).toNat) (foldS (fun s r => foldS (fun s k => foldS (tkS (c_cnt td a) (c_get td 2 k 0)) s (c_fact fa (1 + r) (7 + k)).toNat) s (ct 2).toNat) (0, 0, fun _ => c_get td 5 a 2) (i - 1).toNat) k.toNat) (c_fact fa i (7 + k)).toNat = (1, (foldS (tkS (c_cnt td a) (c_get td 2 k 0)) (foldS (fun s k => foldS (tkS (c_cnt td a) (c_get td 2 k 0)) s (c_fact fa i (7 + k)).toNat) (foldS (fun s r => foldS (fun s k => foldS (tkS (c_cnt td a) (c_get td 2 k 0)) s (c_fact fa (1 + r) (7 + k)).toNat) s (ct 2).toNat) (0, 0, fun _ => c_get td 5 a 2) (i - 1).toNat) k.toNat) j.toNat).2.1, (foldS (tkS (c_cnt td a) (c_get td 2 k 0)) (foldS (fun s k => foldS (tkS (c_cnt td a) (c_get td 2 k 0)) s (c_fact fa i (7 + k)).toNat) (foldS (fun s r => foldS (fun s k => foldS (tkS (c_cnt td a) (c_get td 2 k 0)) s (c_fact fa (1 + r) (7 + k)).toNat) s (ct 2).toNat) (0, 0, fun _ => c_get td 5 a 2) (i - 1).toNat) k.toNat) j.toNat).2.2) := foldS_stop (j := (j + 1).toNat) (by rw [foldS_s (by omega)]; exact hno) (fun i => tkS_stop (by simp) i) (by omega)
                      have h2 : foldS (fun s k => foldS (tkS (c_cnt td a) (c_get td 2 k 0)) s (c_fact fa i (7 + k)).toNat) (foldS (fun s r => foldS (fun s k => foldS (tkS (c_cnt td a) (c_get td 2 k 0)) s (c_fact fa (1 + r) (7 + k)).toNat) s (ct 2).toNat) (0, 0, fun _ => c_get td 5 a 2) (i - 1).toNat) (ct 2).toNat = (1, (foldS (tkS (c_cnt td a) (c_get td 2 k 0)) (foldS (fun s k => foldS (tkS (c_cnt td a) (c_get td 2 k 0)) s (c_fact fa i (7 + k)).toNat) (foldS (fun s r => foldS (fun s k => foldS (tkS (c_cnt td a) (c_get td 2 k 0)) s (c_fact fa (1 + r) (7 + k)).toNat) s (ct 2).toNat) (0, 0, fun _ => c_get td 5 a 2) (i - 1).toNat) k.toNat) j.toNat).2.1, (foldS (tkS (c_cnt td a) (c_get td 2 k 0)) (foldS (fun s k => foldS (tkS (c_cnt td a) (c_get td 2 k 0)) s (c_fact fa i (7 + k)).toNat) (foldS (fun s r => foldS (fun s k => foldS (tkS (c_cnt td a) (c_get td 2 k 0)) s (c_fact fa (1 + r) (7 + k)).toNat) s (ct 2).toNat) (0, 0, fun _ => c_get td 5 a 2) (i - 1).toNat) k.toNat) j.toNat).2.2) := foldS_stop (j := (k + 1).toNat) (by rw [foldS_s (by omega)]; exact h1) (fun i => foldS_st (fun i => tkS_stop (by simp) i)) (by omega)
                      have h3 : c_tb ct td fa a = (1, (foldS (tkS (c_cnt td a) (c_get td 2 k 0)) (foldS (fun s k => foldS (tkS (c_cnt td a) (c_get td 2 k 0)) s (c_fact fa i (7 + k)).toNat) (foldS (fun s r => foldS (fun s k => foldS (tkS (c_cnt td a) (c_get td 2 k 0)) s (c_fact fa (1 + r) (7 + k)).toNat) s (ct 2).toNat) (0, 0, fun _ => c_get td 5 a 2) (i - 1).toNat) k.toNat) j.toNat).2.1, (foldS (tkS (c_cnt td a) (c_get td 2 k 0)) (foldS (fun s k => foldS (tkS (c_cnt td a) (c_get td 2 k 0)) s (c_fact fa i (7 + k)).toNat) (foldS (fun s r => foldS (fun s k => foldS (tkS (c_cnt td a) (c_get td 2 k 0)) s (c_fact fa (1 + r) (7 + k)).toNat) s (ct 2).toNat) (0, 0, fun _ => c_get td 5 a 2) (i - 1).toNat) k.toNat) j.toNat).2.2) := foldS_stop (j := (i - 1 + 1).toNat) (by rw [foldS_s (by omega), show 1 + (i - 1) = i by omega]; exact h2) (fun i => foldS_st (fun i => foldS_st (fun i => tkS_stop (by simp) i))) (by omega)
                      refine ⟨⟨ji_c ?_, rfl⟩, _, rm2, hD2, fr_tr hf1 hf2, eg1, ?_⟩
                      · rw [h3, hx]
                      · rw [h3, ← tkS_no (i := j) (cnt := c_cnt td a) (sh := c_get td 2 k 0) hs1 (Classical.not_not.mp hq), tkS_3 hs1]; exact ha2
              exact inner _ _ _ M1 rm1 (by omega) hD1 hf1 hs1 ha1 hr1 hx (Nat.lt_succ_self _)
        exact kloop _ _ _ _ _ M1 rm1 (by omega) hD1 hf1 hs1 ha1 hr1 hx (Nat.lt_succ_self _)
  refine jr_aload_n (pc := 0) h dX0_takeBack_0 rfl ?_
  refine jr_aload_n (pc := 1) h dX0_takeBack_1 rfl ?_
  refine jr_iload_n (pc := 2) h dX0_takeBack_2 rfl ?_
  refine iv_X0_37 (pc := 3) h hl hR dX0_takeBack_3 ⟨(Nat.le_of_ble_eq_true rfl), (Nat.le_of_ble_eq_true rfl), (Nat.le_of_ble_eq_true rfl), (Nat.le_of_ble_eq_true rfl)⟩ (Nat.le_of_ble_eq_true rfl) (by assumption) (by omega) (s_X0_empty hDr hF hsep (by omega)) (fun v_3 n_3 M_3 hn_3 hp => ?_)
  obtain ⟨rfl, rfl, rm0, hD0, hf0, ha0⟩ := hp
  refine jr_iconst (pc := 6) h dX0_takeBack_6 ?_
  refine jr_istore (pc := 7) h [_, _, _, _, _, _, _, _, _] dX0_takeBack_7 (by decide) rfl ?_
  refine jr_iconst (pc := 9) h dX0_takeBack_9 ?_
  refine jr_istore (pc := 10) h [_, _, _, _, _, _, _, _, _] dX0_takeBack_10 (by decide) rfl ?_
  exact rloop _ _ _ _ _ _ M_3 rm0 (by omega) hD0 hf0 rfl ha0 (fun q => gh) rfl (Nat.lt_succ_self _)
