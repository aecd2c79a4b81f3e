/-! 15: Drawers: trays into drawers, first come -/
/-- a loop's state, step by step -/
def foldS {σ : Type} (g : σ → Int → σ) (s : σ) : Nat → σ
  | 0 => s
  | k + 1 => g (foldS g s k) k
theorem foldS_s {σ : Type} {g : σ → Int → σ} {s : σ} {i : Int} (h : 0 ≤ i) : foldS g s (i + 1).toNat = g (foldS g s i.toNat) i := by
  obtain ⟨k, rfl⟩ := Int.eq_ofNat_of_zero_le h
  rfl
theorem foldS_cong {σ : Type} {g g' : σ → Int → σ} {s : σ} : ∀ {k : Nat}, (∀ (a : σ) (i : Int), 0 ≤ i → i < k → g a i = g' a i) → foldS g s k = foldS g' s k
  | 0, _ => rfl
  | k + 1, h => by
    simp only [foldS]
    rw [foldS_cong (k := k) (fun a i p q => h a i p (by omega)), h _ k (by omega) (by omega)]
theorem foldS_inv {σ : Type} {g : σ → Int → σ} {s : σ} {P : σ → Prop} (h0 : P s) : ∀ {k : Nat}, (∀ (a : σ) (i : Int), P a → 0 ≤ i → i < k → P (g a i)) → P (foldS g s k)
  | 0, _ => h0
  | k + 1, h => h _ k (foldS_inv h0 (k := k) (fun a i p q r => h a i p q (by omega))) (by omega) (by omega)
/-- a state that no step leaves -/
theorem foldS_stop {σ : Type} {g : σ → Int → σ} {s s1 : σ} {j : Nat} (h : foldS g s j = s1) (hs : ∀ i : Int, g s1 i = s1) : ∀ {k : Nat}, j ≤ k → foldS g s k = s1
  | 0, hk => by rw [show j = 0 by omega] at h; exact h
  | k + 1, hk => by
    by_cases q : j = k + 1
    · rw [← q]; exact h
    · rw [foldS, foldS_stop h hs (k := k) (by omega)]; exact hs _
/-- the first drawer from i on, of those d that are left, with room for a shape; -1 without one -/
def ffd (rm : Nat → Int) (sh : Int) : Int → Nat → Int
  | _, 0 => -1
  | i, d + 1 => if sh ≤ rm i.toNat then i else ffd rm sh (i + 1) d
theorem ffd_t {rm : Nat → Int} {sh i e : Int} (h : i < e) (hp : sh ≤ rm i.toNat) : ffd rm sh i (e - i).toNat = i := by
  obtain ⟨d, hd⟩ : ∃ d, (e - i).toNat = d + 1 := ⟨(e - i).toNat - 1, by omega⟩
  rw [hd, ffd, if_pos hp]
theorem ffd_f {rm : Nat → Int} {sh i e : Int} (h : i < e) (hp : rm i.toNat < sh) : ffd rm sh i (e - i).toNat = ffd rm sh (i + 1) (e - (i + 1)).toNat := by
  obtain ⟨d, hd⟩ : ∃ d, (e - i).toNat = d + 1 := ⟨(e - i).toNat - 1, by omega⟩
  rw [hd, ffd, if_neg (by omega), show (e - (i + 1)).toNat = d by omega]
theorem ffd_0 {rm : Nat → Int} {sh i e : Int} (h : e ≤ i) : ffd rm sh i (e - i).toNat = -1 := by
  rw [show (e - i).toNat = 0 by omega, ffd]
theorem ffd_cong {rm rm' : Nat → Int} {sh e : Int} (h : ∀ j : Nat, (j : Int) < e → rm j = rm' j) : ∀ {d : Nat} {i : Int}, 0 ≤ i → i + d ≤ e → ffd rm sh i d = ffd rm' sh i d
  | 0, i, _, _ => rfl
  | d + 1, i, h1, h2 => by
    rw [ffd, ffd, h i.toNat (by omega), ffd_cong h (d := d) (i := i + 1) (by omega) (by omega)]
theorem ffd_r {rm : Nat → Int} {sh : Int} : ∀ {d : Nat} {i : Int}, 0 ≤ i → ffd rm sh i d = -1 ∨ (i ≤ ffd rm sh i d ∧ ffd rm sh i d < i + d)
  | 0, i, _ => Or.inl rfl
  | d + 1, i, h => by
    rw [ffd]
    split
    · exact Or.inr ⟨Int.le_refl _, by omega⟩
    · rcases ffd_r (rm := rm) (sh := sh) (d := d) (i := i + 1) (by omega) with q | q
      · exact Or.inl q
      · exact Or.inr ⟨by omega, by omega⟩
/-- one tray: (has one not gone in?, how many went in, the drawers' eighths) -/
def tkS (cnt sh : Int) (s : Int × Int × (Nat → Int)) (_ : Int) : Int × Int × (Nat → Int) :=
  if s.1 ≠ 0 then s else if ffd s.2.2 sh 0 cnt.toNat < 0 then (1, s.2.1, s.2.2) else (0, s.2.1 + 1, up s.2.2 (ffd s.2.2 sh 0 cnt.toNat).toNat (s.2.2 (ffd s.2.2 sh 0 cnt.toNat).toNat - sh))
theorem tkS_stop {cnt sh : Int} {s : Int × Int × (Nat → Int)} (h : s.1 ≠ 0) (i : Int) : tkS cnt sh s i = s := by unfold tkS; rw [if_pos h]
/-- rooms that agree where there are drawers -/
def agr (cnt : Int) (a b : Nat → Int) : Prop := ∀ j : Nat, (j : Int) < cnt → a j = b j
theorem agr_up {cnt : Int} {a b : Nat → Int} (h : agr cnt a b) (k : Nat) (x : Int) : agr cnt (up a k x) (up b k x) := by
  intro j hj
  by_cases q : j = k
  · rw [q, up_eq, up_eq]
  · rw [up_ne q, up_ne q]; exact h j hj
set_option maxHeartbeats 1000000 in
set_option maxRecDepth 20000 in
theorem s_X0_roomIn {l : Launch} {n : Nat} {M : jdM} {d : Nat} {g rm wn be : Nat → Int} (hDr : Dr M n d g rm wn be) {a : Int} (ha : -2147483648 ≤ a ∧ a < 2147483648) : Ct l yX0_roomIn cX0_roomIn 2 (some .int) rX0_roomIn [.ref d, jI a] n M (fun vv n' M' => vv = some (jI (if 0 ≤ a ∧ a < 14 then rm a.toNat else 0)) ∧ n = n' ∧ M = M') := by
  refine Ct_of [some (.ref d), some (jI a)] (by decide) (Nat.le_of_ble_eq_true rfl) rfl (fun κ hl h hR hRt hmn hn0 => ?_)
  have h : Ok κ RX0 cX0_roomIn 2 (some .int) := h
  obtain ⟨hnd, hOd, hAd, hBd, hCd⟩ := id hDr
  refine jr_iload_n (pc := 0) h dX0_roomIn_0 rfl ?_
  refine jr_if_lt (pc := 1) h 19 dX0_roomIn_1 (by decide) (by omega) (fun c_1 => ?_) (fun c_1 => ?_)
  · skip
    refine jr_iconst (pc := 19) h dX0_roomIn_19 ?_
    refine jr_iret (pc := 20) h hRt dX0_roomIn_20 rfl (Nat.le_of_ble_eq_true rfl) (Nat.le_of_ble_eq_true rfl) ?_
    refine ⟨ji_c ?_, rfl, rfl⟩
    first | rw [if_pos (by omega)] | rw [if_neg (by omega)]
  · skip
    refine jr_iload_n (pc := 4) h dX0_roomIn_4 rfl ?_
    refine jr_bipush (pc := 5) h dX0_roomIn_5 bp_14 ?_
    refine jr_icmp_ge (pc := 7) h 19 dX0_roomIn_7 (by decide) (by omega) (by omega) (fun c_7 => ?_) (fun c_7 => ?_)
    · skip
      refine jr_iconst (pc := 19) h dX0_roomIn_19 ?_
      refine jr_iret (pc := 20) h hRt dX0_roomIn_20 rfl (Nat.le_of_ble_eq_true rfl) (Nat.le_of_ble_eq_true rfl) ?_
      refine ⟨ji_c ?_, rfl, rfl⟩
      first | rw [if_pos (by omega)] | rw [if_neg (by omega)]
    · skip
      refine jr_aload_n (pc := 10) h dX0_roomIn_10 rfl ?_
      refine gf_X0_9 (pc := 11) h dX0_roomIn_11 (by assumption) (by omega) ?_
      refine jr_iload_n (pc := 14) h dX0_roomIn_14 rfl ?_
      refine jr_iald (pc := 15) h dX0_roomIn_15 (by assumption) (by omega) (by omega) ?_
      refine jr_goto (pc := 16) h 20 dX0_roomIn_16 (by decide) ?_
      refine jr_iret (pc := 20) h hRt dX0_roomIn_20 rfl (Nat.le_of_ble_eq_true rfl) (Nat.le_of_ble_eq_true rfl) ?_
      refine ⟨ji_c ?_, rfl, rfl⟩
      first | rw [if_pos (by omega)] | rw [if_neg (by omega)]
set_option maxHeartbeats 1000000 in
set_option maxRecDepth 20000 in
theorem s_X0_want {l : Launch} {n : Nat} {M : jdM} {d : Nat} {g rm wn be : Nat → Int} (hDr : Dr M n d g rm wn be) {a b : Int} (ha : 0 ≤ a ∧ a < 4) (hb : -2147483648 ≤ b ∧ b < 2147483648) : Ct l yX0_want cX0_want 3 none rX0_want [.ref d, jI a, jI b] n M (fun vv n' M' => vv = none ∧ n = n' ∧ Dr M' n d g rm (up wn a.toNat (max 0 b)) be ∧ fr (DrS d) M M') := by
  refine Ct_of [some (.ref d), some (jI a), some (jI b)] (by decide) (Nat.le_of_ble_eq_true rfl) rfl (fun κ hl h hR hRt hmn hn0 => ?_)
  have h : Ok κ RX0 cX0_want 3 none := h
  obtain ⟨hnd, hOd, hAd, hBd, hCd⟩ := id hDr
  refine jr_iload_n (pc := 0) h dX0_want_0 rfl ?_
  refine jr_if_lt (pc := 1) h 20 dX0_want_1 (by decide) (by omega) (fun c_1 => ?_) (fun c_1 => ?_)
  · skip
    refine jr_vret (pc := 20) h hRt dX0_want_20 (Nat.le_of_ble_eq_true rfl) (Nat.le_of_ble_eq_true rfl) ?_
    first
      | exact ⟨rfl, rfl, Dr_wn hDr rfl, fr_up rfl ⟨by omega, by omega⟩⟩
      | (exfalso; omega)
  · skip
    refine jr_iload_n (pc := 4) h dX0_want_4 rfl ?_
    refine jr_iconst (pc := 5) h dX0_want_5 ?_
    refine jr_icmp_ge (pc := 6) h 20 dX0_want_6 (by decide) (by omega) (by omega) (fun c_6 => ?_) (fun c_6 => ?_)
    · skip
      refine jr_vret (pc := 20) h hRt dX0_want_20 (Nat.le_of_ble_eq_true rfl) (Nat.le_of_ble_eq_true rfl) ?_
      first
        | exact ⟨rfl, rfl, Dr_wn hDr rfl, fr_up rfl ⟨by omega, by omega⟩⟩
        | (exfalso; omega)
    · skip
      refine jr_aload_n (pc := 9) h dX0_want_9 rfl ?_
      refine gf_X0_15 (pc := 10) h dX0_want_10 (by assumption) (by omega) ?_
      refine jr_iload_n (pc := 13) h dX0_want_13 rfl ?_
      refine jr_iconst (pc := 14) h dX0_want_14 ?_
      refine jr_iload_n (pc := 15) h dX0_want_15 rfl ?_
      refine im_X0_60 (pc := 16) h hR dX0_want_16 ⟨(Nat.le_of_ble_eq_true rfl), (Nat.le_of_ble_eq_true rfl), (Nat.le_of_ble_eq_true rfl), (Nat.le_of_ble_eq_true rfl)⟩ (by omega) (by omega) ?_
      refine jr_iast (pc := 19) h dX0_want_19 (by assumption) (by omega) (by omega) ?_
      refine jr_vret (pc := 20) h hRt dX0_want_20 (Nat.le_of_ble_eq_true rfl) (Nat.le_of_ble_eq_true rfl) ?_
      first
        | exact ⟨rfl, rfl, Dr_wn hDr rfl, fr_up rfl ⟨by omega, by omega⟩⟩
        | (exfalso; omega)
set_option maxHeartbeats 2000000 in
set_option maxRecDepth 20000 in
theorem s_X0_takes {l : Launch} {n : Nat} {M : jdM} {d : Nat} {g rm wn be : Nat → Int} (hDr : Dr M n d g rm wn be) {a : Int} {A : Nat → Int} (hA : agr (g 1) rm A) (hg : 0 ≤ g 1 ∧ g 1 ≤ 14) (ha : 0 ≤ a ∧ a ≤ 1000) (hr : ∀ j : Nat, (j : Int) < g 1 → -1000 ≤ A j ∧ A j ≤ 1000) : Ct l yX0_takes cX0_takes 3 (some .boolean) rX0_takes [.ref d, jI a] n M (fun vv n' M' => (vv = some (jI (bz (¬ ffd A a 0 (g 1).toNat < 0))) ∧ n = n') ∧ ∃ rm', Dr M' n d g rm' wn be ∧ fr (DrS d) M M' ∧ agr (g 1) rm' (tkS (g 1) a (0, 0, A) 0).2.2) := by
  refine Ct_of [some (.ref d), some (jI a), none] (by decide) (Nat.le_of_ble_eq_true rfl) rfl (fun κ hl h hR hRt hmn hn0 => ?_)
  have h : Ok κ RX0 cX0_takes 3 (some .boolean) := h
  obtain ⟨hnd, hOd, hAd, hBd, hCd⟩ := id hDr
  have loop : ∀ (dq : Nat) (i : Int), (0 ≤ i ∧ i ≤ g 1) → (ffd A a 0 (g 1).toNat = ffd A a i (g 1 - i).toNat) → (20 - i).toNat < dq → J κ 3 0 0 n 2 [some (.ref d), some (jI a), some (jI i)] [] M := by
    intro dq
    induction dq with
    | zero => intro i hi hx hd; omega
    | succ dq ih =>
      intro i hi hx hd
      refine jr_iload_n (pc := 2) h dX0_takes_2 rfl ?_
      refine jr_aload_n (pc := 3) h dX0_takes_3 rfl ?_
      refine gf_X0_33 (pc := 4) h dX0_takes_4 (by assumption) (by omega) ?_
      refine jr_icmp_ge (pc := 7) h 38 dX0_takes_7 (by decide) (by omega) (by omega) (fun c_7 => ?_) (fun c_7 => ?_)
      · skip
        refine jr_iconst (pc := 38) h dX0_takes_38 ?_
        refine jr_iret (pc := 39) h hRt dX0_takes_39 rfl (Nat.le_of_ble_eq_true rfl) (Nat.le_of_ble_eq_true rfl) ?_
        have ef : ffd A a 0 (g 1).toNat = -1 := by rw [hx, ffd_0 (by omega)]
        refine ⟨⟨ji_c (bz_f (by omega)).symm, rfl⟩, _, hDr, fr_rf, ?_⟩
        unfold tkS
        rw [if_neg (by simp), ef, if_pos (by omega)]
        exact hA
      · skip
        refine jr_aload_n (pc := 10) h dX0_takes_10 rfl ?_
        have ri := hr i.toNat (by omega)
        have ei := hA i.toNat (by omega)
        refine gf_X0_9 (pc := 11) h dX0_takes_11 (by assumption) (by omega) ?_
        refine jr_iload_n (pc := 14) h dX0_takes_14 rfl ?_
        refine jr_iald (pc := 15) h dX0_takes_15 (by assumption) (by omega) (by omega) ?_
        refine jr_iload_n (pc := 16) h dX0_takes_16 rfl ?_
        refine jr_icmp_lt (pc := 17) h 32 dX0_takes_17 (by decide) (by omega) (by omega) (fun c_17 => ?_) (fun c_17 => ?_)
        · skip
          refine jr_iinc (pc := 32) h [_, _, _] dX0_takes_32 (by decide) rfl rfl ?_
          refine jr_goto (pc := 35) h 2 dX0_takes_35 (by decide) ?_
          refine ih _ (by omega) ?_ (by omega)
          rw [hx, ffd_f (by omega) (by rw [← hA i.toNat (by omega)]; omega)]
        · skip
          refine jr_aload_n (pc := 20) h dX0_takes_20 rfl ?_
          refine gf_X0_9 (pc := 21) h dX0_takes_21 (by assumption) (by omega) ?_
          refine jr_iload_n (pc := 24) h dX0_takes_24 rfl ?_
          refine jr_dup2 (pc := 25) h dX0_takes_25 rfl rfl ?_
          refine jr_iald (pc := 26) h dX0_takes_26 (by assumption) (by omega) (by omega) ?_
          refine jr_iload_n (pc := 27) h dX0_takes_27 rfl ?_
          refine jr_isub (pc := 28) h dX0_takes_28 ?_
          refine jr_iast (pc := 29) h dX0_takes_29 (by assumption) (by omega) (by omega) ?_
          refine jr_iconst (pc := 30) h dX0_takes_30 ?_
          refine jr_iret (pc := 31) h hRt dX0_takes_31 rfl (Nat.le_of_ble_eq_true rfl) (Nat.le_of_ble_eq_true rfl) ?_
          have ef : ffd A a 0 (g 1).toNat = i := by rw [hx, ffd_t (by omega) (by rw [← ei]; omega)]
          refine ⟨⟨ji_c (bz_t (by omega)).symm, rfl⟩, _, Dr_rm hDr rfl, fr_up rfl ⟨by omega, by omega⟩, ?_⟩
          unfold tkS
          rw [if_neg (by simp), ef, if_neg (by omega), ei]
          exact agr_up hA _ _
  refine jr_iconst (pc := 0) h dX0_takes_0 ?_
  refine jr_istore_n (pc := 1) h [_, _, _] dX0_takes_1 (by decide) rfl ?_
  exact loop _ _ (by omega) (by rw [Int.sub_zero]) (Nat.lt_succ_self _)
