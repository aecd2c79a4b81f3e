/-! 10: the class Flight, its reads -/
def fX1 (b : Nat) : Nat → Value
  | 0 => .ref (b + 1)
  | 1 => .ref (b + 2)
  | 2 => .ref (b + 3)
  | 3 => .ref (b + 4)
  | _ => .ref (b + 5)
/-- a Flight at b: counts, told, blocks, sitters, loads -/
def Fl (M : jdM) (n b : Nat) (ct td bk si ld : Nat → Int) : Prop :=
  b + 6 ≤ n ∧ M b = jdO 1 (fX1 b) ∧ M (b + 1) = jdA 13 ct ∧ M (b + 2) = jdA 1248 td ∧ M (b + 3) = jdA 41 bk ∧ M (b + 4) = jdA 41 si ∧ M (b + 5) = jdA 8 ld ∧ (∀ j, 0 ≤ ct j ∧ ct j ≤ 8) ∧ (∀ j, 0 ≤ td j ∧ td j ≤ 999) ∧ td 0 ≤ 40 ∧ (∀ j, -1 ≤ bk j ∧ bk j ≤ 8) ∧ (∀ j, 0 ≤ si j ∧ si j ≤ 9) ∧ (∀ j, 0 ≤ ld j ∧ ld j ≤ 9999)
theorem lim_r : ∀ j : Nat, j < 13 → 1 ≤ (jtab 0).2.2 j ∧ (jtab 0).2.2 j ≤ 8 := by decide
def c_count (ct : Nat → Int) (a : Int) : Int := if 0 ≤ a ∧ a < 13 then ct a.toNat else 0
def c_get (td : Nat → Int) (a b c : Int) : Int := if 0 ≤ a ∧ a < 13 ∧ 0 ≤ b ∧ b < 8 ∧ 0 ≤ c ∧ c < 12 then td ((a * 8 + b) * 12 + c).toNat else 0
def c_rows (ct td : Nat → Int) : Int := if ct 0 = 0 then 0 else c_get td 0 0 0
def c_blk (bk : Nat → Int) (a : Int) : Int := if 1 ≤ a ∧ a ≤ 40 then bk a.toNat else -1
def c_sit (si : Nat → Int) (a : Int) : Int := if 1 ≤ a ∧ a ≤ 40 then si a.toNat else 0
def c_sw (si : Nat → Int) (a b : Int) : Int := sumZ (fun i => c_sit si (a + i)) (min b 40 - a + 1).toNat
def c_named (ct td : Nat → Int) (a : Int) : Int := sumZ (fun i => if c_get td 8 i 0 = a then 1 else 0) (ct 8).toNat
def c_inside (ct td : Nat → Int) (a : Int) : Prop := 0 ≤ a ∧ a < ct 8 ∧ c_get td 8 a 0 ≤ c_rows ct td
def c_win (td : Nat → Int) (b kd : Int) : Int := firstW (fun i => c_get td 7 b (4 + 2 * i)) (fun i => c_get td 7 b (4 + 2 * i + 1)) kd 0 (min (c_get td 7 b 3) 4).toNat
def c_weights (td bk : Nat → Int) (a : Int) : Int := sumZ (fun i => c_get td 7 (c_blk bk a) (4 + 2 * i + 1)) 4
def c_likeF (td : Nat → Int) (b : Int) : Int → Int → Nat → Int
  | _, _, 0 => 0
  | i, v, d + 1 => if v - c_get td 7 b (4 + 2 * i + 1) < 0 then c_get td 7 b (4 + 2 * i) else c_likeF td b (i + 1) (v - c_get td 7 b (4 + 2 * i + 1)) d
def c_liked (td bk : Nat → Int) (a v : Int) : Int := c_likeF td (c_blk bk a) 0 v 4
def c_load (ld : Nat → Int) (t k : Int) : Int := if 0 ≤ t * 4 + k ∧ t * 4 + k < 8 then ld (t * 4 + k).toNat else 0
def c_lot (ld : Nat → Int) (t : Int) : Int := sumZ (fun k => c_load ld t k) 4
def c_late (ct td : Nat → Int) (k m : Int) : Int := foldZ (fun a i => if c_get td 3 i 0 = k ∧ c_get td 3 i 1 ≤ m ∧ a < c_get td 3 i 1 then c_get td 3 i 1 else a) 0 (ct 3).toNat
def c_deg (ct td : Nat → Int) (k m : Int) : Int := c_get td 2 k 1 - (c_get td 1 0 1 * (m - c_late ct td k m)) / 10
def c_bel1 (td : Nat → Int) (a i : Int) : Int := if c_get td 9 i 0 ≤ a / 60 ∧ a / 60 < c_get td 9 i 1 then c_get td 9 i 1 * 60 else a
def c_belP (ct td : Nat → Int) (x : Int) : Int := foldZ (c_bel1 td) x (ct 9).toNat
def c_bel (ct td : Nat → Int) (x : Int) : Int := foldZ (fun a _ => c_belP ct td a) x (ct 9).toNat
def c_begun (ct td : Nat → Int) (a b : Int) : Int := sumZ (fun i => if a < c_get td 9 i 0 * 60 ∧ c_get td 9 i 0 * 60 < b then 1 else 0) (ct 9).toNat
def c_sf (td si : Nat → Int) (a b : Int) : Int := c_get td 0 0 2 * c_sw si a b + c_get td 0 0 1 * max 0 (b - a)
def c_sec (ct td si : Nat → Int) (x : Int) : Int := if ct 5 < 2 then c_sf td si 1 (c_rows ct td) else max (c_sf td si 1 x) (c_sf td si (x + 1) (c_rows ct td))
def c_lack1 (ct td si ld : Nat → Int) (x t : Int) : Int := max 0 (c_sw si (if ct 5 < 2 ∨ c_get td 5 t 0 = 0 then 1 else x + 1) (if ct 5 < 2 ∨ c_get td 5 t 0 ≠ 0 then c_rows ct td else x) - c_lot ld t)
def c_lack (ct td si ld : Nat → Int) (x : Int) : Int := sumZ (fun t => c_lack1 ct td si ld x t) (ct 5).toNat
def c_fl1 (td : Nat → Int) (e k m b i : Int) : Int := if c_get td 4 i 0 = k ∧ 0 < c_get td 4 i 2 ∧ (b = -1 ∨ (m ≠ 0 ∧ b < (e * c_get td 4 i 1 + c_get td 4 i 2 - 1) / c_get td 4 i 2) ∨ (m = 0 ∧ (e * c_get td 4 i 1 + c_get td 4 i 2 - 1) / c_get td 4 i 2 < b)) then (e * c_get td 4 i 1 + c_get td 4 i 2 - 1) / c_get td 4 i 2 else b
def c_former (ct td si : Nat → Int) (k m : Int) : Int := foldZ (c_fl1 td (c_sw si 1 (c_rows ct td)) k m) (-1) (ct 4).toNat
theorem c_getr {td : Nat → Int} (r : ∀ j, 0 ≤ td j ∧ td j ≤ 999) (a b c : Int) : 0 ≤ c_get td a b c ∧ c_get td a b c ≤ 999 := by
  unfold c_get
  have := r ((a * 8 + b) * 12 + c).toNat
  split <;> omega
theorem c_sitr {si : Nat → Int} (r : ∀ j, 0 ≤ si j ∧ si j ≤ 9) (a : Int) : 0 ≤ c_sit si a ∧ c_sit si a ≤ 9 := by
  unfold c_sit
  have := r a.toNat
  split <;> omega
theorem c_swr {si : Nat → Int} (r : ∀ j, 0 ≤ si j ∧ si j ≤ 9) (a b : Int) (ha : 1 ≤ a) : 0 ≤ c_sw si a b ∧ c_sw si a b ≤ 360 := by
  have := sumZ_b (f := fun i => c_sit si (a + i)) (k := (min b 40 - a + 1).toNat) (lo := 0) (hi := 9) (fun i _ _ => c_sitr r (a + i))
  unfold c_sw
  omega
theorem mulb {a b A B : Int} (ha : 0 ≤ a ∧ a ≤ A) (hb : 0 ≤ b ∧ b ≤ B) : 0 ≤ a * b ∧ a * b ≤ A * B := ⟨Int.mul_nonneg ha.1 hb.1, Int.mul_le_mul ha.2 hb.2 hb.1 (by omega)⟩
set_option maxHeartbeats 1000000 in
set_option maxRecDepth 20000 in
theorem s_X1_count {l : Launch} {n : Nat} {M : jdM} {f : Nat} {ct td bk si ld : Nat → Int} (hF : Fl M n f ct td bk si ld) {a : Int} (ha : -2147483648 ≤ a ∧ a < 2147483648) : Ct l yX1_count cX1_count 2 (some .int) rX1_count [.ref f, jI a] n M (fun vv n' M' => (vv = some (jI (c_count ct a)) ∧ n = n' ∧ M = M') ∧ (0) ≤ (c_count ct a) ∧ (c_count ct a) ≤ 8) := by
  refine Ct_of [some (.ref f), some (jI a)] (by decide) (Nat.le_of_ble_eq_true rfl) rfl (fun κ hl h hR hRt hmn hn0 => ?_)
  have h : Ok κ RX1 cX1_count 2 (some .int) := h
  obtain ⟨hn, hO, hA, hB, hC, hD, hE, rA, rB, r0, rC, rD, rE⟩ := id hF
  have ra := rA a.toNat
  refine jr_iload_n (pc := 0) h dX1_count_0 rfl ?_
  refine jr_if_lt (pc := 1) h 19 dX1_count_1 (by decide) (by omega) (fun c_1 => ?_) (fun c_1 => ?_)
  · skip
    refine jr_iconst (pc := 19) h dX1_count_19 ?_
    refine jr_iret (pc := 20) h hRt dX1_count_20 rfl (Nat.le_of_ble_eq_true rfl) (Nat.le_of_ble_eq_true rfl) ?_
    refine ⟨⟨ji_c ?_, rfl, rfl⟩, ?_⟩
    · unfold c_count
      (repeat' split) <;> omega
    · unfold c_count
      (repeat' split) <;> omega
  · skip
    refine jr_iload_n (pc := 4) h dX1_count_4 rfl ?_
    refine jr_bipush (pc := 5) h dX1_count_5 bp_13 ?_
    refine jr_icmp_ge (pc := 7) h 19 dX1_count_7 (by decide) (by omega) (by omega) (fun c_7 => ?_) (fun c_7 => ?_)
    · skip
      refine jr_iconst (pc := 19) h dX1_count_19 ?_
      refine jr_iret (pc := 20) h hRt dX1_count_20 rfl (Nat.le_of_ble_eq_true rfl) (Nat.le_of_ble_eq_true rfl) ?_
      refine ⟨⟨ji_c ?_, rfl, rfl⟩, ?_⟩
      · unfold c_count
        (repeat' split) <;> omega
      · unfold c_count
        (repeat' split) <;> omega
    · skip
      refine jr_aload_n (pc := 10) h dX1_count_10 rfl ?_
      refine gf_X1_9 (pc := 11) h dX1_count_11 (by assumption) (by omega) ?_
      refine jr_iload_n (pc := 14) h dX1_count_14 rfl ?_
      refine jr_iald (pc := 15) h dX1_count_15 (by assumption) (by omega) (by omega) ?_
      refine jr_goto (pc := 16) h 20 dX1_count_16 (by decide) ?_
      refine jr_iret (pc := 20) h hRt dX1_count_20 rfl (Nat.le_of_ble_eq_true rfl) (Nat.le_of_ble_eq_true rfl) ?_
      refine ⟨⟨ji_c ?_, rfl, rfl⟩, ?_⟩
      · unfold c_count
        (repeat' split) <;> omega
      · unfold c_count
        (repeat' split) <;> omega
set_option maxHeartbeats 1000000 in
set_option maxRecDepth 20000 in
theorem s_X1_get {l : Launch} {n : Nat} {M : jdM} {f : Nat} {ct td bk si ld : Nat → Int} (hF : Fl M n f ct td bk si ld) {a b c : Int} (ha : -2147483648 ≤ a ∧ a < 2147483648) (hb : -2147483648 ≤ b ∧ b < 2147483648) (hc : -2147483648 ≤ c ∧ c < 2147483648) : Ct l yX1_get cX1_get 4 (some .int) rX1_get [.ref f, jI a, jI b, jI c] n M (fun vv n' M' => (vv = some (jI (c_get td a b c)) ∧ n = n' ∧ M = M') ∧ (0) ≤ (c_get td a b c) ∧ (c_get td a b c) ≤ 999) := by
  refine Ct_of [some (.ref f), some (jI a), some (jI b), some (jI c)] (by decide) (Nat.le_of_ble_eq_true rfl) rfl (fun κ hl h hR hRt hmn hn0 => ?_)
  have h : Ok κ RX1 cX1_get 4 (some .int) := h
  obtain ⟨hn, hO, hA, hB, hC, hD, hE, rA, rB, r0, rC, rD, rE⟩ := id hF
  have ra := rB ((a * 8 + b) * 12 + c).toNat
  refine jr_iload_n (pc := 0) h dX1_get_0 rfl ?_
  refine jr_if_lt (pc := 1) h 30 dX1_get_1 (by decide) (by omega) (fun c_1 => ?_) (fun c_1 => ?_)
  · skip
    refine jr_iconst (pc := 30) h dX1_get_30 ?_
    refine jr_iret (pc := 31) h hRt dX1_get_31 rfl (Nat.le_of_ble_eq_true rfl) (Nat.le_of_ble_eq_true rfl) ?_
    refine ⟨⟨ji_c ?_, rfl, rfl⟩, ?_⟩
    · unfold c_get
      (repeat' split) <;> omega
    · unfold c_get
      (repeat' split) <;> omega
  · skip
    refine jr_iload_n (pc := 4) h dX1_get_4 rfl ?_
    refine jr_bipush (pc := 5) h dX1_get_5 bp_13 ?_
    refine jr_icmp_ge (pc := 7) h 30 dX1_get_7 (by decide) (by omega) (by omega) (fun c_7 => ?_) (fun c_7 => ?_)
    · skip
      refine jr_iconst (pc := 30) h dX1_get_30 ?_
      refine jr_iret (pc := 31) h hRt dX1_get_31 rfl (Nat.le_of_ble_eq_true rfl) (Nat.le_of_ble_eq_true rfl) ?_
      refine ⟨⟨ji_c ?_, rfl, rfl⟩, ?_⟩
      · unfold c_get
        (repeat' split) <;> omega
      · unfold c_get
        (repeat' split) <;> omega
    · skip
      refine jr_iload_n (pc := 10) h dX1_get_10 rfl ?_
      refine jr_if_lt (pc := 11) h 30 dX1_get_11 (by decide) (by omega) (fun c_11 => ?_) (fun c_11 => ?_)
      · skip
        refine jr_iconst (pc := 30) h dX1_get_30 ?_
        refine jr_iret (pc := 31) h hRt dX1_get_31 rfl (Nat.le_of_ble_eq_true rfl) (Nat.le_of_ble_eq_true rfl) ?_
        refine ⟨⟨ji_c ?_, rfl, rfl⟩, ?_⟩
        · unfold c_get
          (repeat' split) <;> omega
        · unfold c_get
          (repeat' split) <;> omega
      · skip
        refine jr_iload_n (pc := 14) h dX1_get_14 rfl ?_
        refine jr_bipush (pc := 15) h dX1_get_15 bp_8 ?_
        refine jr_icmp_ge (pc := 17) h 30 dX1_get_17 (by decide) (by omega) (by omega) (fun c_17 => ?_) (fun c_17 => ?_)
        · skip
          refine jr_iconst (pc := 30) h dX1_get_30 ?_
          refine jr_iret (pc := 31) h hRt dX1_get_31 rfl (Nat.le_of_ble_eq_true rfl) (Nat.le_of_ble_eq_true rfl) ?_
          refine ⟨⟨ji_c ?_, rfl, rfl⟩, ?_⟩
          · unfold c_get
            (repeat' split) <;> omega
          · unfold c_get
            (repeat' split) <;> omega
        · skip
          refine jr_iload_n (pc := 20) h dX1_get_20 rfl ?_
          refine jr_if_lt (pc := 21) h 30 dX1_get_21 (by decide) (by omega) (fun c_21 => ?_) (fun c_21 => ?_)
          · skip
            refine jr_iconst (pc := 30) h dX1_get_30 ?_
            refine jr_iret (pc := 31) h hRt dX1_get_31 rfl (Nat.le_of_ble_eq_true rfl) (Nat.le_of_ble_eq_true rfl) ?_
            refine ⟨⟨ji_c ?_, rfl, rfl⟩, ?_⟩
            · unfold c_get
              (repeat' split) <;> omega
            · unfold c_get
              (repeat' split) <;> omega
          · skip
            refine jr_iload_n (pc := 24) h dX1_get_24 rfl ?_
            refine jr_bipush (pc := 25) h dX1_get_25 bp_12 ?_
            refine jr_icmp_lt (pc := 27) h 32 dX1_get_27 (by decide) (by omega) (by omega) (fun c_27 => ?_) (fun c_27 => ?_)
            · skip
              refine jr_aload_n (pc := 32) h dX1_get_32 rfl ?_
              refine gf_X1_15 (pc := 33) h dX1_get_33 (by assumption) (by omega) ?_
              refine jr_iload_n (pc := 36) h dX1_get_36 rfl ?_
              refine jr_bipush (pc := 37) h dX1_get_37 bp_8 ?_
              refine jr_imul (pc := 39) h dX1_get_39 ?_
              refine jr_iload_n (pc := 40) h dX1_get_40 rfl ?_
              refine jr_iadd (pc := 41) h dX1_get_41 ?_
              refine jr_bipush (pc := 42) h dX1_get_42 bp_12 ?_
              refine jr_imul (pc := 44) h dX1_get_44 ?_
              refine jr_iload_n (pc := 45) h dX1_get_45 rfl ?_
              refine jr_iadd (pc := 46) h dX1_get_46 ?_
              refine jr_iald (pc := 47) h dX1_get_47 (by assumption) (by omega) (by omega) ?_
              refine jr_iret (pc := 48) h hRt dX1_get_48 rfl (Nat.le_of_ble_eq_true rfl) (Nat.le_of_ble_eq_true rfl) ?_
              refine ⟨⟨ji_c ?_, rfl, rfl⟩, ?_⟩
              · unfold c_get
                (repeat' split) <;> omega
              · unfold c_get
                (repeat' split) <;> omega
            · skip
              refine jr_iconst (pc := 30) h dX1_get_30 ?_
              refine jr_iret (pc := 31) h hRt dX1_get_31 rfl (Nat.le_of_ble_eq_true rfl) (Nat.le_of_ble_eq_true rfl) ?_
              refine ⟨⟨ji_c ?_, rfl, rfl⟩, ?_⟩
              · unfold c_get
                (repeat' split) <;> omega
              · unfold c_get
                (repeat' split) <;> omega
set_option maxHeartbeats 1000000 in
set_option maxRecDepth 20000 in
theorem s_X1_lacks {l : Launch} {n : Nat} {M : jdM} {f : Nat} {ct td bk si ld : Nat → Int} (hF : Fl M n f ct td bk si ld) : Ct l yX1_lacks cX1_lacks 1 (some .boolean) rX1_lacks [.ref f] n M (fun vv n' M' => (vv = some (jI (bz (ct 0 = 0 ∨ ct 1 = 0 ∨ ct 2 = 0 ∨ ct 5 = 0))) ∧ n = n' ∧ M = M') ∧ (0) ≤ (bz (ct 0 = 0 ∨ ct 1 = 0 ∨ ct 2 = 0 ∨ ct 5 = 0)) ∧ (bz (ct 0 = 0 ∨ ct 1 = 0 ∨ ct 2 = 0 ∨ ct 5 = 0)) ≤ 1) := by
  refine Ct_of [some (.ref f)] (by decide) (Nat.le_of_ble_eq_true rfl) rfl (fun κ hl h hR hRt hmn hn0 => ?_)
  have h : Ok κ RX1 cX1_lacks 1 (some .boolean) := h
  obtain ⟨hn, hO, hA, hB, hC, hD, hE, rA, rB, r0, rC, rD, rE⟩ := id hF
  have a0 := rA 0
  have a1 := rA 1
  have a2 := rA 2
  have a5 := rA 5
  refine jr_aload_n (pc := 0) h dX1_lacks_0 rfl ?_
  refine gf_X1_9 (pc := 1) h dX1_lacks_1 (by assumption) (by omega) ?_
  refine jr_iconst (pc := 4) h dX1_lacks_4 ?_
  refine jr_ialdc (pc := 5) h (0 : Nat) rfl dX1_lacks_5 (by assumption) (by omega) (by decide) ?_
  refine jr_if_eq (pc := 6) h 36 dX1_lacks_6 (by decide) (by omega) (fun c_6 => ?_) (fun c_6 => ?_)
  · skip
    refine jr_iconst (pc := 36) h dX1_lacks_36 ?_
    refine jr_goto (pc := 37) h 41 dX1_lacks_37 (by decide) ?_
    refine jr_iret (pc := 41) h hRt dX1_lacks_41 rfl (Nat.le_of_ble_eq_true rfl) (Nat.le_of_ble_eq_true rfl) ?_
    refine ⟨⟨ji_c ?_, rfl, rfl⟩, bz_r _⟩
    first | rw [bz_t (by omega)] | rw [bz_f (by omega)]
  · skip
    refine jr_aload_n (pc := 9) h dX1_lacks_9 rfl ?_
    refine gf_X1_9 (pc := 10) h dX1_lacks_10 (by assumption) (by omega) ?_
    refine jr_iconst (pc := 13) h dX1_lacks_13 ?_
    refine jr_ialdc (pc := 14) h (1 : Nat) rfl dX1_lacks_14 (by assumption) (by omega) (by decide) ?_
    refine jr_if_eq (pc := 15) h 36 dX1_lacks_15 (by decide) (by omega) (fun c_15 => ?_) (fun c_15 => ?_)
    · skip
      refine jr_iconst (pc := 36) h dX1_lacks_36 ?_
      refine jr_goto (pc := 37) h 41 dX1_lacks_37 (by decide) ?_
      refine jr_iret (pc := 41) h hRt dX1_lacks_41 rfl (Nat.le_of_ble_eq_true rfl) (Nat.le_of_ble_eq_true rfl) ?_
      refine ⟨⟨ji_c ?_, rfl, rfl⟩, bz_r _⟩
      first | rw [bz_t (by omega)] | rw [bz_f (by omega)]
    · skip
      refine jr_aload_n (pc := 18) h dX1_lacks_18 rfl ?_
      refine gf_X1_9 (pc := 19) h dX1_lacks_19 (by assumption) (by omega) ?_
      refine jr_iconst (pc := 22) h dX1_lacks_22 ?_
      refine jr_ialdc (pc := 23) h (2 : Nat) rfl dX1_lacks_23 (by assumption) (by omega) (by decide) ?_
      refine jr_if_eq (pc := 24) h 36 dX1_lacks_24 (by decide) (by omega) (fun c_24 => ?_) (fun c_24 => ?_)
      · skip
        refine jr_iconst (pc := 36) h dX1_lacks_36 ?_
        refine jr_goto (pc := 37) h 41 dX1_lacks_37 (by decide) ?_
        refine jr_iret (pc := 41) h hRt dX1_lacks_41 rfl (Nat.le_of_ble_eq_true rfl) (Nat.le_of_ble_eq_true rfl) ?_
        refine ⟨⟨ji_c ?_, rfl, rfl⟩, bz_r _⟩
        first | rw [bz_t (by omega)] | rw [bz_f (by omega)]
      · skip
        refine jr_aload_n (pc := 27) h dX1_lacks_27 rfl ?_
        refine gf_X1_9 (pc := 28) h dX1_lacks_28 (by assumption) (by omega) ?_
        refine jr_iconst (pc := 31) h dX1_lacks_31 ?_
        refine jr_ialdc (pc := 32) h (5 : Nat) rfl dX1_lacks_32 (by assumption) (by omega) (by decide) ?_
        refine jr_if_ne (pc := 33) h 40 dX1_lacks_33 (by decide) (by omega) (fun c_33 => ?_) (fun c_33 => ?_)
        · skip
          refine jr_iconst (pc := 40) h dX1_lacks_40 ?_
          refine jr_iret (pc := 41) h hRt dX1_lacks_41 rfl (Nat.le_of_ble_eq_true rfl) (Nat.le_of_ble_eq_true rfl) ?_
          refine ⟨⟨ji_c ?_, rfl, rfl⟩, bz_r _⟩
          first | rw [bz_t (by omega)] | rw [bz_f (by omega)]
        · skip
          refine jr_iconst (pc := 36) h dX1_lacks_36 ?_
          refine jr_goto (pc := 37) h 41 dX1_lacks_37 (by decide) ?_
          refine jr_iret (pc := 41) h hRt dX1_lacks_41 rfl (Nat.le_of_ble_eq_true rfl) (Nat.le_of_ble_eq_true rfl) ?_
          refine ⟨⟨ji_c ?_, rfl, rfl⟩, bz_r _⟩
          first | rw [bz_t (by omega)] | rw [bz_f (by omega)]
set_option maxHeartbeats 1000000 in
set_option maxRecDepth 20000 in
theorem s_X1_isFull {l : Launch} {n : Nat} {M : jdM} {f : Nat} {ct td bk si ld : Nat → Int} (hF : Fl M n f ct td bk si ld) {a : Int} (ha : -2147483648 ≤ a ∧ a < 2147483648) : Ct l yX1_isFull cX1_isFull 2 (some .boolean) rX1_isFull [.ref f, jI a] n M (fun vv n' M' => (vv = some (jI (bz (a < 0 ∨ 13 ≤ a ∨ (jtab 0).2.2 a.toNat ≤ ct a.toNat))) ∧ n = n' ∧ M = M') ∧ (0) ≤ (bz (a < 0 ∨ 13 ≤ a ∨ (jtab 0).2.2 a.toNat ≤ ct a.toNat)) ∧ (bz (a < 0 ∨ 13 ≤ a ∨ (jtab 0).2.2 a.toNat ≤ ct a.toNat)) ≤ 1) := by
  refine Ct_of [some (.ref f), some (jI a)] (by decide) (Nat.le_of_ble_eq_true rfl) rfl (fun κ hl h hR hRt hmn hn0 => ?_)
  have h : Ok κ RX1 cX1_isFull 2 (some .boolean) := h
  obtain ⟨hn, hO, hA, hB, hC, hD, hE, rA, rB, r0, rC, rD, rE⟩ := id hF
  have ra := rA a.toNat
  refine jr_iload_n (pc := 0) h dX1_isFull_0 rfl ?_
  refine jr_if_lt (pc := 1) h 24 dX1_isFull_1 (by decide) (by omega) (fun c_1 => ?_) (fun c_1 => ?_)
  · skip
    refine jr_iconst (pc := 24) h dX1_isFull_24 ?_
    refine jr_goto (pc := 25) h 29 dX1_isFull_25 (by decide) ?_
    refine jr_iret (pc := 29) h hRt dX1_isFull_29 rfl (Nat.le_of_ble_eq_true rfl) (Nat.le_of_ble_eq_true rfl) ?_
    refine ⟨⟨ji_c ?_, rfl, rfl⟩, bz_r _⟩
    first | rw [bz_t (by omega)] | rw [bz_f (by omega)]
  · skip
    refine jr_iload_n (pc := 4) h dX1_isFull_4 rfl ?_
    refine jr_bipush (pc := 5) h dX1_isFull_5 bp_13 ?_
    refine jr_icmp_ge (pc := 7) h 24 dX1_isFull_7 (by decide) (by omega) (by omega) (fun c_7 => ?_) (fun c_7 => ?_)
    · skip
      refine jr_iconst (pc := 24) h dX1_isFull_24 ?_
      refine jr_goto (pc := 25) h 29 dX1_isFull_25 (by decide) ?_
      refine jr_iret (pc := 29) h hRt dX1_isFull_29 rfl (Nat.le_of_ble_eq_true rfl) (Nat.le_of_ble_eq_true rfl) ?_
      refine ⟨⟨ji_c ?_, rfl, rfl⟩, bz_r _⟩
      first | rw [bz_t (by omega)] | rw [bz_f (by omega)]
    · skip
      refine jr_aload_n (pc := 10) h dX1_isFull_10 rfl ?_
      refine gf_X1_9 (pc := 11) h dX1_isFull_11 (by assumption) (by omega) ?_
      refine jr_iload_n (pc := 14) h dX1_isFull_14 rfl ?_
      refine jr_iald (pc := 15) h dX1_isFull_15 (by assumption) (by omega) (by omega) ?_
      refine jr_getsN (pc := 16) h (host := "TwoTrolleys") 0 (by decide) (by decide +kernel) dX1_isFull_16 ?_
      refine jr_iload_n (pc := 19) h dX1_isFull_19 rfl ?_
      refine jr_tabld (pc := 20) h 0 (by decide) dX1_isFull_20 ⟨by omega, by show _ < ((13 : Nat) : Int); omega, by omega⟩ ?_
      have lr := lim_r a.toNat (by omega)
      refine jr_icmp_lt (pc := 21) h 28 dX1_isFull_21 (by decide) (by omega) (by omega) (fun c_21 => ?_) (fun c_21 => ?_)
      · skip
        refine jr_iconst (pc := 28) h dX1_isFull_28 ?_
        refine jr_iret (pc := 29) h hRt dX1_isFull_29 rfl (Nat.le_of_ble_eq_true rfl) (Nat.le_of_ble_eq_true rfl) ?_
        refine ⟨⟨ji_c ?_, rfl, rfl⟩, bz_r _⟩
        first | rw [bz_t (by omega)] | rw [bz_f (by omega)]
      · skip
        refine jr_iconst (pc := 24) h dX1_isFull_24 ?_
        refine jr_goto (pc := 25) h 29 dX1_isFull_25 (by decide) ?_
        refine jr_iret (pc := 29) h hRt dX1_isFull_29 rfl (Nat.le_of_ble_eq_true rfl) (Nat.le_of_ble_eq_true rfl) ?_
        refine ⟨⟨ji_c ?_, rfl, rfl⟩, bz_r _⟩
        first | rw [bz_t (by omega)] | rw [bz_f (by omega)]
set_option maxHeartbeats 1000000 in
set_option maxRecDepth 20000 in
theorem s_X1_rows {l : Launch} {n : Nat} {M : jdM} {f : Nat} {ct td bk si ld : Nat → Int} (hF : Fl M n f ct td bk si ld) : Ct l yX1_rows cX1_rows 1 (some .int) rX1_rows [.ref f] n M (fun vv n' M' => (vv = some (jI (c_rows ct td)) ∧ n = n' ∧ M = M') ∧ (0) ≤ (c_rows ct td) ∧ (c_rows ct td) ≤ 40) := by
  refine Ct_of [some (.ref f)] (by decide) (Nat.le_of_ble_eq_true rfl) rfl (fun κ hl h hR hRt hmn hn0 => ?_)
  have h : Ok κ RX1 cX1_rows 1 (some .int) := h
  obtain ⟨hn, hO, hA, hB, hC, hD, hE, rA, rB, r0, rC, rD, rE⟩ := id hF
  have a0 := rA 0
  refine jr_aload_n (pc := 0) h dX1_rows_0 rfl ?_
  refine gf_X1_9 (pc := 1) h dX1_rows_1 (by assumption) (by omega) ?_
  refine jr_iconst (pc := 4) h dX1_rows_4 ?_
  refine jr_ialdc (pc := 5) h (0 : Nat) rfl dX1_rows_5 (by assumption) (by omega) (by decide) ?_
  refine jr_if_ne (pc := 6) h 13 dX1_rows_6 (by decide) (by omega) (fun c_6 => ?_) (fun c_6 => ?_)
  · skip
    refine jr_aload_n (pc := 13) h dX1_rows_13 rfl ?_
    refine jr_iconst (pc := 14) h dX1_rows_14 ?_
    refine jr_iconst (pc := 15) h dX1_rows_15 ?_
    refine jr_iconst (pc := 16) h dX1_rows_16 ?_
    refine iv_X1_48 (pc := 17) h hl hR dX1_rows_17 ⟨(Nat.le_of_ble_eq_true rfl), (Nat.le_of_ble_eq_true rfl), (Nat.le_of_ble_eq_true rfl), (Nat.le_of_ble_eq_true rfl)⟩ (Nat.le_of_ble_eq_true rfl) (by assumption) (by omega) (s_X1_get hF (by omega) (by omega) (by omega)) (fun v_17 n_17 M_17 hn_17 hp => ?_)
    obtain ⟨⟨rfl, rfl, rfl⟩, gr_17⟩ := hp
    refine jr_iret (pc := 20) h hRt dX1_rows_20 rfl (Nat.le_of_ble_eq_true rfl) (Nat.le_of_ble_eq_true rfl) ?_
    refine ⟨⟨ji_c ?_, rfl, rfl⟩, ?_⟩
    · unfold c_rows
      split <;> omega
    · unfold c_rows c_get
      have := rB 0
      simp
      split <;> omega
  · skip
    refine jr_iconst (pc := 9) h dX1_rows_9 ?_
    refine jr_goto (pc := 10) h 20 dX1_rows_10 (by decide) ?_
    refine jr_iret (pc := 20) h hRt dX1_rows_20 rfl (Nat.le_of_ble_eq_true rfl) (Nat.le_of_ble_eq_true rfl) ?_
    refine ⟨⟨ji_c ?_, rfl, rfl⟩, ?_⟩
    · unfold c_rows
      split <;> omega
    · unfold c_rows c_get
      have := rB 0
      simp
      split <;> omega
set_option maxHeartbeats 1000000 in
set_option maxRecDepth 20000 in
theorem s_X1_walk {l : Launch} {n : Nat} {M : jdM} {f : Nat} {ct td bk si ld : Nat → Int} (hF : Fl M n f ct td bk si ld) : Ct l yX1_walk cX1_walk 1 (some .int) rX1_walk [.ref f] n M (fun vv n' M' => (vv = some (jI (c_get td 0 0 1)) ∧ n = n' ∧ M = M') ∧ (0) ≤ (c_get td 0 0 1) ∧ (c_get td 0 0 1) ≤ 999) := by
  refine Ct_of [some (.ref f)] (by decide) (Nat.le_of_ble_eq_true rfl) rfl (fun κ hl h hR hRt hmn hn0 => ?_)
  have h : Ok κ RX1 cX1_walk 1 (some .int) := h
  obtain ⟨hn, hO, hA, hB, hC, hD, hE, rA, rB, r0, rC, rD, rE⟩ := id hF
  refine jr_aload_n (pc := 0) h dX1_walk_0 rfl ?_
  refine jr_iconst (pc := 1) h dX1_walk_1 ?_
  refine jr_iconst (pc := 2) h dX1_walk_2 ?_
  refine jr_iconst (pc := 3) h dX1_walk_3 ?_
  refine iv_X1_48 (pc := 4) h hl hR dX1_walk_4 ⟨(Nat.le_of_ble_eq_true rfl), (Nat.le_of_ble_eq_true rfl), (Nat.le_of_ble_eq_true rfl), (Nat.le_of_ble_eq_true rfl)⟩ (Nat.le_of_ble_eq_true rfl) (by assumption) (by omega) (s_X1_get hF (by omega) (by omega) (by omega)) (fun v_4 n_4 M_4 hn_4 hp => ?_)
  obtain ⟨⟨rfl, rfl, rfl⟩, gr_4⟩ := hp
  refine jr_iret (pc := 7) h hRt dX1_walk_7 rfl (Nat.le_of_ble_eq_true rfl) (Nat.le_of_ble_eq_true rfl) ?_
  exact ⟨⟨rfl, rfl, rfl⟩, by omega⟩
set_option maxHeartbeats 1000000 in
set_option maxRecDepth 20000 in
theorem s_X1_serve {l : Launch} {n : Nat} {M : jdM} {f : Nat} {ct td bk si ld : Nat → Int} (hF : Fl M n f ct td bk si ld) : Ct l yX1_serve cX1_serve 1 (some .int) rX1_serve [.ref f] n M (fun vv n' M' => (vv = some (jI (c_get td 0 0 2)) ∧ n = n' ∧ M = M') ∧ (0) ≤ (c_get td 0 0 2) ∧ (c_get td 0 0 2) ≤ 999) := by
  refine Ct_of [some (.ref f)] (by decide) (Nat.le_of_ble_eq_true rfl) rfl (fun κ hl h hR hRt hmn hn0 => ?_)
  have h : Ok κ RX1 cX1_serve 1 (some .int) := h
  obtain ⟨hn, hO, hA, hB, hC, hD, hE, rA, rB, r0, rC, rD, rE⟩ := id hF
  refine jr_aload_n (pc := 0) h dX1_serve_0 rfl ?_
  refine jr_iconst (pc := 1) h dX1_serve_1 ?_
  refine jr_iconst (pc := 2) h dX1_serve_2 ?_
  refine jr_iconst (pc := 3) h dX1_serve_3 ?_
  refine iv_X1_48 (pc := 4) h hl hR dX1_serve_4 ⟨(Nat.le_of_ble_eq_true rfl), (Nat.le_of_ble_eq_true rfl), (Nat.le_of_ble_eq_true rfl), (Nat.le_of_ble_eq_true rfl)⟩ (Nat.le_of_ble_eq_true rfl) (by assumption) (by omega) (s_X1_get hF (by omega) (by omega) (by omega)) (fun v_4 n_4 M_4 hn_4 hp => ?_)
  obtain ⟨⟨rfl, rfl, rfl⟩, gr_4⟩ := hp
  refine jr_iret (pc := 7) h hRt dX1_serve_7 rfl (Nat.le_of_ble_eq_true rfl) (Nat.le_of_ble_eq_true rfl) ?_
  exact ⟨⟨rfl, rfl, rfl⟩, by omega⟩
set_option maxHeartbeats 1000000 in
set_option maxRecDepth 20000 in
theorem s_X1_blockOf {l : Launch} {n : Nat} {M : jdM} {f : Nat} {ct td bk si ld : Nat → Int} (hF : Fl M n f ct td bk si ld) {a : Int} (ha : -2147483648 ≤ a ∧ a < 2147483648) : Ct l yX1_blockOf cX1_blockOf 2 (some .int) rX1_blockOf [.ref f, jI a] n M (fun vv n' M' => (vv = some (jI (c_blk bk a)) ∧ n = n' ∧ M = M') ∧ (-1) ≤ (c_blk bk a) ∧ (c_blk bk a) ≤ 8) := by
  refine Ct_of [some (.ref f), some (jI a)] (by decide) (Nat.le_of_ble_eq_true rfl) rfl (fun κ hl h hR hRt hmn hn0 => ?_)
  have h : Ok κ RX1 cX1_blockOf 2 (some .int) := h
  obtain ⟨hn, hO, hA, hB, hC, hD, hE, rA, rB, r0, rC, rD, rE⟩ := id hF
  have ra := rC a.toNat
  refine jr_iload_n (pc := 0) h dX1_blockOf_0 rfl ?_
  refine jr_iconst (pc := 1) h dX1_blockOf_1 ?_
  refine jr_icmp_lt (pc := 2) h 20 dX1_blockOf_2 (by decide) (by omega) (by omega) (fun c_2 => ?_) (fun c_2 => ?_)
  · skip
    refine jr_iconst (pc := 20) h dX1_blockOf_20 ?_
    refine jr_iret (pc := 21) h hRt dX1_blockOf_21 rfl (Nat.le_of_ble_eq_true rfl) (Nat.le_of_ble_eq_true rfl) ?_
    refine ⟨⟨ji_c ?_, rfl, rfl⟩, ?_⟩
    · unfold c_blk
      (repeat' split) <;> omega
    · unfold c_blk
      (repeat' split) <;> omega
  · skip
    refine jr_iload_n (pc := 5) h dX1_blockOf_5 rfl ?_
    refine jr_bipush (pc := 6) h dX1_blockOf_6 bp_40 ?_
    refine jr_icmp_gt (pc := 8) h 20 dX1_blockOf_8 (by decide) (by omega) (by omega) (fun c_8 => ?_) (fun c_8 => ?_)
    · skip
      refine jr_iconst (pc := 20) h dX1_blockOf_20 ?_
      refine jr_iret (pc := 21) h hRt dX1_blockOf_21 rfl (Nat.le_of_ble_eq_true rfl) (Nat.le_of_ble_eq_true rfl) ?_
      refine ⟨⟨ji_c ?_, rfl, rfl⟩, ?_⟩
      · unfold c_blk
        (repeat' split) <;> omega
      · unfold c_blk
        (repeat' split) <;> omega
    · skip
      refine jr_aload_n (pc := 11) h dX1_blockOf_11 rfl ?_
      refine gf_X1_18 (pc := 12) h dX1_blockOf_12 (by assumption) (by omega) ?_
      refine jr_iload_n (pc := 15) h dX1_blockOf_15 rfl ?_
      refine jr_iald (pc := 16) h dX1_blockOf_16 (by assumption) (by omega) (by omega) ?_
      refine jr_goto (pc := 17) h 21 dX1_blockOf_17 (by decide) ?_
      refine jr_iret (pc := 21) h hRt dX1_blockOf_21 rfl (Nat.le_of_ble_eq_true rfl) (Nat.le_of_ble_eq_true rfl) ?_
      refine ⟨⟨ji_c ?_, rfl, rfl⟩, ?_⟩
      · unfold c_blk
        (repeat' split) <;> omega
      · unfold c_blk
        (repeat' split) <;> omega
set_option maxHeartbeats 1000000 in
set_option maxRecDepth 20000 in
theorem s_X1_sitting {l : Launch} {n : Nat} {M : jdM} {f : Nat} {ct td bk si ld : Nat → Int} (hF : Fl M n f ct td bk si ld) {a : Int} (ha : -2147483648 ≤ a ∧ a < 2147483648) : Ct l yX1_sitting cX1_sitting 2 (some .int) rX1_sitting [.ref f, jI a] n M (fun vv n' M' => (vv = some (jI (c_sit si a)) ∧ n = n' ∧ M = M') ∧ (0) ≤ (c_sit si a) ∧ (c_sit si a) ≤ 9) := by
  refine Ct_of [some (.ref f), some (jI a)] (by decide) (Nat.le_of_ble_eq_true rfl) rfl (fun κ hl h hR hRt hmn hn0 => ?_)
  have h : Ok κ RX1 cX1_sitting 2 (some .int) := h
  obtain ⟨hn, hO, hA, hB, hC, hD, hE, rA, rB, r0, rC, rD, rE⟩ := id hF
  have ra := rD a.toNat
  refine jr_iload_n (pc := 0) h dX1_sitting_0 rfl ?_
  refine jr_iconst (pc := 1) h dX1_sitting_1 ?_
  refine jr_icmp_lt (pc := 2) h 20 dX1_sitting_2 (by decide) (by omega) (by omega) (fun c_2 => ?_) (fun c_2 => ?_)
  · skip
    refine jr_iconst (pc := 20) h dX1_sitting_20 ?_
    refine jr_iret (pc := 21) h hRt dX1_sitting_21 rfl (Nat.le_of_ble_eq_true rfl) (Nat.le_of_ble_eq_true rfl) ?_
    refine ⟨⟨ji_c ?_, rfl, rfl⟩, ?_⟩
    · unfold c_sit
      (repeat' split) <;> omega
    · unfold c_sit
      (repeat' split) <;> omega
  · skip
    refine jr_iload_n (pc := 5) h dX1_sitting_5 rfl ?_
    refine jr_bipush (pc := 6) h dX1_sitting_6 bp_40 ?_
    refine jr_icmp_gt (pc := 8) h 20 dX1_sitting_8 (by decide) (by omega) (by omega) (fun c_8 => ?_) (fun c_8 => ?_)
    · skip
      refine jr_iconst (pc := 20) h dX1_sitting_20 ?_
      refine jr_iret (pc := 21) h hRt dX1_sitting_21 rfl (Nat.le_of_ble_eq_true rfl) (Nat.le_of_ble_eq_true rfl) ?_
      refine ⟨⟨ji_c ?_, rfl, rfl⟩, ?_⟩
      · unfold c_sit
        (repeat' split) <;> omega
      · unfold c_sit
        (repeat' split) <;> omega
    · skip
      refine jr_aload_n (pc := 11) h dX1_sitting_11 rfl ?_
      refine gf_X1_21 (pc := 12) h dX1_sitting_12 (by assumption) (by omega) ?_
      refine jr_iload_n (pc := 15) h dX1_sitting_15 rfl ?_
      refine jr_iald (pc := 16) h dX1_sitting_16 (by assumption) (by omega) (by omega) ?_
      refine jr_goto (pc := 17) h 21 dX1_sitting_17 (by decide) ?_
      refine jr_iret (pc := 21) h hRt dX1_sitting_21 rfl (Nat.le_of_ble_eq_true rfl) (Nat.le_of_ble_eq_true rfl) ?_
      refine ⟨⟨ji_c ?_, rfl, rfl⟩, ?_⟩
      · unfold c_sit
        (repeat' split) <;> omega
      · unfold c_sit
        (repeat' split) <;> omega
set_option maxHeartbeats 2000000 in
set_option maxRecDepth 20000 in
theorem s_X1_sittingWithin {l : Launch} {n : Nat} {M : jdM} {f : Nat} {ct td bk si ld : Nat → Int} (hF : Fl M n f ct td bk si ld) {a b : Int} (ha : 1 ≤ a ∧ a ≤ 1000) (hb : -2147483648 ≤ b ∧ b < 2147483648) : Ct l yX1_sittingWithin cX1_sittingWithin 5 (some .int) rX1_sittingWithin [.ref f, jI a, jI b] n M (fun vv n' M' => (vv = some (jI (c_sw si a b)) ∧ n = n' ∧ M = M') ∧ (0) ≤ (c_sw si a b) ∧ (c_sw si a b) ≤ 360) := by
  refine Ct_of [some (.ref f), some (jI a), some (jI b), none, none] (by decide) (Nat.le_of_ble_eq_true rfl) rfl (fun κ hl h hR hRt hmn hn0 => ?_)
  have h : Ok κ RX1 cX1_sittingWithin 5 (some .int) := h
  obtain ⟨hn, hO, hA, hB, hC, hD, hE, rA, rB, r0, rC, rD, rE⟩ := id hF
  have rs := c_swr rD a b ha.1
  have loop : ∀ (dq : Nat) (x i : Int), (a ≤ i ∧ (i = a ∨ i ≤ min b 40 + 1)) → (x = sumZ (fun i => c_sit si (a + i)) (i - a).toNat) → (1100 - i).toNat < dq → J κ 5 0 0 n 5 [some (.ref f), some (jI a), some (jI b), some (jI x), some (jI i)] [] M := by
    intro dq
    induction dq with
    | zero => intro x i hi hx hd; omega
    | succ dq ih =>
      intro x i hi hx hd
      refine jr_iload (pc := 5) h dX1_sittingWithin_5 rfl ?_
      refine jr_iload_n (pc := 7) h dX1_sittingWithin_7 rfl ?_
      refine jr_icmp_gt (pc := 8) h 33 dX1_sittingWithin_8 (by decide) (by omega) (by omega) (fun c_8 => ?_) (fun c_8 => ?_)
      · skip
        refine jr_iload_n (pc := 33) h dX1_sittingWithin_33 rfl ?_
        refine jr_iret (pc := 34) h hRt dX1_sittingWithin_34 rfl (Nat.le_of_ble_eq_true rfl) (Nat.le_of_ble_eq_true rfl) ?_
        refine ⟨⟨ji_c ?_, rfl, rfl⟩, rs⟩
        rw [hx]
        unfold c_sw
        congr 1
        omega
      · skip
        refine jr_iload (pc := 11) h dX1_sittingWithin_11 rfl ?_
        refine jr_bipush (pc := 13) h dX1_sittingWithin_13 bp_40 ?_
        refine jr_icmp_gt (pc := 15) h 33 dX1_sittingWithin_15 (by decide) (by omega) (by omega) (fun c_15 => ?_) (fun c_15 => ?_)
        · skip
          refine jr_iload_n (pc := 33) h dX1_sittingWithin_33 rfl ?_
          refine jr_iret (pc := 34) h hRt dX1_sittingWithin_34 rfl (Nat.le_of_ble_eq_true rfl) (Nat.le_of_ble_eq_true rfl) ?_
          refine ⟨⟨ji_c ?_, rfl, rfl⟩, rs⟩
          rw [hx]
          unfold c_sw
          congr 1
          omega
        · skip
          refine jr_iload_n (pc := 18) h dX1_sittingWithin_18 rfl ?_
          refine jr_aload_n (pc := 19) h dX1_sittingWithin_19 rfl ?_
          refine jr_iload (pc := 20) h dX1_sittingWithin_20 rfl ?_
          refine iv_X1_64 (pc := 22) h hl hR dX1_sittingWithin_22 ⟨(Nat.le_of_ble_eq_true rfl), (Nat.le_of_ble_eq_true rfl), (Nat.le_of_ble_eq_true rfl), (Nat.le_of_ble_eq_true rfl)⟩ (Nat.le_of_ble_eq_true rfl) (by assumption) (by omega) (s_X1_sitting hF (by omega)) (fun v_22 n_22 M_22 hn_22 hp => ?_)
          obtain ⟨⟨rfl, rfl, rfl⟩, gr_22⟩ := hp
          refine jr_iadd (pc := 25) h dX1_sittingWithin_25 ?_
          refine jr_istore_n (pc := 26) h [_, _, _, _, _] dX1_sittingWithin_26 (by decide) rfl ?_
          refine jr_iinc (pc := 27) h [_, _, _, _, _] dX1_sittingWithin_27 (by decide) rfl rfl ?_
          refine jr_goto (pc := 30) h 5 dX1_sittingWithin_30 (by decide) ?_
          refine ih _ _ (by omega) ?_ (by omega)
          rw [show i + 1 - a = (i - a) + 1 by omega, sumZ_s (by omega), hx, show a + (i - a) = i by omega]
  refine jr_iconst (pc := 0) h dX1_sittingWithin_0 ?_
  refine jr_istore_n (pc := 1) h [_, _, _, _, _] dX1_sittingWithin_1 (by decide) rfl ?_
  refine jr_iload_n (pc := 2) h dX1_sittingWithin_2 rfl ?_
  refine jr_istore (pc := 3) h [_, _, _, _, _] dX1_sittingWithin_3 (by decide) rfl ?_
  exact loop _ _ _ (by omega) (by rw [Int.sub_self]; rfl) (Nat.lt_succ_self _)
set_option maxHeartbeats 2000000 in
set_option maxRecDepth 20000 in
theorem s_X1_namedIn {l : Launch} {n : Nat} {M : jdM} {f : Nat} {ct td bk si ld : Nat → Int} (hF : Fl M n f ct td bk si ld) {a : Int} (ha : -2147483648 ≤ a ∧ a < 2147483648) : Ct l yX1_namedIn cX1_namedIn 4 (some .int) rX1_namedIn [.ref f, jI a] n M (fun vv n' M' => (vv = some (jI (c_named ct td a)) ∧ n = n' ∧ M = M') ∧ (0) ≤ (c_named ct td a) ∧ (c_named ct td a) ≤ 8) := by
  refine Ct_of [some (.ref f), some (jI a), none, none] (by decide) (Nat.le_of_ble_eq_true rfl) rfl (fun κ hl h hR hRt hmn hn0 => ?_)
  have h : Ok κ RX1 cX1_namedIn 4 (some .int) := h
  obtain ⟨hn, hO, hA, hB, hC, hD, hE, rA, rB, r0, rC, rD, rE⟩ := id hF
  have a8 := rA 8
  have loop : ∀ (dq : Nat) (x i : Int), (0 ≤ i ∧ i ≤ ct 8) → (x = sumZ (fun i => if c_get td 8 i 0 = a then 1 else 0) i.toNat) → (0 ≤ x ∧ x ≤ i) → (8 - i).toNat < dq → J κ 4 0 0 n 4 [some (.ref f), some (jI a), some (jI x), some (jI i)] [] M := by
    intro dq
    induction dq with
    | zero => intro x i hi hx hb hd; omega
    | succ dq ih =>
      intro x i hi hx hb hd
      refine jr_iload_n (pc := 4) h dX1_namedIn_4 rfl ?_
      refine jr_aload_n (pc := 5) h dX1_namedIn_5 rfl ?_
      refine gf_X1_9 (pc := 6) h dX1_namedIn_6 (by assumption) (by omega) ?_
      refine jr_bipush (pc := 9) h dX1_namedIn_9 bp_8 ?_
      refine jr_ialdc (pc := 11) h (8 : Nat) rfl dX1_namedIn_11 (by assumption) (by omega) (by decide) ?_
      refine jr_icmp_ge (pc := 12) h 36 dX1_namedIn_12 (by decide) (by omega) (by omega) (fun c_12 => ?_) (fun c_12 => ?_)
      · skip
        refine jr_iload_n (pc := 36) h dX1_namedIn_36 rfl ?_
        refine jr_iret (pc := 37) h hRt dX1_namedIn_37 rfl (Nat.le_of_ble_eq_true rfl) (Nat.le_of_ble_eq_true rfl) ?_
        have e : i = ct 8 := by omega
        refine ⟨⟨ji_c ?_, rfl, rfl⟩, ?_⟩
        · rw [hx, e]; rfl
        · unfold c_named; rw [← e, ← hx]; omega
      · skip
        refine jr_aload_n (pc := 15) h dX1_namedIn_15 rfl ?_
        refine jr_bipush (pc := 16) h dX1_namedIn_16 bp_8 ?_
        refine jr_iload_n (pc := 18) h dX1_namedIn_18 rfl ?_
        refine jr_iconst (pc := 19) h dX1_namedIn_19 ?_
        refine iv_X1_48 (pc := 20) h hl hR dX1_namedIn_20 ⟨(Nat.le_of_ble_eq_true rfl), (Nat.le_of_ble_eq_true rfl), (Nat.le_of_ble_eq_true rfl), (Nat.le_of_ble_eq_true rfl)⟩ (Nat.le_of_ble_eq_true rfl) (by assumption) (by omega) (s_X1_get hF (by omega) (by omega) (by omega)) (fun v_20 n_20 M_20 hn_20 hp => ?_)
        obtain ⟨⟨rfl, rfl, rfl⟩, gr_20⟩ := hp
        refine jr_iload_n (pc := 23) h dX1_namedIn_23 rfl ?_
        refine jr_icmp_ne (pc := 24) h 30 dX1_namedIn_24 (by decide) (by omega) (by omega) (fun c_24 => ?_) (fun c_24 => ?_)
        · skip
          refine jr_iinc (pc := 30) h [_, _, _, _] dX1_namedIn_30 (by decide) rfl rfl ?_
          refine jr_goto (pc := 33) h 4 dX1_namedIn_33 (by decide) ?_
          refine ih _ _ (by omega) ?_ (by omega) (by omega)
          rw [sumZ_s (by omega)]
          first | rw [if_pos (by omega)] | rw [if_neg (by omega)]
          omega
        · skip
          refine jr_iinc (pc := 27) h [_, _, _, _] dX1_namedIn_27 (by decide) rfl rfl ?_
          refine jr_iinc (pc := 30) h [_, _, _, _] dX1_namedIn_30 (by decide) rfl rfl ?_
          refine jr_goto (pc := 33) h 4 dX1_namedIn_33 (by decide) ?_
          refine ih _ _ (by omega) ?_ (by omega) (by omega)
          rw [sumZ_s (by omega)]
          first | rw [if_pos (by omega)] | rw [if_neg (by omega)]
          omega
  refine jr_iconst (pc := 0) h dX1_namedIn_0 ?_
  refine jr_istore_n (pc := 1) h [_, _, _, _] dX1_namedIn_1 (by decide) rfl ?_
  refine jr_iconst (pc := 2) h dX1_namedIn_2 ?_
  refine jr_istore_n (pc := 3) h [_, _, _, _] dX1_namedIn_3 (by decide) rfl ?_
  exact loop _ _ _ (by omega) rfl (by omega) (Nat.lt_succ_self _)
set_option maxHeartbeats 1000000 in
set_option maxRecDepth 20000 in
theorem s_X1_unnamedIn {l : Launch} {n : Nat} {M : jdM} {f : Nat} {ct td bk si ld : Nat → Int} (hF : Fl M n f ct td bk si ld) {a : Int} (ha : -2147483648 ≤ a ∧ a < 2147483648) : Ct l yX1_unnamedIn cX1_unnamedIn 2 (some .int) rX1_unnamedIn [.ref f, jI a] n M (fun vv n' M' => (vv = some (jI (c_sit si a - c_named ct td a)) ∧ n = n' ∧ M = M') ∧ (-8) ≤ (c_sit si a - c_named ct td a) ∧ (c_sit si a - c_named ct td a) ≤ 9) := by
  refine Ct_of [some (.ref f), some (jI a)] (by decide) (Nat.le_of_ble_eq_true rfl) rfl (fun κ hl h hR hRt hmn hn0 => ?_)
  have h : Ok κ RX1 cX1_unnamedIn 2 (some .int) := h
  obtain ⟨hn, hO, hA, hB, hC, hD, hE, rA, rB, r0, rC, rD, rE⟩ := id hF
  refine jr_aload_n (pc := 0) h dX1_unnamedIn_0 rfl ?_
  refine jr_iload_n (pc := 1) h dX1_unnamedIn_1 rfl ?_
  refine iv_X1_64 (pc := 2) h hl hR dX1_unnamedIn_2 ⟨(Nat.le_of_ble_eq_true rfl), (Nat.le_of_ble_eq_true rfl), (Nat.le_of_ble_eq_true rfl), (Nat.le_of_ble_eq_true rfl)⟩ (Nat.le_of_ble_eq_true rfl) (by assumption) (by omega) (s_X1_sitting hF (by omega)) (fun v_2 n_2 M_2 hn_2 hp => ?_)
  obtain ⟨⟨rfl, rfl, rfl⟩, gr_2⟩ := hp
  refine jr_aload_n (pc := 5) h dX1_unnamedIn_5 rfl ?_
  refine jr_iload_n (pc := 6) h dX1_unnamedIn_6 rfl ?_
  refine iv_X1_55 (pc := 7) h hl hR dX1_unnamedIn_7 ⟨(Nat.le_of_ble_eq_true rfl), (Nat.le_of_ble_eq_true rfl), (Nat.le_of_ble_eq_true rfl), (Nat.le_of_ble_eq_true rfl)⟩ (Nat.le_of_ble_eq_true rfl) (by assumption) (by omega) (s_X1_namedIn hF (by omega)) (fun v_7 n_7 M_7 hn_7 hp => ?_)
  obtain ⟨⟨rfl, rfl, rfl⟩, gr_7⟩ := hp
  refine jr_isub (pc := 10) h dX1_unnamedIn_10 ?_
  refine jr_iret (pc := 11) h hRt dX1_unnamedIn_11 rfl (Nat.le_of_ble_eq_true rfl) (Nat.le_of_ble_eq_true rfl) ?_
  exact ⟨⟨rfl, rfl, rfl⟩, by omega⟩
set_option maxHeartbeats 1000000 in
set_option maxRecDepth 20000 in
theorem s_X1_isNamedInside {l : Launch} {n : Nat} {M : jdM} {f : Nat} {ct td bk si ld : Nat → Int} (hF : Fl M n f ct td bk si ld) {a : Int} (ha : -2147483648 ≤ a ∧ a < 2147483648) : Ct l yX1_isNamedInside cX1_isNamedInside 2 (some .boolean) rX1_isNamedInside [.ref f, jI a] n M (fun vv n' M' => (vv = some (jI (bz (c_inside ct td a))) ∧ n = n' ∧ M = M') ∧ (0) ≤ (bz (c_inside ct td a)) ∧ (bz (c_inside ct td a)) ≤ 1) := by
  refine Ct_of [some (.ref f), some (jI a)] (by decide) (Nat.le_of_ble_eq_true rfl) rfl (fun κ hl h hR hRt hmn hn0 => ?_)
  have h : Ok κ RX1 cX1_isNamedInside 2 (some .boolean) := h
  obtain ⟨hn, hO, hA, hB, hC, hD, hE, rA, rB, r0, rC, rD, rE⟩ := id hF
  have a8 := rA 8
  refine jr_iload_n (pc := 0) h dX1_isNamedInside_0 rfl ?_
  refine jr_if_lt (pc := 1) h 34 dX1_isNamedInside_1 (by decide) (by omega) (fun c_1 => ?_) (fun c_1 => ?_)
  · skip
    refine jr_iconst (pc := 34) h dX1_isNamedInside_34 ?_
    refine jr_iret (pc := 35) h hRt dX1_isNamedInside_35 rfl (Nat.le_of_ble_eq_true rfl) (Nat.le_of_ble_eq_true rfl) ?_
    refine ⟨⟨ji_c ?_, rfl, rfl⟩, bz_r _⟩
    unfold c_inside
    first | rw [bz_t (by omega)] | rw [bz_f (by omega)]
  · skip
    refine jr_iload_n (pc := 4) h dX1_isNamedInside_4 rfl ?_
    refine jr_aload_n (pc := 5) h dX1_isNamedInside_5 rfl ?_
    refine gf_X1_9 (pc := 6) h dX1_isNamedInside_6 (by assumption) (by omega) ?_
    refine jr_bipush (pc := 9) h dX1_isNamedInside_9 bp_8 ?_
    refine jr_ialdc (pc := 11) h (8 : Nat) rfl dX1_isNamedInside_11 (by assumption) (by omega) (by decide) ?_
    refine jr_icmp_ge (pc := 12) h 34 dX1_isNamedInside_12 (by decide) (by omega) (by omega) (fun c_12 => ?_) (fun c_12 => ?_)
    · skip
      refine jr_iconst (pc := 34) h dX1_isNamedInside_34 ?_
      refine jr_iret (pc := 35) h hRt dX1_isNamedInside_35 rfl (Nat.le_of_ble_eq_true rfl) (Nat.le_of_ble_eq_true rfl) ?_
      refine ⟨⟨ji_c ?_, rfl, rfl⟩, bz_r _⟩
      unfold c_inside
      first | rw [bz_t (by omega)] | rw [bz_f (by omega)]
    · skip
      refine jr_aload_n (pc := 15) h dX1_isNamedInside_15 rfl ?_
      refine jr_bipush (pc := 16) h dX1_isNamedInside_16 bp_8 ?_
      refine jr_iload_n (pc := 18) h dX1_isNamedInside_18 rfl ?_
      refine jr_iconst (pc := 19) h dX1_isNamedInside_19 ?_
      refine iv_X1_48 (pc := 20) h hl hR dX1_isNamedInside_20 ⟨(Nat.le_of_ble_eq_true rfl), (Nat.le_of_ble_eq_true rfl), (Nat.le_of_ble_eq_true rfl), (Nat.le_of_ble_eq_true rfl)⟩ (Nat.le_of_ble_eq_true rfl) (by assumption) (by omega) (s_X1_get hF (by omega) (by omega) (by omega)) (fun v_20 n_20 M_20 hn_20 hp => ?_)
      obtain ⟨⟨rfl, rfl, rfl⟩, gr_20⟩ := hp
      refine jr_aload_n (pc := 23) h dX1_isNamedInside_23 rfl ?_
      refine iv_X1_67 (pc := 24) h hl hR dX1_isNamedInside_24 ⟨(Nat.le_of_ble_eq_true rfl), (Nat.le_of_ble_eq_true rfl), (Nat.le_of_ble_eq_true rfl), (Nat.le_of_ble_eq_true rfl)⟩ (Nat.le_of_ble_eq_true rfl) (by assumption) (by omega) (s_X1_rows hF) (fun v_24 n_24 M_24 hn_24 hp => ?_)
      obtain ⟨⟨rfl, rfl, rfl⟩, gr_24⟩ := hp
      refine jr_icmp_gt (pc := 27) h 34 dX1_isNamedInside_27 (by decide) (by omega) (by omega) (fun c_27 => ?_) (fun c_27 => ?_)
      · skip
        refine jr_iconst (pc := 34) h dX1_isNamedInside_34 ?_
        refine jr_iret (pc := 35) h hRt dX1_isNamedInside_35 rfl (Nat.le_of_ble_eq_true rfl) (Nat.le_of_ble_eq_true rfl) ?_
        refine ⟨⟨ji_c ?_, rfl, rfl⟩, bz_r _⟩
        unfold c_inside
        first | rw [bz_t (by omega)] | rw [bz_f (by omega)]
      · skip
        refine jr_iconst (pc := 30) h dX1_isNamedInside_30 ?_
        refine jr_goto (pc := 31) h 35 dX1_isNamedInside_31 (by decide) ?_
        refine jr_iret (pc := 35) h hRt dX1_isNamedInside_35 rfl (Nat.le_of_ble_eq_true rfl) (Nat.le_of_ble_eq_true rfl) ?_
        refine ⟨⟨ji_c ?_, rfl, rfl⟩, bz_r _⟩
        unfold c_inside
        first | rw [bz_t (by omega)] | rw [bz_f (by omega)]
set_option maxHeartbeats 2000000 in
set_option maxRecDepth 20000 in
theorem s_X1_weightIn {l : Launch} {n : Nat} {M : jdM} {f : Nat} {ct td bk si ld : Nat → Int} (hF : Fl M n f ct td bk si ld) {a b : Int} (ha : -2147483648 ≤ a ∧ a < 2147483648) (hb : -2147483648 ≤ b ∧ b < 2147483648) : Ct l yX1_weightIn cX1_weightIn 5 (some .int) rX1_weightIn [.ref f, jI a, jI b] n M (fun vv n' M' => (vv = some (jI (c_win td a b)) ∧ n = n' ∧ M = M') ∧ (0) ≤ (c_win td a b) ∧ (c_win td a b) ≤ 999) := by
  refine Ct_of [some (.ref f), some (jI a), some (jI b), none, none] (by decide) (Nat.le_of_ble_eq_true rfl) rfl (fun κ hl h hR hRt hmn hn0 => ?_)
  have h : Ok κ RX1 cX1_weightIn 5 (some .int) := h
  obtain ⟨hn, hO, hA, hB, hC, hD, hE, rA, rB, r0, rC, rD, rE⟩ := id hF
  have gk := c_getr rB 7 a 3
  have rw0 : 0 ≤ c_win td a b ∧ c_win td a b ≤ 999 := by
    unfold c_win
    have : ∀ (d : Nat) (i : Int), 0 ≤ firstW (fun i => c_get td 7 a (4 + 2 * i)) (fun i => c_get td 7 a (4 + 2 * i + 1)) b i d ∧ firstW (fun i => c_get td 7 a (4 + 2 * i)) (fun i => c_get td 7 a (4 + 2 * i + 1)) b i d ≤ 999 := by
      intro d
      induction d with
      | zero => intro i; simp [firstW]
      | succ d ih =>
        intro i
        rw [firstW]
        split
        · exact c_getr rB _ _ _
        · exact ih _
    exact this _ _
  have loop : ∀ (dq : Nat) (i : Int), (0 ≤ i ∧ i ≤ 4) → (c_win td a b = firstW (fun i => c_get td 7 a (4 + 2 * i)) (fun i => c_get td 7 a (4 + 2 * i + 1)) b i (min (c_get td 7 a 3) 4 - i).toNat) → (8 - i).toNat < dq → J κ 5 0 0 n 12 [some (.ref f), some (jI a), some (jI b), some (jI (c_get td 7 a 3)), some (jI i)] [] M := by
    intro dq
    induction dq with
    | zero => intro i hi hx hd; omega
    | succ dq ih =>
      intro i hi hx hd
      refine jr_iload (pc := 12) h dX1_weightIn_12 rfl ?_
      refine jr_iload_n (pc := 14) h dX1_weightIn_14 rfl ?_
      refine jr_icmp_ge (pc := 15) h 63 dX1_weightIn_15 (by decide) (by omega) (by omega) (fun c_15 => ?_) (fun c_15 => ?_)
      · skip
        refine jr_iconst (pc := 63) h dX1_weightIn_63 ?_
        refine jr_iret (pc := 64) h hRt dX1_weightIn_64 rfl (Nat.le_of_ble_eq_true rfl) (Nat.le_of_ble_eq_true rfl) ?_
        refine ⟨⟨ji_c ?_, rfl, rfl⟩, rw0⟩
        rw [hx, firstW_0 (by omega)]
      · skip
        refine jr_iload (pc := 18) h dX1_weightIn_18 rfl ?_
        refine jr_iconst (pc := 20) h dX1_weightIn_20 ?_
        refine jr_icmp_ge (pc := 21) h 63 dX1_weightIn_21 (by decide) (by omega) (by omega) (fun c_21 => ?_) (fun c_21 => ?_)
        · skip
          refine jr_iconst (pc := 63) h dX1_weightIn_63 ?_
          refine jr_iret (pc := 64) h hRt dX1_weightIn_64 rfl (Nat.le_of_ble_eq_true rfl) (Nat.le_of_ble_eq_true rfl) ?_
          refine ⟨⟨ji_c ?_, rfl, rfl⟩, rw0⟩
          rw [hx, firstW_0 (by omega)]
        · skip
          refine jr_aload_n (pc := 24) h dX1_weightIn_24 rfl ?_
          refine jr_bipush (pc := 25) h dX1_weightIn_25 bp_7 ?_
          refine jr_iload_n (pc := 27) h dX1_weightIn_27 rfl ?_
          refine jr_iconst (pc := 28) h dX1_weightIn_28 ?_
          refine jr_iconst (pc := 29) h dX1_weightIn_29 ?_
          refine jr_iload (pc := 30) h dX1_weightIn_30 rfl ?_
          refine jr_imul (pc := 32) h dX1_weightIn_32 ?_
          refine jr_iadd (pc := 33) h dX1_weightIn_33 ?_
          refine iv_X1_48 (pc := 34) h hl hR dX1_weightIn_34 ⟨(Nat.le_of_ble_eq_true rfl), (Nat.le_of_ble_eq_true rfl), (Nat.le_of_ble_eq_true rfl), (Nat.le_of_ble_eq_true rfl)⟩ (Nat.le_of_ble_eq_true rfl) (by assumption) (by omega) (s_X1_get hF (by omega) (by omega) (by omega)) (fun v_34 n_34 M_34 hn_34 hp => ?_)
          obtain ⟨⟨rfl, rfl, rfl⟩, gr_34⟩ := hp
          refine jr_iload_n (pc := 37) h dX1_weightIn_37 rfl ?_
          refine jr_icmp_ne (pc := 38) h 57 dX1_weightIn_38 (by decide) (by omega) (by omega) (fun c_38 => ?_) (fun c_38 => ?_)
          · skip
            refine jr_iinc (pc := 57) h [_, _, _, _, _] dX1_weightIn_57 (by decide) rfl rfl ?_
            refine jr_goto (pc := 60) h 12 dX1_weightIn_60 (by decide) ?_
            refine ih _ (by omega) ?_ (by omega)
            rw [hx, firstW_f (by omega) (by omega)]
          · skip
            refine jr_aload_n (pc := 41) h dX1_weightIn_41 rfl ?_
            refine jr_bipush (pc := 42) h dX1_weightIn_42 bp_7 ?_
            refine jr_iload_n (pc := 44) h dX1_weightIn_44 rfl ?_
            refine jr_iconst (pc := 45) h dX1_weightIn_45 ?_
            refine jr_iconst (pc := 46) h dX1_weightIn_46 ?_
            refine jr_iload (pc := 47) h dX1_weightIn_47 rfl ?_
            refine jr_imul (pc := 49) h dX1_weightIn_49 ?_
            refine jr_iadd (pc := 50) h dX1_weightIn_50 ?_
            refine jr_iconst (pc := 51) h dX1_weightIn_51 ?_
            refine jr_iadd (pc := 52) h dX1_weightIn_52 ?_
            refine iv_X1_48 (pc := 53) h hl hR dX1_weightIn_53 ⟨(Nat.le_of_ble_eq_true rfl), (Nat.le_of_ble_eq_true rfl), (Nat.le_of_ble_eq_true rfl), (Nat.le_of_ble_eq_true rfl)⟩ (Nat.le_of_ble_eq_true rfl) (by assumption) (by omega) (s_X1_get hF (by omega) (by omega) (by omega)) (fun v_53 n_53 M_53 hn_53 hp => ?_)
            obtain ⟨⟨rfl, rfl, rfl⟩, gr_53⟩ := hp
            refine jr_iret (pc := 56) h hRt dX1_weightIn_56 rfl (Nat.le_of_ble_eq_true rfl) (Nat.le_of_ble_eq_true rfl) ?_
            refine ⟨⟨ji_c ?_, rfl, rfl⟩, rw0⟩
            rw [hx, firstW_t (by omega) (by omega)]
  refine jr_aload_n (pc := 0) h dX1_weightIn_0 rfl ?_
  refine jr_bipush (pc := 1) h dX1_weightIn_1 bp_7 ?_
  refine jr_iload_n (pc := 3) h dX1_weightIn_3 rfl ?_
  refine jr_iconst (pc := 4) h dX1_weightIn_4 ?_
  refine iv_X1_48 (pc := 5) h hl hR dX1_weightIn_5 ⟨(Nat.le_of_ble_eq_true rfl), (Nat.le_of_ble_eq_true rfl), (Nat.le_of_ble_eq_true rfl), (Nat.le_of_ble_eq_true rfl)⟩ (Nat.le_of_ble_eq_true rfl) (by assumption) (by omega) (s_X1_get hF (by omega) (by omega) (by omega)) (fun v_5 n_5 M_5 hn_5 hp => ?_)
  obtain ⟨⟨rfl, rfl, rfl⟩, gr_5⟩ := hp
  refine jr_istore_n (pc := 8) h [_, _, _, _, _] dX1_weightIn_8 (by decide) rfl ?_
  refine jr_iconst (pc := 9) h dX1_weightIn_9 ?_
  refine jr_istore (pc := 10) h [_, _, _, _, _] dX1_weightIn_10 (by decide) rfl ?_
  exact loop _ _ (by omega) (by rw [Int.sub_zero]; rfl) (Nat.lt_succ_self _)
set_option maxHeartbeats 1000000 in
set_option maxRecDepth 20000 in
theorem s_X1_weight {l : Launch} {n : Nat} {M : jdM} {f : Nat} {ct td bk si ld : Nat → Int} (hF : Fl M n f ct td bk si ld) {a b : Int} (ha : -2147483648 ≤ a ∧ a < 2147483648) (hb : -2147483648 ≤ b ∧ b < 2147483648) : Ct l yX1_weight cX1_weight 3 (some .int) rX1_weight [.ref f, jI a, jI b] n M (fun vv n' M' => (vv = some (jI (c_win td (c_blk bk a) b)) ∧ n = n' ∧ M = M') ∧ (0) ≤ (c_win td (c_blk bk a) b) ∧ (c_win td (c_blk bk a) b) ≤ 999) := by
  refine Ct_of [some (.ref f), some (jI a), some (jI b)] (by decide) (Nat.le_of_ble_eq_true rfl) rfl (fun κ hl h hR hRt hmn hn0 => ?_)
  have h : Ok κ RX1 cX1_weight 3 (some .int) := h
  obtain ⟨hn, hO, hA, hB, hC, hD, hE, rA, rB, r0, rC, rD, rE⟩ := id hF
  refine jr_aload_n (pc := 0) h dX1_weight_0 rfl ?_
  refine jr_aload_n (pc := 1) h dX1_weight_1 rfl ?_
  refine jr_iload_n (pc := 2) h dX1_weight_2 rfl ?_
  refine iv_X1_71 (pc := 3) h hl hR dX1_weight_3 ⟨(Nat.le_of_ble_eq_true rfl), (Nat.le_of_ble_eq_true rfl), (Nat.le_of_ble_eq_true rfl), (Nat.le_of_ble_eq_true rfl)⟩ (Nat.le_of_ble_eq_true rfl) (by assumption) (by omega) (s_X1_blockOf hF (by omega)) (fun v_3 n_3 M_3 hn_3 hp => ?_)
  obtain ⟨⟨rfl, rfl, rfl⟩, gr_3⟩ := hp
  refine jr_iload_n (pc := 6) h dX1_weight_6 rfl ?_
  refine iv_X1_74 (pc := 7) h hl hR dX1_weight_7 ⟨(Nat.le_of_ble_eq_true rfl), (Nat.le_of_ble_eq_true rfl), (Nat.le_of_ble_eq_true rfl), (Nat.le_of_ble_eq_true rfl)⟩ (Nat.le_of_ble_eq_true rfl) (by assumption) (by omega) (s_X1_weightIn hF (by omega) (by omega)) (fun v_7 n_7 M_7 hn_7 hp => ?_)
  obtain ⟨⟨rfl, rfl, rfl⟩, gr_7⟩ := hp
  refine jr_iret (pc := 10) h hRt dX1_weight_10 rfl (Nat.le_of_ble_eq_true rfl) (Nat.le_of_ble_eq_true rfl) ?_
  exact ⟨⟨rfl, rfl, rfl⟩, by omega⟩
set_option maxHeartbeats 2000000 in
set_option maxRecDepth 20000 in
theorem s_X1_weights {l : Launch} {n : Nat} {M : jdM} {f : Nat} {ct td bk si ld : Nat → Int} (hF : Fl M n f ct td bk si ld) {a : Int} (ha : -2147483648 ≤ a ∧ a < 2147483648) : Ct l yX1_weights cX1_weights 4 (some .int) rX1_weights [.ref f, jI a] n M (fun vv n' M' => (vv = some (jI (c_weights td bk a)) ∧ n = n' ∧ M = M') ∧ (0) ≤ (c_weights td bk a) ∧ (c_weights td bk a) ≤ 3996) := by
  refine Ct_of [some (.ref f), some (jI a), none, none] (by decide) (Nat.le_of_ble_eq_true rfl) rfl (fun κ hl h hR hRt hmn hn0 => ?_)
  have h : Ok κ RX1 cX1_weights 4 (some .int) := h
  obtain ⟨hn, hO, hA, hB, hC, hD, hE, rA, rB, r0, rC, rD, rE⟩ := id hF
  have loop : ∀ (dq : Nat) (x i : Int), (0 ≤ i ∧ i ≤ 4) → (x = sumZ (fun i => c_get td 7 (c_blk bk a) (4 + 2 * i + 1)) i.toNat) → (0 ≤ x ∧ x ≤ 999 * i) → (8 - i).toNat < dq → J κ 4 0 0 n 4 [some (.ref f), some (jI a), some (jI x), some (jI i)] [] M := by
    intro dq
    induction dq with
    | zero => intro x i hi hx hb hd; omega
    | succ dq ih =>
      intro x i hi hx hb hd
      refine jr_iload_n (pc := 4) h dX1_weights_4 rfl ?_
      refine jr_iconst (pc := 5) h dX1_weights_5 ?_
      refine jr_icmp_ge (pc := 6) h 36 dX1_weights_6 (by decide) (by omega) (by omega) (fun c_6 => ?_) (fun c_6 => ?_)
      · skip
        refine jr_iload_n (pc := 36) h dX1_weights_36 rfl ?_
        refine jr_iret (pc := 37) h hRt dX1_weights_37 rfl (Nat.le_of_ble_eq_true rfl) (Nat.le_of_ble_eq_true rfl) ?_
        have e : i = 4 := by omega
        subst e
        refine ⟨⟨ji_c ?_, rfl, rfl⟩, ?_⟩
        · rw [hx]; rfl
        · unfold c_weights; rw [show (4 : Nat) = (4 : Int).toNat from rfl, ← hx]; omega
      · skip
        refine jr_iload_n (pc := 9) h dX1_weights_9 rfl ?_
        refine jr_aload_n (pc := 10) h dX1_weights_10 rfl ?_
        refine jr_bipush (pc := 11) h dX1_weights_11 bp_7 ?_
        refine jr_aload_n (pc := 13) h dX1_weights_13 rfl ?_
        refine jr_iload_n (pc := 14) h dX1_weights_14 rfl ?_
        refine iv_X1_71 (pc := 15) h hl hR dX1_weights_15 ⟨(Nat.le_of_ble_eq_true rfl), (Nat.le_of_ble_eq_true rfl), (Nat.le_of_ble_eq_true rfl), (Nat.le_of_ble_eq_true rfl)⟩ (Nat.le_of_ble_eq_true rfl) (by assumption) (by omega) (s_X1_blockOf hF (by omega)) (fun v_15 n_15 M_15 hn_15 hp => ?_)
        obtain ⟨⟨rfl, rfl, rfl⟩, gr_15⟩ := hp
        refine jr_iconst (pc := 18) h dX1_weights_18 ?_
        refine jr_iconst (pc := 19) h dX1_weights_19 ?_
        refine jr_iload_n (pc := 20) h dX1_weights_20 rfl ?_
        refine jr_imul (pc := 21) h dX1_weights_21 ?_
        refine jr_iadd (pc := 22) h dX1_weights_22 ?_
        refine jr_iconst (pc := 23) h dX1_weights_23 ?_
        refine jr_iadd (pc := 24) h dX1_weights_24 ?_
        refine iv_X1_48 (pc := 25) h hl hR dX1_weights_25 ⟨(Nat.le_of_ble_eq_true rfl), (Nat.le_of_ble_eq_true rfl), (Nat.le_of_ble_eq_true rfl), (Nat.le_of_ble_eq_true rfl)⟩ (Nat.le_of_ble_eq_true rfl) (by assumption) (by omega) (s_X1_get hF (by omega) (by omega) (by omega)) (fun v_25 n_25 M_25 hn_25 hp => ?_)
        obtain ⟨⟨rfl, rfl, rfl⟩, gr_25⟩ := hp
        refine jr_iadd (pc := 28) h dX1_weights_28 ?_
        refine jr_istore_n (pc := 29) h [_, _, _, _] dX1_weights_29 (by decide) rfl ?_
        refine jr_iinc (pc := 30) h [_, _, _, _] dX1_weights_30 (by decide) rfl rfl ?_
        refine jr_goto (pc := 33) h 4 dX1_weights_33 (by decide) ?_
        refine ih _ _ (by omega) ?_ (by omega) (by omega)
        rw [sumZ_s (by omega), hx]
  refine jr_iconst (pc := 0) h dX1_weights_0 ?_
  refine jr_istore_n (pc := 1) h [_, _, _, _] dX1_weights_1 (by decide) rfl ?_
  refine jr_iconst (pc := 2) h dX1_weights_2 ?_
  refine jr_istore_n (pc := 3) h [_, _, _, _] dX1_weights_3 (by decide) rfl ?_
  exact loop _ _ _ (by omega) rfl (by omega) (Nat.lt_succ_self _)
set_option maxHeartbeats 2000000 in
set_option maxRecDepth 20000 in
theorem s_X1_likedBy {l : Launch} {n : Nat} {M : jdM} {f : Nat} {ct td bk si ld : Nat → Int} (hF : Fl M n f ct td bk si ld) {a v : Int} (ha : -2147483648 ≤ a ∧ a < 2147483648) (hv : 0 ≤ v ∧ v ≤ 100000) : Ct l yX1_likedBy cX1_likedBy 6 (some .int) rX1_likedBy [.ref f, jI a, jI v] n M (fun vv n' M' => (vv = some (jI (c_liked td bk a v)) ∧ n = n' ∧ M = M') ∧ (0) ≤ (c_liked td bk a v) ∧ (c_liked td bk a v) ≤ 999) := by
  refine Ct_of [some (.ref f), some (jI a), some (jI v), none, none, none] (by decide) (Nat.le_of_ble_eq_true rfl) rfl (fun κ hl h hR hRt hmn hn0 => ?_)
  have h : Ok κ RX1 cX1_likedBy 6 (some .int) := h
  obtain ⟨hn, hO, hA, hB, hC, hD, hE, rA, rB, r0, rC, rD, rE⟩ := id hF
  have gb : -1 ≤ c_blk bk a ∧ c_blk bk a ≤ 8 := by
    unfold c_blk
    have := rC a.toNat
    split <;> omega
  have rl : ∀ (d : Nat) (i v : Int), 0 ≤ c_likeF td (c_blk bk a) i v d ∧ c_likeF td (c_blk bk a) i v d ≤ 999 := by
    intro d
    induction d with
    | zero => intro i v; simp [c_likeF]
    | succ d ih =>
      intro i v
      rw [c_likeF]
      split
      · exact c_getr rB _ _ _
      · exact ih _ _
  have loop : ∀ (dq : Nat) (w i : Int), (0 ≤ i ∧ i ≤ 4) → (0 ≤ w ∧ w ≤ 100000) → (c_liked td bk a v = c_likeF td (c_blk bk a) i w (4 - i).toNat) → (8 - i).toNat < dq → J κ 6 0 0 n 12 [some (.ref f), some (jI a), some (jI v), some (jI (c_blk bk a)), some (jI w), some (jI i)] [] M := by
    intro dq
    induction dq with
    | zero => intro w i hi hw hx hd; omega
    | succ dq ih =>
      intro w i hi hw hx hd
      refine jr_iload (pc := 12) h dX1_likedBy_12 rfl ?_
      refine jr_iconst (pc := 14) h dX1_likedBy_14 ?_
      refine jr_icmp_ge (pc := 15) h 63 dX1_likedBy_15 (by decide) (by omega) (by omega) (fun c_15 => ?_) (fun c_15 => ?_)
      · skip
        refine jr_iconst (pc := 63) h dX1_likedBy_63 ?_
        refine jr_iret (pc := 64) h hRt dX1_likedBy_64 rfl (Nat.le_of_ble_eq_true rfl) (Nat.le_of_ble_eq_true rfl) ?_
        refine ⟨⟨ji_c ?_, rfl, rfl⟩, rl _ _ _⟩
        rw [hx, show (4 - i).toNat = 0 by omega, c_likeF]
      · skip
        refine jr_iload (pc := 18) h dX1_likedBy_18 rfl ?_
        refine jr_aload_n (pc := 20) h dX1_likedBy_20 rfl ?_
        refine jr_bipush (pc := 21) h dX1_likedBy_21 bp_7 ?_
        refine jr_iload_n (pc := 23) h dX1_likedBy_23 rfl ?_
        refine jr_iconst (pc := 24) h dX1_likedBy_24 ?_
        refine jr_iconst (pc := 25) h dX1_likedBy_25 ?_
        refine jr_iload (pc := 26) h dX1_likedBy_26 rfl ?_
        refine jr_imul (pc := 28) h dX1_likedBy_28 ?_
        refine jr_iadd (pc := 29) h dX1_likedBy_29 ?_
        refine jr_iconst (pc := 30) h dX1_likedBy_30 ?_
        refine jr_iadd (pc := 31) h dX1_likedBy_31 ?_
        refine iv_X1_48 (pc := 32) h hl hR dX1_likedBy_32 ⟨(Nat.le_of_ble_eq_true rfl), (Nat.le_of_ble_eq_true rfl), (Nat.le_of_ble_eq_true rfl), (Nat.le_of_ble_eq_true rfl)⟩ (Nat.le_of_ble_eq_true rfl) (by assumption) (by omega) (s_X1_get hF (by omega) (by omega) (by omega)) (fun v_32 n_32 M_32 hn_32 hp => ?_)
        obtain ⟨⟨rfl, rfl, rfl⟩, gr_32⟩ := hp
        refine jr_isub (pc := 35) h dX1_likedBy_35 ?_
        refine jr_istore (pc := 36) h [_, _, _, _, _, _] dX1_likedBy_36 (by decide) rfl ?_
        refine jr_iload (pc := 38) h dX1_likedBy_38 rfl ?_
        refine jr_if_ge (pc := 40) h 57 dX1_likedBy_40 (by decide) (by omega) (fun c_40 => ?_) (fun c_40 => ?_)
        · skip
          refine jr_iinc (pc := 57) h [_, _, _, _, _, _] dX1_likedBy_57 (by decide) rfl rfl ?_
          refine jr_goto (pc := 60) h 12 dX1_likedBy_60 (by decide) ?_
          refine ih _ _ (by omega) (by omega) ?_ (by omega)
          rw [hx, show (4 - i).toNat = (4 - (i + 1)).toNat + 1 by omega, c_likeF, if_neg (by omega)]
        · skip
          refine jr_aload_n (pc := 43) h dX1_likedBy_43 rfl ?_
          refine jr_bipush (pc := 44) h dX1_likedBy_44 bp_7 ?_
          refine jr_iload_n (pc := 46) h dX1_likedBy_46 rfl ?_
          refine jr_iconst (pc := 47) h dX1_likedBy_47 ?_
          refine jr_iconst (pc := 48) h dX1_likedBy_48 ?_
          refine jr_iload (pc := 49) h dX1_likedBy_49 rfl ?_
          refine jr_imul (pc := 51) h dX1_likedBy_51 ?_
          refine jr_iadd (pc := 52) h dX1_likedBy_52 ?_
          refine iv_X1_48 (pc := 53) h hl hR dX1_likedBy_53 ⟨(Nat.le_of_ble_eq_true rfl), (Nat.le_of_ble_eq_true rfl), (Nat.le_of_ble_eq_true rfl), (Nat.le_of_ble_eq_true rfl)⟩ (Nat.le_of_ble_eq_true rfl) (by assumption) (by omega) (s_X1_get hF (by omega) (by omega) (by omega)) (fun v_53 n_53 M_53 hn_53 hp => ?_)
          obtain ⟨⟨rfl, rfl, rfl⟩, gr_53⟩ := hp
          refine jr_iret (pc := 56) h hRt dX1_likedBy_56 rfl (Nat.le_of_ble_eq_true rfl) (Nat.le_of_ble_eq_true rfl) ?_
          refine ⟨⟨ji_c ?_, rfl, rfl⟩, rl _ _ _⟩
          rw [hx, show (4 - i).toNat = (4 - (i + 1)).toNat + 1 by omega, c_likeF, if_pos (by omega)]
  refine jr_aload_n (pc := 0) h dX1_likedBy_0 rfl ?_
  refine jr_iload_n (pc := 1) h dX1_likedBy_1 rfl ?_
  refine iv_X1_71 (pc := 2) h hl hR dX1_likedBy_2 ⟨(Nat.le_of_ble_eq_true rfl), (Nat.le_of_ble_eq_true rfl), (Nat.le_of_ble_eq_true rfl), (Nat.le_of_ble_eq_true rfl)⟩ (Nat.le_of_ble_eq_true rfl) (by assumption) (by omega) (s_X1_blockOf hF (by omega)) (fun v_2 n_2 M_2 hn_2 hp => ?_)
  obtain ⟨⟨rfl, rfl, rfl⟩, gr_2⟩ := hp
  refine jr_istore_n (pc := 5) h [_, _, _, _, _, _] dX1_likedBy_5 (by decide) rfl ?_
  refine jr_iload_n (pc := 6) h dX1_likedBy_6 rfl ?_
  refine jr_istore (pc := 7) h [_, _, _, _, _, _] dX1_likedBy_7 (by decide) rfl ?_
  refine jr_iconst (pc := 9) h dX1_likedBy_9 ?_
  refine jr_istore (pc := 10) h [_, _, _, _, _, _] dX1_likedBy_10 (by decide) rfl ?_
  exact loop _ _ _ (by omega) (by omega) rfl (Nat.lt_succ_self _)
set_option maxHeartbeats 1000000 in
set_option maxRecDepth 20000 in
theorem s_X1_isFront {l : Launch} {n : Nat} {M : jdM} {f : Nat} {ct td bk si ld : Nat → Int} (hF : Fl M n f ct td bk si ld) {a : Int} (ha : -2147483648 ≤ a ∧ a < 2147483648) : Ct l yX1_isFront cX1_isFront 2 (some .boolean) rX1_isFront [.ref f, jI a] n M (fun vv n' M' => (vv = some (jI (bz (c_get td 5 a 0 = 0))) ∧ n = n' ∧ M = M') ∧ (0) ≤ (bz (c_get td 5 a 0 = 0)) ∧ (bz (c_get td 5 a 0 = 0)) ≤ 1) := by
  refine Ct_of [some (.ref f), some (jI a)] (by decide) (Nat.le_of_ble_eq_true rfl) rfl (fun κ hl h hR hRt hmn hn0 => ?_)
  have h : Ok κ RX1 cX1_isFront 2 (some .boolean) := h
  obtain ⟨hn, hO, hA, hB, hC, hD, hE, rA, rB, r0, rC, rD, rE⟩ := id hF
  refine jr_aload_n (pc := 0) h dX1_isFront_0 rfl ?_
  refine jr_iconst (pc := 1) h dX1_isFront_1 ?_
  refine jr_iload_n (pc := 2) h dX1_isFront_2 rfl ?_
  refine jr_iconst (pc := 3) h dX1_isFront_3 ?_
  refine iv_X1_48 (pc := 4) h hl hR dX1_isFront_4 ⟨(Nat.le_of_ble_eq_true rfl), (Nat.le_of_ble_eq_true rfl), (Nat.le_of_ble_eq_true rfl), (Nat.le_of_ble_eq_true rfl)⟩ (Nat.le_of_ble_eq_true rfl) (by assumption) (by omega) (s_X1_get hF (by omega) (by omega) (by omega)) (fun v_4 n_4 M_4 hn_4 hp => ?_)
  obtain ⟨⟨rfl, rfl, rfl⟩, gr_4⟩ := hp
  refine jr_if_ne (pc := 7) h 14 dX1_isFront_7 (by decide) (by omega) (fun c_7 => ?_) (fun c_7 => ?_)
  · skip
    refine jr_iconst (pc := 14) h dX1_isFront_14 ?_
    refine jr_iret (pc := 15) h hRt dX1_isFront_15 rfl (Nat.le_of_ble_eq_true rfl) (Nat.le_of_ble_eq_true rfl) ?_
    refine ⟨⟨ji_c ?_, rfl, rfl⟩, bz_r _⟩
    first | rw [bz_t (by omega)] | rw [bz_f (by omega)]
  · skip
    refine jr_iconst (pc := 10) h dX1_isFront_10 ?_
    refine jr_goto (pc := 11) h 15 dX1_isFront_11 (by decide) ?_
    refine jr_iret (pc := 15) h hRt dX1_isFront_15 rfl (Nat.le_of_ble_eq_true rfl) (Nat.le_of_ble_eq_true rfl) ?_
    refine ⟨⟨ji_c ?_, rfl, rfl⟩, bz_r _⟩
    first | rw [bz_t (by omega)] | rw [bz_f (by omega)]
set_option maxHeartbeats 2000000 in
set_option maxRecDepth 20000 in
theorem s_X1_hasTrolleyFrom {l : Launch} {n : Nat} {M : jdM} {f : Nat} {ct td bk si ld : Nat → Int} (hF : Fl M n f ct td bk si ld) {a : Int} (ha : -2147483648 ≤ a ∧ a < 2147483648) : Ct l yX1_hasTrolleyFrom cX1_hasTrolleyFrom 3 (some .boolean) rX1_hasTrolleyFrom [.ref f, jI a] n M (fun vv n' M' => (vv = some (jI (bz (∃ i : Int, 0 ≤ i ∧ i < ct 5 ∧ c_get td 5 i 0 = a))) ∧ n = n' ∧ M = M') ∧ (0) ≤ (bz (∃ i : Int, 0 ≤ i ∧ i < ct 5 ∧ c_get td 5 i 0 = a)) ∧ (bz (∃ i : Int, 0 ≤ i ∧ i < ct 5 ∧ c_get td 5 i 0 = a)) ≤ 1) := by
  refine Ct_of [some (.ref f), some (jI a), none] (by decide) (Nat.le_of_ble_eq_true rfl) rfl (fun κ hl h hR hRt hmn hn0 => ?_)
  have h : Ok κ RX1 cX1_hasTrolleyFrom 3 (some .boolean) := h
  obtain ⟨hn, hO, hA, hB, hC, hD, hE, rA, rB, r0, rC, rD, rE⟩ := id hF
  have a5 := rA 5
  have loop : ∀ (dq : Nat) (i : Int), (0 ≤ i ∧ i ≤ ct 5) → (∀ j : Int, 0 ≤ j → j < i → c_get td 5 j 0 ≠ a) → (8 - i).toNat < dq → J κ 3 0 0 n 2 [some (.ref f), some (jI a), some (jI i)] [] M := by
    intro dq
    induction dq with
    | zero => intro i hi hx hd; omega
    | succ dq ih =>
      intro i hi hx hd
      refine jr_iload_n (pc := 2) h dX1_hasTrolleyFrom_2 rfl ?_
      refine jr_aload_n (pc := 3) h dX1_hasTrolleyFrom_3 rfl ?_
      refine gf_X1_9 (pc := 4) h dX1_hasTrolleyFrom_4 (by assumption) (by omega) ?_
      refine jr_iconst (pc := 7) h dX1_hasTrolleyFrom_7 ?_
      refine jr_ialdc (pc := 8) h (5 : Nat) rfl dX1_hasTrolleyFrom_8 (by assumption) (by omega) (by decide) ?_
      refine jr_icmp_ge (pc := 9) h 31 dX1_hasTrolleyFrom_9 (by decide) (by omega) (by omega) (fun c_9 => ?_) (fun c_9 => ?_)
      · skip
        refine jr_iconst (pc := 31) h dX1_hasTrolleyFrom_31 ?_
        refine jr_iret (pc := 32) h hRt dX1_hasTrolleyFrom_32 rfl (Nat.le_of_ble_eq_true rfl) (Nat.le_of_ble_eq_true rfl) ?_
        exact ⟨⟨ji_c (bz_f (fun ⟨j, h1, h2, h3⟩ => hx j h1 (by omega) h3)).symm, rfl, rfl⟩, bz_r _⟩
      · skip
        refine jr_aload_n (pc := 12) h dX1_hasTrolleyFrom_12 rfl ?_
        refine jr_iconst (pc := 13) h dX1_hasTrolleyFrom_13 ?_
        refine jr_iload_n (pc := 14) h dX1_hasTrolleyFrom_14 rfl ?_
        refine jr_iconst (pc := 15) h dX1_hasTrolleyFrom_15 ?_
        refine iv_X1_48 (pc := 16) h hl hR dX1_hasTrolleyFrom_16 ⟨(Nat.le_of_ble_eq_true rfl), (Nat.le_of_ble_eq_true rfl), (Nat.le_of_ble_eq_true rfl), (Nat.le_of_ble_eq_true rfl)⟩ (Nat.le_of_ble_eq_true rfl) (by assumption) (by omega) (s_X1_get hF (by omega) (by omega) (by omega)) (fun v_16 n_16 M_16 hn_16 hp => ?_)
        obtain ⟨⟨rfl, rfl, rfl⟩, gr_16⟩ := hp
        refine jr_iload_n (pc := 19) h dX1_hasTrolleyFrom_19 rfl ?_
        refine jr_icmp_ne (pc := 20) h 25 dX1_hasTrolleyFrom_20 (by decide) (by omega) (by omega) (fun c_20 => ?_) (fun c_20 => ?_)
        · skip
          refine jr_iinc (pc := 25) h [_, _, _] dX1_hasTrolleyFrom_25 (by decide) rfl rfl ?_
          refine jr_goto (pc := 28) h 2 dX1_hasTrolleyFrom_28 (by decide) ?_
          refine ih _ (by omega) (fun j h1 h2 => ?_) (by omega)
          by_cases q : j = i
          · rw [q]; omega
          · exact hx j h1 (by omega)
        · skip
          refine jr_iconst (pc := 23) h dX1_hasTrolleyFrom_23 ?_
          refine jr_iret (pc := 24) h hRt dX1_hasTrolleyFrom_24 rfl (Nat.le_of_ble_eq_true rfl) (Nat.le_of_ble_eq_true rfl) ?_
          exact ⟨⟨ji_c (bz_t ⟨i, by omega, by omega, by omega⟩).symm, rfl, rfl⟩, bz_r _⟩
  refine jr_iconst (pc := 0) h dX1_hasTrolleyFrom_0 ?_
  refine jr_istore_n (pc := 1) h [_, _, _] dX1_hasTrolleyFrom_1 (by decide) rfl ?_
  exact loop _ _ (by omega) (fun j h1 h2 => by omega) (Nat.lt_succ_self _)
set_option maxHeartbeats 2000000 in
set_option maxRecDepth 20000 in
theorem s_X1_isGap {l : Launch} {n : Nat} {M : jdM} {f : Nat} {ct td bk si ld : Nat → Int} (hF : Fl M n f ct td bk si ld) {a : Int} (ha : -2147483648 ≤ a ∧ a < 2147483648) : Ct l yX1_isGap cX1_isGap 3 (some .boolean) rX1_isGap [.ref f, jI a] n M (fun vv n' M' => (vv = some (jI (bz (∃ i : Int, 0 ≤ i ∧ i < ct 10 ∧ c_get td 10 i 0 = a))) ∧ n = n' ∧ M = M') ∧ (0) ≤ (bz (∃ i : Int, 0 ≤ i ∧ i < ct 10 ∧ c_get td 10 i 0 = a)) ∧ (bz (∃ i : Int, 0 ≤ i ∧ i < ct 10 ∧ c_get td 10 i 0 = a)) ≤ 1) := by
  refine Ct_of [some (.ref f), some (jI a), none] (by decide) (Nat.le_of_ble_eq_true rfl) rfl (fun κ hl h hR hRt hmn hn0 => ?_)
  have h : Ok κ RX1 cX1_isGap 3 (some .boolean) := h
  obtain ⟨hn, hO, hA, hB, hC, hD, hE, rA, rB, r0, rC, rD, rE⟩ := id hF
  have a10 := rA 10
  have loop : ∀ (dq : Nat) (i : Int), (0 ≤ i ∧ i ≤ ct 10) → (∀ j : Int, 0 ≤ j → j < i → c_get td 10 j 0 ≠ a) → (8 - i).toNat < dq → J κ 3 0 0 n 2 [some (.ref f), some (jI a), some (jI i)] [] M := by
    intro dq
    induction dq with
    | zero => intro i hi hx hd; omega
    | succ dq ih =>
      intro i hi hx hd
      refine jr_iload_n (pc := 2) h dX1_isGap_2 rfl ?_
      refine jr_aload_n (pc := 3) h dX1_isGap_3 rfl ?_
      refine gf_X1_9 (pc := 4) h dX1_isGap_4 (by assumption) (by omega) ?_
      refine jr_bipush (pc := 7) h dX1_isGap_7 bp_10 ?_
      refine jr_ialdc (pc := 9) h (10 : Nat) rfl dX1_isGap_9 (by assumption) (by omega) (by decide) ?_
      refine jr_icmp_ge (pc := 10) h 33 dX1_isGap_10 (by decide) (by omega) (by omega) (fun c_10 => ?_) (fun c_10 => ?_)
      · skip
        refine jr_iconst (pc := 33) h dX1_isGap_33 ?_
        refine jr_iret (pc := 34) h hRt dX1_isGap_34 rfl (Nat.le_of_ble_eq_true rfl) (Nat.le_of_ble_eq_true rfl) ?_
        exact ⟨⟨ji_c (bz_f (fun ⟨j, h1, h2, h3⟩ => hx j h1 (by omega) h3)).symm, rfl, rfl⟩, bz_r _⟩
      · skip
        refine jr_aload_n (pc := 13) h dX1_isGap_13 rfl ?_
        refine jr_bipush (pc := 14) h dX1_isGap_14 bp_10 ?_
        refine jr_iload_n (pc := 16) h dX1_isGap_16 rfl ?_
        refine jr_iconst (pc := 17) h dX1_isGap_17 ?_
        refine iv_X1_48 (pc := 18) h hl hR dX1_isGap_18 ⟨(Nat.le_of_ble_eq_true rfl), (Nat.le_of_ble_eq_true rfl), (Nat.le_of_ble_eq_true rfl), (Nat.le_of_ble_eq_true rfl)⟩ (Nat.le_of_ble_eq_true rfl) (by assumption) (by omega) (s_X1_get hF (by omega) (by omega) (by omega)) (fun v_18 n_18 M_18 hn_18 hp => ?_)
        obtain ⟨⟨rfl, rfl, rfl⟩, gr_18⟩ := hp
        refine jr_iload_n (pc := 21) h dX1_isGap_21 rfl ?_
        refine jr_icmp_ne (pc := 22) h 27 dX1_isGap_22 (by decide) (by omega) (by omega) (fun c_22 => ?_) (fun c_22 => ?_)
        · skip
          refine jr_iinc (pc := 27) h [_, _, _] dX1_isGap_27 (by decide) rfl rfl ?_
          refine jr_goto (pc := 30) h 2 dX1_isGap_30 (by decide) ?_
          refine ih _ (by omega) (fun j h1 h2 => ?_) (by omega)
          by_cases q : j = i
          · rw [q]; omega
          · exact hx j h1 (by omega)
        · skip
          refine jr_iconst (pc := 25) h dX1_isGap_25 ?_
          refine jr_iret (pc := 26) h hRt dX1_isGap_26 rfl (Nat.le_of_ble_eq_true rfl) (Nat.le_of_ble_eq_true rfl) ?_
          exact ⟨⟨ji_c (bz_t ⟨i, by omega, by omega, by omega⟩).symm, rfl, rfl⟩, bz_r _⟩
  refine jr_iconst (pc := 0) h dX1_isGap_0 ?_
  refine jr_istore_n (pc := 1) h [_, _, _] dX1_isGap_1 (by decide) rfl ?_
  exact loop _ _ (by omega) (fun j h1 h2 => by omega) (Nat.lt_succ_self _)
set_option maxHeartbeats 1000000 in
set_option maxRecDepth 20000 in
theorem s_X1_loadOf {l : Launch} {n : Nat} {M : jdM} {f : Nat} {ct td bk si ld : Nat → Int} (hF : Fl M n f ct td bk si ld) {a b : Int} (ha : -1000 ≤ a ∧ a ≤ 100000) (hb : -1000 ≤ b ∧ b ≤ 100000) : Ct l yX1_loadOf cX1_loadOf 4 (some .int) rX1_loadOf [.ref f, jI a, jI b] n M (fun vv n' M' => (vv = some (jI (c_load ld a b)) ∧ n = n' ∧ M = M') ∧ (0) ≤ (c_load ld a b) ∧ (c_load ld a b) ≤ 9999) := by
  refine Ct_of [some (.ref f), some (jI a), some (jI b), none] (by decide) (Nat.le_of_ble_eq_true rfl) rfl (fun κ hl h hR hRt hmn hn0 => ?_)
  have h : Ok κ RX1 cX1_loadOf 4 (some .int) := h
  obtain ⟨hn, hO, hA, hB, hC, hD, hE, rA, rB, r0, rC, rD, rE⟩ := id hF
  have ra := rE (a * 4 + b).toNat
  refine jr_iload_n (pc := 0) h dX1_loadOf_0 rfl ?_
  refine jr_iconst (pc := 1) h dX1_loadOf_1 ?_
  refine jr_imul (pc := 2) h dX1_loadOf_2 ?_
  refine jr_iload_n (pc := 3) h dX1_loadOf_3 rfl ?_
  refine jr_iadd (pc := 4) h dX1_loadOf_4 ?_
  refine jr_istore_n (pc := 5) h [_, _, _, _] dX1_loadOf_5 (by decide) rfl ?_
  refine jr_iload_n (pc := 6) h dX1_loadOf_6 rfl ?_
  refine jr_if_lt (pc := 7) h 28 dX1_loadOf_7 (by decide) (by omega) (fun c_7 => ?_) (fun c_7 => ?_)
  · skip
    refine jr_iconst (pc := 28) h dX1_loadOf_28 ?_
    refine jr_iret (pc := 29) h hRt dX1_loadOf_29 rfl (Nat.le_of_ble_eq_true rfl) (Nat.le_of_ble_eq_true rfl) ?_
    refine ⟨⟨ji_c ?_, rfl, rfl⟩, ?_⟩
    · unfold c_load
      (repeat' split) <;> omega
    · unfold c_load
      (repeat' split) <;> omega
  · skip
    refine jr_iload_n (pc := 10) h dX1_loadOf_10 rfl ?_
    refine jr_aload_n (pc := 11) h dX1_loadOf_11 rfl ?_
    refine gf_X1_24 (pc := 12) h dX1_loadOf_12 (by assumption) (by omega) ?_
    refine jr_alen (pc := 15) h dX1_loadOf_15 (by assumption) (by omega) ?_
    refine jr_icmp_ge (pc := 16) h 28 dX1_loadOf_16 (by decide) (by omega) (by omega) (fun c_16 => ?_) (fun c_16 => ?_)
    · skip
      refine jr_iconst (pc := 28) h dX1_loadOf_28 ?_
      refine jr_iret (pc := 29) h hRt dX1_loadOf_29 rfl (Nat.le_of_ble_eq_true rfl) (Nat.le_of_ble_eq_true rfl) ?_
      refine ⟨⟨ji_c ?_, rfl, rfl⟩, ?_⟩
      · unfold c_load
        (repeat' split) <;> omega
      · unfold c_load
        (repeat' split) <;> omega
    · skip
      refine jr_aload_n (pc := 19) h dX1_loadOf_19 rfl ?_
      refine gf_X1_24 (pc := 20) h dX1_loadOf_20 (by assumption) (by omega) ?_
      refine jr_iload_n (pc := 23) h dX1_loadOf_23 rfl ?_
      refine jr_iald (pc := 24) h dX1_loadOf_24 (by assumption) (by omega) (by omega) ?_
      refine jr_goto (pc := 25) h 29 dX1_loadOf_25 (by decide) ?_
      refine jr_iret (pc := 29) h hRt dX1_loadOf_29 rfl (Nat.le_of_ble_eq_true rfl) (Nat.le_of_ble_eq_true rfl) ?_
      refine ⟨⟨ji_c ?_, rfl, rfl⟩, ?_⟩
      · unfold c_load
        (repeat' split) <;> omega
      · unfold c_load
        (repeat' split) <;> omega
set_option maxHeartbeats 1000000 in
set_option maxRecDepth 20000 in
theorem s_X1_loadOfKind {l : Launch} {n : Nat} {M : jdM} {f : Nat} {ct td bk si ld : Nat → Int} (hF : Fl M n f ct td bk si ld) {a : Int} (ha : -1000 ≤ a ∧ a ≤ 100000) : Ct l yX1_loadOfKind cX1_loadOfKind 2 (some .int) rX1_loadOfKind [.ref f, jI a] n M (fun vv n' M' => (vv = some (jI (c_load ld 0 a + c_load ld 1 a)) ∧ n = n' ∧ M = M') ∧ (0) ≤ (c_load ld 0 a + c_load ld 1 a) ∧ (c_load ld 0 a + c_load ld 1 a) ≤ 20000) := by
  refine Ct_of [some (.ref f), some (jI a)] (by decide) (Nat.le_of_ble_eq_true rfl) rfl (fun κ hl h hR hRt hmn hn0 => ?_)
  have h : Ok κ RX1 cX1_loadOfKind 2 (some .int) := h
  obtain ⟨hn, hO, hA, hB, hC, hD, hE, rA, rB, r0, rC, rD, rE⟩ := id hF
  refine jr_aload_n (pc := 0) h dX1_loadOfKind_0 rfl ?_
  refine jr_iconst (pc := 1) h dX1_loadOfKind_1 ?_
  refine jr_iload_n (pc := 2) h dX1_loadOfKind_2 rfl ?_
  refine iv_X1_77 (pc := 3) h hl hR dX1_loadOfKind_3 ⟨(Nat.le_of_ble_eq_true rfl), (Nat.le_of_ble_eq_true rfl), (Nat.le_of_ble_eq_true rfl), (Nat.le_of_ble_eq_true rfl)⟩ (Nat.le_of_ble_eq_true rfl) (by assumption) (by omega) (s_X1_loadOf hF (by omega) (by omega)) (fun v_3 n_3 M_3 hn_3 hp => ?_)
  obtain ⟨⟨rfl, rfl, rfl⟩, gr_3⟩ := hp
  refine jr_aload_n (pc := 6) h dX1_loadOfKind_6 rfl ?_
  refine jr_iconst (pc := 7) h dX1_loadOfKind_7 ?_
  refine jr_iload_n (pc := 8) h dX1_loadOfKind_8 rfl ?_
  refine iv_X1_77 (pc := 9) h hl hR dX1_loadOfKind_9 ⟨(Nat.le_of_ble_eq_true rfl), (Nat.le_of_ble_eq_true rfl), (Nat.le_of_ble_eq_true rfl), (Nat.le_of_ble_eq_true rfl)⟩ (Nat.le_of_ble_eq_true rfl) (by assumption) (by omega) (s_X1_loadOf hF (by omega) (by omega)) (fun v_9 n_9 M_9 hn_9 hp => ?_)
  obtain ⟨⟨rfl, rfl, rfl⟩, gr_9⟩ := hp
  refine jr_iadd (pc := 12) h dX1_loadOfKind_12 ?_
  refine jr_iret (pc := 13) h hRt dX1_loadOfKind_13 rfl (Nat.le_of_ble_eq_true rfl) (Nat.le_of_ble_eq_true rfl) ?_
  exact ⟨⟨rfl, rfl, rfl⟩, by omega⟩
set_option maxHeartbeats 2000000 in
set_option maxRecDepth 20000 in
theorem s_X1_loadOfTrolley {l : Launch} {n : Nat} {M : jdM} {f : Nat} {ct td bk si ld : Nat → Int} (hF : Fl M n f ct td bk si ld) {a : Int} (ha : -1000 ≤ a ∧ a ≤ 100000) : Ct l yX1_loadOfTrolley cX1_loadOfTrolley 4 (some .int) rX1_loadOfTrolley [.ref f, jI a] n M (fun vv n' M' => (vv = some (jI (c_lot ld a)) ∧ n = n' ∧ M = M') ∧ (0) ≤ (c_lot ld a) ∧ (c_lot ld a) ≤ 39996) := by
  refine Ct_of [some (.ref f), some (jI a), none, none] (by decide) (Nat.le_of_ble_eq_true rfl) rfl (fun κ hl h hR hRt hmn hn0 => ?_)
  have h : Ok κ RX1 cX1_loadOfTrolley 4 (some .int) := h
  obtain ⟨hn, hO, hA, hB, hC, hD, hE, rA, rB, r0, rC, rD, rE⟩ := id hF
  have loop : ∀ (dq : Nat) (x i : Int), (0 ≤ i ∧ i ≤ 4) → (x = sumZ (fun k => c_load ld a k) i.toNat) → (0 ≤ x ∧ x ≤ 9999 * i) → (8 - i).toNat < dq → J κ 4 0 0 n 4 [some (.ref f), some (jI a), some (jI x), some (jI i)] [] M := by
    intro dq
    induction dq with
    | zero => intro x i hi hx hb hd; omega
    | succ dq ih =>
      intro x i hi hx hb hd
      refine jr_iload_n (pc := 4) h dX1_loadOfTrolley_4 rfl ?_
      refine jr_iconst (pc := 5) h dX1_loadOfTrolley_5 ?_
      refine jr_icmp_ge (pc := 6) h 24 dX1_loadOfTrolley_6 (by decide) (by omega) (by omega) (fun c_6 => ?_) (fun c_6 => ?_)
      · skip
        refine jr_iload_n (pc := 24) h dX1_loadOfTrolley_24 rfl ?_
        refine jr_iret (pc := 25) h hRt dX1_loadOfTrolley_25 rfl (Nat.le_of_ble_eq_true rfl) (Nat.le_of_ble_eq_true rfl) ?_
        have e : i = 4 := by omega
        subst e
        refine ⟨⟨ji_c ?_, rfl, rfl⟩, ?_⟩
        · rw [hx]; rfl
        · unfold c_lot; rw [show (4 : Nat) = (4 : Int).toNat from rfl, ← hx]; omega
      · skip
        refine jr_iload_n (pc := 9) h dX1_loadOfTrolley_9 rfl ?_
        refine jr_aload_n (pc := 10) h dX1_loadOfTrolley_10 rfl ?_
        refine jr_iload_n (pc := 11) h dX1_loadOfTrolley_11 rfl ?_
        refine jr_iload_n (pc := 12) h dX1_loadOfTrolley_12 rfl ?_
        refine iv_X1_77 (pc := 13) h hl hR dX1_loadOfTrolley_13 ⟨(Nat.le_of_ble_eq_true rfl), (Nat.le_of_ble_eq_true rfl), (Nat.le_of_ble_eq_true rfl), (Nat.le_of_ble_eq_true rfl)⟩ (Nat.le_of_ble_eq_true rfl) (by assumption) (by omega) (s_X1_loadOf hF (by omega) (by omega)) (fun v_13 n_13 M_13 hn_13 hp => ?_)
        obtain ⟨⟨rfl, rfl, rfl⟩, gr_13⟩ := hp
        refine jr_iadd (pc := 16) h dX1_loadOfTrolley_16 ?_
        refine jr_istore_n (pc := 17) h [_, _, _, _] dX1_loadOfTrolley_17 (by decide) rfl ?_
        refine jr_iinc (pc := 18) h [_, _, _, _] dX1_loadOfTrolley_18 (by decide) rfl rfl ?_
        refine jr_goto (pc := 21) h 4 dX1_loadOfTrolley_21 (by decide) ?_
        refine ih _ _ (by omega) ?_ (by omega) (by omega)
        rw [sumZ_s (by omega), hx]
  refine jr_iconst (pc := 0) h dX1_loadOfTrolley_0 ?_
  refine jr_istore_n (pc := 1) h [_, _, _, _] dX1_loadOfTrolley_1 (by decide) rfl ?_
  refine jr_iconst (pc := 2) h dX1_loadOfTrolley_2 ?_
  refine jr_istore_n (pc := 3) h [_, _, _, _] dX1_loadOfTrolley_3 (by decide) rfl ?_
  exact loop _ _ _ (by omega) rfl (by omega) (Nat.lt_succ_self _)
