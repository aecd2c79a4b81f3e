/-! 10: the class Flight, its reads -/
def fX1 (b : Nat) : Nat → Value
  | 0 => .ref (b + 1)
  | 1 => .ref (b + 2)
  | 2 => .ref (b + 3)
  | 3 => .ref (b + 4)
  | _ => .ref (b + 5)
/-- a Flight at b: counts, told, blocks, sitters, loads -/
def Fl (M : jdM) (n b : Nat) (ct td bk si ld : Nat → Int) : Prop :=
  b + 6 ≤ n ∧ M b = jdO 1 (fX1 b) ∧ M (b + 1) = jdA 13 ct ∧ M (b + 2) = jdA 1248 td ∧ M (b + 3) = jdA 41 bk ∧ M (b + 4) = jdA 41 si ∧ M (b + 5) = jdA 8 ld ∧ (∀ j, 0 ≤ ct j ∧ ct j ≤ 8) ∧ (∀ j, 0 ≤ td j ∧ td j ≤ 999) ∧ (∀ j, -1 ≤ bk j ∧ bk j ≤ 8) ∧ (∀ j, 0 ≤ si j ∧ si j ≤ 9) ∧ (∀ j, 0 ≤ ld j ∧ ld j ≤ 9999)
def c_count (ct : Nat → Int) (a : Int) : Int := if 0 ≤ a ∧ a < 13 then ct a.toNat else 0
def c_get (td : Nat → Int) (a b c : Int) : Int := if 0 ≤ a ∧ a < 13 ∧ 0 ≤ b ∧ b < 8 ∧ 0 ≤ c ∧ c < 12 then td ((a * 8 + b) * 12 + c).toNat else 0
set_option maxHeartbeats 1000000 in
set_option maxRecDepth 20000 in
theorem s_X1_count {l : Launch} {n : Nat} {M : jdM} {f : Nat} {ct td bk si ld : Nat → Int} (hF : Fl M n f ct td bk si ld) {a : Int} (ha : -2147483648 ≤ a ∧ a < 2147483648) : Ct l yX1_count cX1_count 2 (some .int) rX1_count [.ref f, jI a] n M (fun v n' M' => v = some (jI (c_count ct a)) ∧ n' = n ∧ M' = M) := by
  refine Ct_of [some (.ref f), some (jI a)] (by decide) (Nat.le_of_ble_eq_true rfl) rfl (fun κ hl h hR hRt hmn hn0 => ?_)
  have h : Ok κ RX1 cX1_count 2 (some .int) := h
  obtain ⟨hn, hO, hA, hB, hC, hD, hE, rA, rB, rC, rD, rE⟩ := hF
  refine jr_iload_n (pc := 0) h dX1_count_0 rfl ?_
  refine jr_if_lt (pc := 1) h 19 dX1_count_1 (by decide) (by omega) (fun c_1 => ?_) (fun c_1 => ?_)
  · skip
    refine jr_iconst (pc := 19) h dX1_count_19 ?_
    refine jr_iret (pc := 20) h hRt dX1_count_20 rfl (Nat.le_of_ble_eq_true rfl) (Nat.le_of_ble_eq_true rfl) ?_
    refine ⟨?_, rfl, rfl⟩
    unfold c_count
    first | rw [if_neg (by omega)] | rw [if_pos (by omega)]
  · skip
    refine jr_iload_n (pc := 4) h dX1_count_4 rfl ?_
    refine jr_bipush (pc := 5) h dX1_count_5 bp_13 ?_
    refine jr_icmp_ge (pc := 7) h 19 dX1_count_7 (by decide) (by omega) (by omega) (fun c_7 => ?_) (fun c_7 => ?_)
    · skip
      refine jr_iconst (pc := 19) h dX1_count_19 ?_
      refine jr_iret (pc := 20) h hRt dX1_count_20 rfl (Nat.le_of_ble_eq_true rfl) (Nat.le_of_ble_eq_true rfl) ?_
      refine ⟨?_, rfl, rfl⟩
      unfold c_count
      first | rw [if_neg (by omega)] | rw [if_pos (by omega)]
    · skip
      refine jr_aload_n (pc := 10) h dX1_count_10 rfl ?_
      refine gf_X1_9 (pc := 11) h dX1_count_11 (by assumption) (by omega) ?_
      refine jr_iload_n (pc := 14) h dX1_count_14 rfl ?_
      refine jr_iald (pc := 15) h dX1_count_15 (by assumption) (by omega) (by omega) ?_
      refine jr_goto (pc := 16) h 20 dX1_count_16 (by decide) ?_
      refine jr_iret (pc := 20) h hRt dX1_count_20 rfl (Nat.le_of_ble_eq_true rfl) (Nat.le_of_ble_eq_true rfl) ?_
      refine ⟨?_, rfl, rfl⟩
      unfold c_count
      first | rw [if_neg (by omega)] | rw [if_pos (by omega)]
set_option maxHeartbeats 1000000 in
set_option maxRecDepth 20000 in
theorem s_X1_get {l : Launch} {n : Nat} {M : jdM} {f : Nat} {ct td bk si ld : Nat → Int} (hF : Fl M n f ct td bk si ld) {a b c : Int} (ha : -2147483648 ≤ a ∧ a < 2147483648) (hb : -2147483648 ≤ b ∧ b < 2147483648) (hc : -2147483648 ≤ c ∧ c < 2147483648) : Ct l yX1_get cX1_get 4 (some .int) rX1_get [.ref f, jI a, jI b, jI c] n M (fun v n' M' => v = some (jI (c_get td a b c)) ∧ n' = n ∧ M' = M) := by
  refine Ct_of [some (.ref f), some (jI a), some (jI b), some (jI c)] (by decide) (Nat.le_of_ble_eq_true rfl) rfl (fun κ hl h hR hRt hmn hn0 => ?_)
  have h : Ok κ RX1 cX1_get 4 (some .int) := h
  obtain ⟨hn, hO, hA, hB, hC, hD, hE, rA, rB, rC, rD, rE⟩ := hF
  refine jr_iload_n (pc := 0) h dX1_get_0 rfl ?_
  refine jr_if_lt (pc := 1) h 30 dX1_get_1 (by decide) (by omega) (fun c_1 => ?_) (fun c_1 => ?_)
  · skip
    refine jr_iconst (pc := 30) h dX1_get_30 ?_
    refine jr_iret (pc := 31) h hRt dX1_get_31 rfl (Nat.le_of_ble_eq_true rfl) (Nat.le_of_ble_eq_true rfl) ?_
    refine ⟨?_, rfl, rfl⟩
    unfold c_get
    first | rw [if_neg (by omega)] | rw [if_pos (by omega)]
  · skip
    refine jr_iload_n (pc := 4) h dX1_get_4 rfl ?_
    refine jr_bipush (pc := 5) h dX1_get_5 bp_13 ?_
    refine jr_icmp_ge (pc := 7) h 30 dX1_get_7 (by decide) (by omega) (by omega) (fun c_7 => ?_) (fun c_7 => ?_)
    · skip
      refine jr_iconst (pc := 30) h dX1_get_30 ?_
      refine jr_iret (pc := 31) h hRt dX1_get_31 rfl (Nat.le_of_ble_eq_true rfl) (Nat.le_of_ble_eq_true rfl) ?_
      refine ⟨?_, rfl, rfl⟩
      unfold c_get
      first | rw [if_neg (by omega)] | rw [if_pos (by omega)]
    · skip
      refine jr_iload_n (pc := 10) h dX1_get_10 rfl ?_
      refine jr_if_lt (pc := 11) h 30 dX1_get_11 (by decide) (by omega) (fun c_11 => ?_) (fun c_11 => ?_)
      · skip
        refine jr_iconst (pc := 30) h dX1_get_30 ?_
        refine jr_iret (pc := 31) h hRt dX1_get_31 rfl (Nat.le_of_ble_eq_true rfl) (Nat.le_of_ble_eq_true rfl) ?_
        refine ⟨?_, rfl, rfl⟩
        unfold c_get
        first | rw [if_neg (by omega)] | rw [if_pos (by omega)]
      · skip
        refine jr_iload_n (pc := 14) h dX1_get_14 rfl ?_
        refine jr_bipush (pc := 15) h dX1_get_15 bp_8 ?_
        refine jr_icmp_ge (pc := 17) h 30 dX1_get_17 (by decide) (by omega) (by omega) (fun c_17 => ?_) (fun c_17 => ?_)
        · skip
          refine jr_iconst (pc := 30) h dX1_get_30 ?_
          refine jr_iret (pc := 31) h hRt dX1_get_31 rfl (Nat.le_of_ble_eq_true rfl) (Nat.le_of_ble_eq_true rfl) ?_
          refine ⟨?_, rfl, rfl⟩
          unfold c_get
          first | rw [if_neg (by omega)] | rw [if_pos (by omega)]
        · skip
          refine jr_iload_n (pc := 20) h dX1_get_20 rfl ?_
          refine jr_if_lt (pc := 21) h 30 dX1_get_21 (by decide) (by omega) (fun c_21 => ?_) (fun c_21 => ?_)
          · skip
            refine jr_iconst (pc := 30) h dX1_get_30 ?_
            refine jr_iret (pc := 31) h hRt dX1_get_31 rfl (Nat.le_of_ble_eq_true rfl) (Nat.le_of_ble_eq_true rfl) ?_
            refine ⟨?_, rfl, rfl⟩
            unfold c_get
            first | rw [if_neg (by omega)] | rw [if_pos (by omega)]
          · skip
            refine jr_iload_n (pc := 24) h dX1_get_24 rfl ?_
            refine jr_bipush (pc := 25) h dX1_get_25 bp_12 ?_
            refine jr_icmp_lt (pc := 27) h 32 dX1_get_27 (by decide) (by omega) (by omega) (fun c_27 => ?_) (fun c_27 => ?_)
            · skip
              refine jr_aload_n (pc := 32) h dX1_get_32 rfl ?_
              refine gf_X1_15 (pc := 33) h dX1_get_33 (by assumption) (by omega) ?_
              refine jr_iload_n (pc := 36) h dX1_get_36 rfl ?_
              refine jr_bipush (pc := 37) h dX1_get_37 bp_8 ?_
              refine jr_imul (pc := 39) h dX1_get_39 ?_
              refine jr_iload_n (pc := 40) h dX1_get_40 rfl ?_
              refine jr_iadd (pc := 41) h dX1_get_41 ?_
              refine jr_bipush (pc := 42) h dX1_get_42 bp_12 ?_
              refine jr_imul (pc := 44) h dX1_get_44 ?_
              refine jr_iload_n (pc := 45) h dX1_get_45 rfl ?_
              refine jr_iadd (pc := 46) h dX1_get_46 ?_
              refine jr_iald (pc := 47) h dX1_get_47 (by assumption) (by omega) (by omega) ?_
              refine jr_iret (pc := 48) h hRt dX1_get_48 rfl (Nat.le_of_ble_eq_true rfl) (Nat.le_of_ble_eq_true rfl) ?_
              refine ⟨?_, rfl, rfl⟩
              unfold c_get
              first | rw [if_neg (by omega)] | rw [if_pos (by omega)]
            · skip
              refine jr_iconst (pc := 30) h dX1_get_30 ?_
              refine jr_iret (pc := 31) h hRt dX1_get_31 rfl (Nat.le_of_ble_eq_true rfl) (Nat.le_of_ble_eq_true rfl) ?_
              refine ⟨?_, rfl, rfl⟩
              unfold c_get
              first | rw [if_neg (by omega)] | rw [if_pos (by omega)]
