/-! 23: strings of the library; Tokens: signs and words -/
theorem i2c_id {x : Int} (h : 0 ≤ x ∧ x < 65536) : ((Int32.ofInt x).toUInt32 % 65536).toInt32 = Int32.ofInt x := by
  apply Int32.toInt_inj.mp
  have e1 : (Int32.ofInt x).toUInt32.toNat = x.toNat := by
    have h1 : (Int32.ofInt x).toInt = x := ji_to (by omega)
    have e2 : (Int32.ofInt x).toUInt32.toNat = ((Int32.ofInt x).toBitVec).toNat := rfl
    have e3 := BitVec.toInt_eq_toNat_cond (Int32.ofInt x).toBitVec
    have e4 : (Int32.ofInt x).toBitVec.toInt = x := h1
    rw [e4] at e3
    rw [e2]
    split at e3 <;> omega
  have e5 : (Int32.ofInt x).toUInt32 % 65536 = (Int32.ofInt x).toUInt32 := by
    apply UInt32.toNat_inj.mp
    rw [UInt32.toNat_mod, e1]
    exact Nat.mod_eq_of_lt (show x.toNat < 65536 by omega)
  rw [e5]; rfl
theorem nar_c {x : Int} (h : 0 ≤ x ∧ x < 65536) : narrow .char (.int (Int32.ofInt x)) = .int (Int32.ofInt x) := by
  have e := i2c_id h
  show Value.int _ = _
  exact congrArg Value.int e
theorem sh0 (x : Int32) : x >>> (Int32.ofInt 0 &&& 31) = x := by
  have e : (Int32.ofInt 0 &&& 31) = 0 := by decide
  rw [e]; simp
theorem and255 : ∀ b : Fin 128, Int32.ofInt (b.val : Int) &&& Int32.ofInt 255 = Int32.ofInt (b.val : Int) := by decide +kernel
theorem and255i {b : Int} (h : 0 ≤ b ∧ b < 128) : Int32.ofInt b &&& Int32.ofInt 255 = Int32.ofInt b := by
  have := and255 ⟨b.toNat, by omega⟩
  rw [show ((⟨b.toNat, by omega⟩ : Fin 128).val : Int) = b by show (b.toNat : Int) = b; omega] at this
  exact this
theorem jtxt_b : ∀ i : Fin 58, ((jtxt i.val).all (fun z => decide (0 ≤ z ∧ z < 128)) && decide ((jtxt i.val).length ≤ 112)) = true := by decide +kernel
theorem jtxt_r {i j : Nat} (h : i < 58) : 0 ≤ (jtxt i).getD j 0 ∧ (jtxt i).getD j 0 < 128 := by
  have h1 := jtxt_b ⟨i, h⟩
  rw [Bool.and_eq_true] at h1
  have h2 := List.all_eq_true.mp h1.1
  rw [List.getD_eq_getElem?_getD]
  cases hq : (jtxt i)[j]? with
  | none => simp
  | some z => exact of_decide_eq_true (h2 z (List.mem_of_getElem? hq))
theorem jtxt_l {i : Nat} (h : i < 58) : (jtxt i).length ≤ 112 := by
  have h1 := jtxt_b ⟨i, h⟩
  rw [Bool.and_eq_true] at h1
  exact of_decide_eq_true h1.2
theorem jtxt_0 : (jtxt 0).length = 112 := by decide +kernel
set_option maxHeartbeats 1000000 in
set_option maxRecDepth 20000 in
theorem s_J0_coder {l : Launch} {n : Nat} {M : jdM} {k : Nat} (hk58 : k < 58) : Ct l yJ0_coder_7d493 cJ0_coder_7d493 1 (some .byte) rJ0_coder_7d493 [.ref (1000000 + 100 + k)] n M (fun vv n' M' => vv = some (jI 0) ∧ n = n' ∧ M = M') := by
  refine Ct_of [some (.ref (1000000 + 100 + k))] (by decide) (Nat.le_of_ble_eq_true rfl) rfl (fun κ hl h hR hRt hmn hn0 => ?_)
  have h : Ok κ RJ0 cJ0_coder_7d493 1 (some .byte) := h
  refine jr_getj (pc := 0) h 0 (by decide) wm_188 dJ0_coder_7d493_0 ?_
  change J κ _ _ _ _ _ _ (jI 1 :: _) _
  refine jr_if_eq (pc := 3) h 13 dJ0_coder_7d493_3 (by decide) (by omega) (fun c_3 => ?_) (fun c_3 => ?_)
  · skip
    exfalso; omega
  · skip
    refine jr_aload_n (pc := 6) h dJ0_coder_7d493_6 rfl ?_
    refine jr_strC (pc := 7) h hk58 wm_189 dJ0_coder_7d493_7 ?_
    refine jr_goto (pc := 10) h 14 dJ0_coder_7d493_10 (by decide) ?_
    refine jr_iret (pc := 14) h hRt dJ0_coder_7d493_14 rfl (Nat.le_of_ble_eq_true rfl) (Nat.le_of_ble_eq_true rfl) ?_
    exact ⟨rfl, rfl, rfl⟩
set_option maxHeartbeats 1000000 in
set_option maxRecDepth 20000 in
theorem s_J0_isLatin1 {l : Launch} {n : Nat} {M : jdM} {k : Nat} (hk58 : k < 58) : Ct l yJ0_isLatin1_aae02 cJ0_isLatin1_aae02 1 (some .boolean) rJ0_isLatin1_aae02 [.ref (1000000 + 100 + k)] n M (fun vv n' M' => vv = some (jI 1) ∧ n = n' ∧ M = M') := by
  refine Ct_of [some (.ref (1000000 + 100 + k))] (by decide) (Nat.le_of_ble_eq_true rfl) rfl (fun κ hl h hR hRt hmn hn0 => ?_)
  have h : Ok κ RJ0 cJ0_isLatin1_aae02 1 (some .boolean) := h
  refine jr_getj (pc := 0) h 0 (by decide) wm_188 dJ0_isLatin1_aae02_0 ?_
  change J κ _ _ _ _ _ _ (jI 1 :: _) _
  refine jr_if_eq (pc := 3) h 17 dJ0_isLatin1_aae02_3 (by decide) (by omega) (fun c_3 => ?_) (fun c_3 => ?_)
  · skip
    exfalso; omega
  · skip
    refine jr_aload_n (pc := 6) h dJ0_isLatin1_aae02_6 rfl ?_
    refine jr_strC (pc := 7) h hk58 wm_189 dJ0_isLatin1_aae02_7 ?_
    refine jr_if_ne (pc := 10) h 17 dJ0_isLatin1_aae02_10 (by decide) (by omega) (fun c_10 => ?_) (fun c_10 => ?_)
    · skip
      exfalso; omega
    · skip
      refine jr_iconst (pc := 13) h dJ0_isLatin1_aae02_13 ?_
      refine jr_goto (pc := 14) h 18 dJ0_isLatin1_aae02_14 (by decide) ?_
      refine jr_iret (pc := 18) h hRt dJ0_isLatin1_aae02_18 rfl (Nat.le_of_ble_eq_true rfl) (Nat.le_of_ble_eq_true rfl) ?_
      exact ⟨rfl, rfl, rfl⟩
set_option maxHeartbeats 1000000 in
set_option maxRecDepth 20000 in
theorem s_J0_length {l : Launch} {n : Nat} {M : jdM} {k : Nat} (hk58 : k < 58) : Ct l yJ0_length_8abf5 cJ0_length_8abf5 1 (some .int) rJ0_length_8abf5 [.ref (1000000 + 100 + k)] n M (fun vv n' M' => vv = some (jI ((jtxt k).length : Int)) ∧ n = n' ∧ M = M') := by
  refine Ct_of [some (.ref (1000000 + 100 + k))] (by decide) (Nat.le_of_ble_eq_true rfl) rfl (fun κ hl h hR hRt hmn hn0 => ?_)
  have h : Ok κ RJ0 cJ0_length_8abf5 1 (some .int) := h
  refine jr_aload_n (pc := 0) h dJ0_length_8abf5_0 rfl ?_
  refine jr_strV (pc := 1) h hk58 wm_183 dJ0_length_8abf5_1 ?_
  refine jr_strL (pc := 4) h hk58 dJ0_length_8abf5_4 ?_
  refine jr_aload_n (pc := 5) h dJ0_length_8abf5_5 rfl ?_
  refine iv_J0_335 (pc := 6) h hl hR dJ0_length_8abf5_6 ⟨(Nat.le_of_ble_eq_true rfl), (Nat.le_of_ble_eq_true rfl), (Nat.le_of_ble_eq_true rfl), (Nat.le_of_ble_eq_true rfl)⟩ (Nat.le_of_ble_eq_true rfl) hk58 (s_J0_coder hk58) (fun v_6 n_6 M_6 hn_6 hp => ?_)
  obtain ⟨rfl, rfl, rfl⟩ := hp
  refine jr_ishr (pc := 9) h dJ0_length_8abf5_9 ?_
  rw [sh0]
  refine jr_iret (pc := 10) h hRt dJ0_length_8abf5_10 rfl (Nat.le_of_ble_eq_true rfl) (Nat.le_of_ble_eq_true rfl) ?_
  exact ⟨rfl, rfl, rfl⟩
set_option maxHeartbeats 1000000 in
set_option maxRecDepth 20000 in
theorem s_J3_checkIndexN {l : Launch} {n : Nat} {M : jdM} {i m : Int} (hi : 0 ≤ i ∧ i < m ∧ m < 2147483648) : Ct l yJ3_checkIndex_8e157 cJ3_checkIndex_8e157 3 (some .int) rJ3_checkIndex_8e157 [jI i, jI m, .null] n M (fun vv n' M' => vv = some (jI i) ∧ n = n' ∧ M = M') := by
  refine Ct_of [some (jI i), some (jI m), some (.null)] (by decide) (Nat.le_of_ble_eq_true rfl) rfl (fun κ hl h hR hRt hmn hn0 => ?_)
  have h : Ok κ RJ3 cJ3_checkIndex_8e157 3 (some .int) := h
  refine jr_iload_n (pc := 0) h dJ3_checkIndex_8e157_0 rfl ?_
  refine jr_if_lt (pc := 1) h 9 dJ3_checkIndex_8e157_1 (by decide) (by omega) (fun c_1 => ?_) (fun c_1 => ?_)
  · skip
    exfalso; omega
  · skip
    refine jr_iload_n (pc := 4) h dJ3_checkIndex_8e157_4 rfl ?_
    refine jr_iload_n (pc := 5) h dJ3_checkIndex_8e157_5 rfl ?_
    refine jr_icmp_lt (pc := 6) h 16 dJ3_checkIndex_8e157_6 (by decide) (by omega) (by omega) (fun c_6 => ?_) (fun c_6 => ?_)
    · skip
      refine jr_iload_n (pc := 16) h dJ3_checkIndex_8e157_16 rfl ?_
      refine jr_iret (pc := 17) h hRt dJ3_checkIndex_8e157_17 rfl (Nat.le_of_ble_eq_true rfl) (Nat.le_of_ble_eq_true rfl) ?_
      exact ⟨rfl, rfl, rfl⟩
    · skip
      exfalso; omega
set_option maxHeartbeats 1000000 in
set_option maxRecDepth 20000 in
theorem s_J3_checkIndexR {l : Launch} {n : Nat} {M : jdM} {i m : Int} (hi : 0 ≤ i ∧ i < m ∧ m < 2147483648) : Ct l yJ3_checkIndex_8e157 cJ3_checkIndex_8e157 3 (some .int) rJ3_checkIndex_8e157 [jI i, jI m, .ref 1000998] n M (fun vv n' M' => vv = some (jI i) ∧ n = n' ∧ M = M') := by
  refine Ct_of [some (jI i), some (jI m), some (.ref 1000998)] (by decide) (Nat.le_of_ble_eq_true rfl) rfl (fun κ hl h hR hRt hmn hn0 => ?_)
  have h : Ok κ RJ3 cJ3_checkIndex_8e157 3 (some .int) := h
  refine jr_iload_n (pc := 0) h dJ3_checkIndex_8e157_0 rfl ?_
  refine jr_if_lt (pc := 1) h 9 dJ3_checkIndex_8e157_1 (by decide) (by omega) (fun c_1 => ?_) (fun c_1 => ?_)
  · skip
    exfalso; omega
  · skip
    refine jr_iload_n (pc := 4) h dJ3_checkIndex_8e157_4 rfl ?_
    refine jr_iload_n (pc := 5) h dJ3_checkIndex_8e157_5 rfl ?_
    refine jr_icmp_lt (pc := 6) h 16 dJ3_checkIndex_8e157_6 (by decide) (by omega) (by omega) (fun c_6 => ?_) (fun c_6 => ?_)
    · skip
      refine jr_iload_n (pc := 16) h dJ3_checkIndex_8e157_16 rfl ?_
      refine jr_iret (pc := 17) h hRt dJ3_checkIndex_8e157_17 rfl (Nat.le_of_ble_eq_true rfl) (Nat.le_of_ble_eq_true rfl) ?_
      exact ⟨rfl, rfl, rfl⟩
    · skip
      exfalso; omega
theorem s_J3_checkIndex {l : Launch} {n : Nat} {M : jdM} {i m : Int} (hi : 0 ≤ i ∧ i < m ∧ m < 2147483648) {v : Value} (hv : v = .null ∨ v = .ref 1000998) : Ct l yJ3_checkIndex_8e157 cJ3_checkIndex_8e157 3 (some .int) rJ3_checkIndex_8e157 [jI i, jI m, v] n M (fun vv n' M' => vv = some (jI i) ∧ n = n' ∧ M = M') := by
  rcases hv with rfl | rfl
  · exact s_J3_checkIndexN hi
  · exact s_J3_checkIndexR hi
set_option maxHeartbeats 1000000 in
set_option maxRecDepth 20000 in
theorem s_J0_checkIndex {l : Launch} {n : Nat} {M : jdM} {i m : Int} (hi : 0 ≤ i ∧ i < m ∧ m < 2147483648) : Ct l yJ0_checkIndex_df160 cJ0_checkIndex_df160 2 none rJ0_checkIndex_df160 [jI i, jI m] n M (fun vv n' M' => vv = none ∧ n = n' ∧ M = M') := by
  refine Ct_of [some (jI i), some (jI m)] (by decide) (Nat.le_of_ble_eq_true rfl) rfl (fun κ hl h hR hRt hmn hn0 => ?_)
  have h : Ok κ RJ0 cJ0_checkIndex_df160 2 none := h
  refine jr_iload_n (pc := 0) h dJ0_checkIndex_df160_0 rfl ?_
  refine jr_iload_n (pc := 1) h dJ0_checkIndex_df160_1 rfl ?_
  refine jr_getq (pc := 2) h wm_205 dJ0_checkIndex_df160_2 (fun vq hq => ?_)
  refine iv_J0_1059 (pc := 5) h hl hR dJ0_checkIndex_df160_5 ⟨(Nat.le_of_ble_eq_true rfl), (Nat.le_of_ble_eq_true rfl), (Nat.le_of_ble_eq_true rfl), (Nat.le_of_ble_eq_true rfl)⟩ (Nat.le_of_ble_eq_true rfl) (s_J3_checkIndex hi hq) (fun v_5 n_5 M_5 hn_5 hp => ?_)
  obtain ⟨rfl, rfl, rfl⟩ := hp
  refine jr_pop (pc := 8) h dJ0_checkIndex_df160_8 rfl ?_
  refine jr_vret (pc := 9) h hRt dJ0_checkIndex_df160_9 (Nat.le_of_ble_eq_true rfl) (Nat.le_of_ble_eq_true rfl) ?_
  exact ⟨rfl, rfl, rfl⟩
set_option maxHeartbeats 1000000 in
set_option maxRecDepth 20000 in
theorem s_J1_charAt {l : Launch} {n : Nat} {M : jdM} {k : Nat} (hk58 : k < 58) {j : Int} (hj : 0 ≤ j ∧ j < ((jtxt k).length : Int)) : Ct l yJ1_charAt_3b067 cJ1_charAt_3b067 2 (some .char) rJ1_charAt_3b067 [.ref (1000000 + 200 + k), jI j] n M (fun vv n' M' => vv = some (jI ((jtxt k).getD j.toNat 0)) ∧ n = n' ∧ M = M') := by
  refine Ct_of [some (.ref (1000000 + 200 + k)), some (jI j)] (by decide) (Nat.le_of_ble_eq_true rfl) rfl (fun κ hl h hR hRt hmn hn0 => ?_)
  have h : Ok κ RJ1 cJ1_charAt_3b067 2 (some .char) := h
  have jr := jtxt_r (j := j.toNat) hk58
  have jl := jtxt_l hk58
  refine jr_iload_n (pc := 0) h dJ1_charAt_3b067_0 rfl ?_
  refine jr_aload_n (pc := 1) h dJ1_charAt_3b067_1 rfl ?_
  refine jr_strL (pc := 2) h hk58 dJ1_charAt_3b067_2 ?_
  refine iv_J1_9 (pc := 3) h hl hR dJ1_charAt_3b067_3 ⟨(Nat.le_of_ble_eq_true rfl), (Nat.le_of_ble_eq_true rfl), (Nat.le_of_ble_eq_true rfl), (Nat.le_of_ble_eq_true rfl)⟩ (Nat.le_of_ble_eq_true rfl) (s_J0_checkIndex ⟨hj.1, hj.2, by omega⟩) (fun v_3 n_3 M_3 hn_3 hp => ?_)
  obtain ⟨rfl, rfl, rfl⟩ := hp
  refine jr_aload_n (pc := 6) h dJ1_charAt_3b067_6 rfl ?_
  refine jr_iload_n (pc := 7) h dJ1_charAt_3b067_7 rfl ?_
  refine jr_strB (pc := 8) h hk58 dJ1_charAt_3b067_8 (by omega) ?_
  refine jr_sipush (pc := 9) h dJ1_charAt_3b067_9 sp_255 ?_
  refine jr_iand (pc := 12) h dJ1_charAt_3b067_12 ?_
  rw [and255i jr]
  refine jr_i2c (pc := 13) h (by omega) dJ1_charAt_3b067_13 ?_
  refine jr_iret (pc := 14) h hRt dJ1_charAt_3b067_14 (nar_c (by omega)) (Nat.le_of_ble_eq_true rfl) (Nat.le_of_ble_eq_true rfl) ?_
  exact ⟨rfl, rfl, rfl⟩
set_option maxHeartbeats 1000000 in
set_option maxRecDepth 20000 in
theorem s_J0_charAt {l : Launch} {n : Nat} {M : jdM} {k : Nat} (hk58 : k < 58) {j : Int} (hj : 0 ≤ j ∧ j < ((jtxt k).length : Int)) : Ct l yJ0_charAt_5068e cJ0_charAt_5068e 2 (some .char) rJ0_charAt_5068e [.ref (1000000 + 100 + k), jI j] n M (fun vv n' M' => vv = some (jI ((jtxt k).getD j.toNat 0)) ∧ n = n' ∧ M = M') := by
  refine Ct_of [some (.ref (1000000 + 100 + k)), some (jI j)] (by decide) (Nat.le_of_ble_eq_true rfl) rfl (fun κ hl h hR hRt hmn hn0 => ?_)
  have h : Ok κ RJ0 cJ0_charAt_5068e 2 (some .char) := h
  have jr := jtxt_r (j := j.toNat) hk58
  refine jr_aload_n (pc := 0) h dJ0_charAt_5068e_0 rfl ?_
  refine iv_J0_492 (pc := 1) h hl hR dJ0_charAt_5068e_1 ⟨(Nat.le_of_ble_eq_true rfl), (Nat.le_of_ble_eq_true rfl), (Nat.le_of_ble_eq_true rfl), (Nat.le_of_ble_eq_true rfl)⟩ (Nat.le_of_ble_eq_true rfl) hk58 (s_J0_isLatin1 hk58) (fun v_1 n_1 M_1 hn_1 hp => ?_)
  obtain ⟨rfl, rfl, rfl⟩ := hp
  refine jr_if_eq (pc := 4) h 16 dJ0_charAt_5068e_4 (by decide) (by omega) (fun c_4 => ?_) (fun c_4 => ?_)
  · skip
    exfalso; omega
  · skip
    refine jr_aload_n (pc := 7) h dJ0_charAt_5068e_7 rfl ?_
    refine jr_strV (pc := 8) h hk58 wm_183 dJ0_charAt_5068e_8 ?_
    refine jr_iload_n (pc := 11) h dJ0_charAt_5068e_11 rfl ?_
    refine iv_J0_495 (pc := 12) h hl hR dJ0_charAt_5068e_12 ⟨(Nat.le_of_ble_eq_true rfl), (Nat.le_of_ble_eq_true rfl), (Nat.le_of_ble_eq_true rfl), (Nat.le_of_ble_eq_true rfl)⟩ (Nat.le_of_ble_eq_true rfl) (s_J1_charAt hk58 hj) (fun v_12 n_12 M_12 hn_12 hp => ?_)
    obtain ⟨rfl, rfl, rfl⟩ := hp
    refine jr_iret (pc := 15) h hRt dJ0_charAt_5068e_15 (nar_c (by omega)) (Nat.le_of_ble_eq_true rfl) (Nat.le_of_ble_eq_true rfl) ?_
    exact ⟨rfl, rfl, rfl⟩
/-- what holds of the numbers of a row of tokens -/
def TkO (g : Nat → Int) : Prop := (-2147483648 ≤ g 1 ∧ g 1 ≤ 900) ∧ (0 ≤ g 2 ∧ g 2 ≤ 900) ∧ (0 ≤ g 3 ∧ g 3 ≤ 900) ∧ (0 ≤ g 4 ∧ g 4 ≤ 4) ∧ (-2147483648 ≤ g 7 ∧ g 7 < 2147483648) ∧ (0 ≤ g 12 ∧ g 12 ≤ 16) ∧ (g 4 = 1 → g 2 ≤ g 3 ∧ g 3 ≤ g 1 ∧ g 3 - g 2 ≤ 8) ∧ (g 4 = 2 → 0 ≤ g 5 ∧ g 5 ≤ 999)
def wordIs (bs : Nat → Int) (g : Nat → Int) (k : Nat) : Prop := g 4 = 1 ∧ g 3 - g 2 = ((jtxt k).length : Int) ∧ ∀ j, j < (jtxt k).length → bs ((g 2).toNat + j) = (jtxt k).getD j 0
def resAt (bs : Nat → Int) (g : Nat → Int) (r j : Nat) : Prop := (jtxt 0).getD (8 * r + j) 0 = if g 2 + j < g 3 then bs (g 2 + j).toNat else 32
def resEq (bs : Nat → Int) (g : Nat → Int) (r : Nat) : Prop := ∀ j, j < 8 → resAt bs g r j
noncomputable def resR (bs : Nat → Int) (g : Nat → Int) : Nat → Nat → Int
  | _, 0 => -1
  | r, d + 1 => @ite Int (resEq bs g r) (Classical.propDecidable _) r (resR bs g (r + 1) d)
noncomputable def resI (bs : Nat → Int) (g : Nat → Int) : Int := if g 4 = 1 then resR bs g 0 14 else -1
theorem resR_b {bs g : Nat → Int} : ∀ (d r : Nat), -1 ≤ resR bs g r d ∧ resR bs g r d < r + d
  | 0, r => by unfold resR; omega
  | d + 1, r => by
    have := resR_b (bs := bs) (g := g) d (r + 1)
    unfold resR
    split <;> omega
def fnR (nm : Nat → Int) (w : Int) : Nat → Nat → Int
  | _, 0 => -1
  | i, d + 1 => if nm i = w then i else fnR nm w (i + 1) d
def fnI (nm : Nat → Int) (w c : Int) : Int := fnR nm w 0 c.toNat
theorem fnR_b {nm : Nat → Int} {w : Int} : ∀ (d i : Nat), -1 ≤ fnR nm w i d ∧ fnR nm w i d < i + d
  | 0, i => by unfold fnR; omega
  | d + 1, i => by
    have := fnR_b (nm := nm) (w := w) d (i + 1)
    unfold fnR
    split <;> omega
set_option maxHeartbeats 1000000 in
set_option maxRecDepth 20000 in
theorem s_X6_isSign {l : Launch} {n : Nat} {M : jdM} {b : Nat} {g : Nat → Int} {w : Int} {bs nm ns nn : Nat → Int} (hTk : Tok M n b g w bs nm ns nn) (hby : ∀ i, -128 ≤ bs i ∧ bs i < 128) (hTO : TkO g) {a : Int} (ha : -2147483648 ≤ a ∧ a < 2147483648) : Ct l yX6_isSign cX6_isSign 2 (some .boolean) rX6_isSign [.ref b, jI a] n M (fun vv n' M' => (vv = some (jI (bz (g 4 = 3 ∧ g 2 < g 1 ∧ bs (g 2).toNat = a))) ∧ n = n' ∧ M = M') ∧ (0) ≤ (bz (g 4 = 3 ∧ g 2 < g 1 ∧ bs (g 2).toNat = a)) ∧ (bz (g 4 = 3 ∧ g 2 < g 1 ∧ bs (g 2).toNat = a)) ≤ 1) := by
  refine Ct_of [some (.ref b), some (jI a)] (by decide) (Nat.le_of_ble_eq_true rfl) rfl (fun κ hl h hR hRt hmn hn0 => ?_)
  have h : Ok κ RX6 cX6_isSign 2 (some .boolean) := h
  obtain ⟨hnb, hOb, hYb, hNb, hSb, hKb⟩ := id hTk
  obtain ⟨o1, o2, o3, o4, o7, o12, ow, oh⟩ := id hTO
  have bb := hby (g 2).toNat
  refine jr_aload_n (pc := 0) h dX6_isSign_0 rfl ?_
  refine gf_X6_51 (pc := 1) h dX6_isSign_1 (by assumption) (by omega) ?_
  refine jr_iconst (pc := 4) h dX6_isSign_4 ?_
  refine jr_icmp_ne (pc := 5) h 36 dX6_isSign_5 (by decide) (by omega) (by omega) (fun c_5 => ?_) (fun c_5 => ?_)
  · skip
    refine jr_iconst (pc := 36) h dX6_isSign_36 ?_
    refine jr_iret (pc := 37) h hRt dX6_isSign_37 rfl (Nat.le_of_ble_eq_true rfl) (Nat.le_of_ble_eq_true rfl) ?_
    refine ⟨⟨ji_c ?_, rfl, rfl⟩, ?_⟩ <;> (unfold bz; split <;> omega)
  · skip
    refine jr_aload_n (pc := 8) h dX6_isSign_8 rfl ?_
    refine gf_X6_54 (pc := 9) h dX6_isSign_9 (by assumption) (by omega) ?_
    refine jr_aload_n (pc := 12) h dX6_isSign_12 rfl ?_
    refine gf_X6_32 (pc := 13) h dX6_isSign_13 (by assumption) (by omega) ?_
    refine jr_icmp_ge (pc := 16) h 36 dX6_isSign_16 (by decide) (by omega) (by omega) (fun c_16 => ?_) (fun c_16 => ?_)
    · skip
      refine jr_iconst (pc := 36) h dX6_isSign_36 ?_
      refine jr_iret (pc := 37) h hRt dX6_isSign_37 rfl (Nat.le_of_ble_eq_true rfl) (Nat.le_of_ble_eq_true rfl) ?_
      refine ⟨⟨ji_c ?_, rfl, rfl⟩, ?_⟩ <;> (unfold bz; split <;> omega)
    · skip
      refine jr_aload_n (pc := 19) h dX6_isSign_19 rfl ?_
      refine gf_X6_9 (pc := 20) h dX6_isSign_20 (by assumption) (by omega) ?_
      refine jr_aload_n (pc := 23) h dX6_isSign_23 rfl ?_
      refine gf_X6_54 (pc := 24) h dX6_isSign_24 (by assumption) (by omega) ?_
      refine jr_bald (pc := 27) h dX6_isSign_27 (by assumption) (by omega) (by omega) ?_
      refine jr_iload_n (pc := 28) h dX6_isSign_28 rfl ?_
      refine jr_icmp_ne (pc := 29) h 36 dX6_isSign_29 (by decide) (by omega) (by omega) (fun c_29 => ?_) (fun c_29 => ?_)
      · skip
        refine jr_iconst (pc := 36) h dX6_isSign_36 ?_
        refine jr_iret (pc := 37) h hRt dX6_isSign_37 rfl (Nat.le_of_ble_eq_true rfl) (Nat.le_of_ble_eq_true rfl) ?_
        refine ⟨⟨ji_c ?_, rfl, rfl⟩, ?_⟩ <;> (unfold bz; split <;> omega)
      · skip
        refine jr_iconst (pc := 32) h dX6_isSign_32 ?_
        refine jr_goto (pc := 33) h 37 dX6_isSign_33 (by decide) ?_
        refine jr_iret (pc := 37) h hRt dX6_isSign_37 rfl (Nat.le_of_ble_eq_true rfl) (Nat.le_of_ble_eq_true rfl) ?_
        refine ⟨⟨ji_c ?_, rfl, rfl⟩, ?_⟩ <;> (unfold bz; split <;> omega)
set_option maxHeartbeats 2000000 in
set_option maxRecDepth 20000 in
theorem s_X6_findName {l : Launch} {n : Nat} {M : jdM} {b : Nat} {g : Nat → Int} {w : Int} {bs nm ns nn : Nat → Int} (hTk : Tok M n b g w bs nm ns nn) (hTO : TkO g) (hnm : ∀ i, -9223372036854775808 ≤ nm i ∧ nm i < 9223372036854775808) (hw : -9223372036854775808 ≤ w ∧ w < 9223372036854775808) : Ct l yX6_findName cX6_findName 2 (some .int) rX6_findName [.ref b] n M (fun vv n' M' => (vv = some (jI (fnI nm w (g 12))) ∧ n = n' ∧ M = M') ∧ (-1) ≤ (fnI nm w (g 12)) ∧ (fnI nm w (g 12)) ≤ 15) := by
  refine Ct_of [some (.ref b), none] (by decide) (Nat.le_of_ble_eq_true rfl) rfl (fun κ hl h hR hRt hmn hn0 => ?_)
  have h : Ok κ RX6 cX6_findName 2 (some .int) := h
  obtain ⟨hnb, hOb, hYb, hNb, hSb, hKb⟩ := id hTk
  obtain ⟨o1, o2, o3, o4, o7, o12, ow, oh⟩ := id hTO
  have fb := fnR_b (nm := nm) (w := w) (g 12).toNat 0
  have loop : ∀ (dq : Nat) (i : Int), (0 ≤ i ∧ i ≤ g 12) → (fnR nm w i.toNat (g 12 - i).toNat = fnI nm w (g 12)) → (17 - i).toNat < dq → J κ 2 0 0 n 2 [some (.ref b), some (jI i)] [] M := by
    intro dq
    induction dq with
    | zero => intro i hi hr hd; omega
    | succ dq ih =>
      intro i hi hr hd
      refine jr_iload_n (pc := 2) h dX6_findName_2 rfl ?_
      refine jr_aload_n (pc := 3) h dX6_findName_3 rfl ?_
      refine gf_X6_45 (pc := 4) h dX6_findName_4 (by assumption) (by omega) ?_
      refine jr_icmp_ge (pc := 7) h 38 dX6_findName_7 (by decide) (by omega) (by omega) (fun c_7 => ?_) (fun c_7 => ?_)
      · skip
        refine jr_iconst (pc := 38) h dX6_findName_38 ?_
        refine jr_iret (pc := 39) h hRt dX6_findName_39 rfl (Nat.le_of_ble_eq_true rfl) (Nat.le_of_ble_eq_true rfl) ?_
        rw [show (g 12 - i).toNat = 0 by omega, fnR] at hr
        refine ⟨⟨ji_c ?_, rfl, rfl⟩, ?_⟩ <;> omega
      · skip
        refine jr_iload_n (pc := 10) h dX6_findName_10 rfl ?_
        refine jr_bipush (pc := 11) h dX6_findName_11 bp_16 ?_
        refine jr_icmp_ge (pc := 13) h 38 dX6_findName_13 (by decide) (by omega) (by omega) (fun c_13 => ?_) (fun c_13 => ?_)
        · skip
          refine jr_iconst (pc := 38) h dX6_findName_38 ?_
          refine jr_iret (pc := 39) h hRt dX6_findName_39 rfl (Nat.le_of_ble_eq_true rfl) (Nat.le_of_ble_eq_true rfl) ?_
          rw [show (g 12 - i).toNat = 0 by omega, fnR] at hr
          refine ⟨⟨ji_c ?_, rfl, rfl⟩, ?_⟩ <;> omega
        · skip
          refine jr_aload_n (pc := 16) h dX6_findName_16 rfl ?_
          refine gf_X6_15 (pc := 17) h dX6_findName_17 (by assumption) (by omega) ?_
          refine jr_iload_n (pc := 20) h dX6_findName_20 rfl ?_
          refine jr_lald (pc := 21) h dX6_findName_21 (by assumption) (by omega) (by omega) ?_
          refine jr_aload_n (pc := 22) h dX6_findName_22 rfl ?_
          refine gf_X6_57 (pc := 23) h dX6_findName_23 (by assumption) (by omega) ?_
          refine jr_lcmp (pc := 26) h dX6_findName_26 (hnm _) hw ?_
          have lz := lcz_s (nm i.toNat) w
          refine jr_if_ne (pc := 27) h 32 dX6_findName_27 (by decide) (by omega) (fun c_27 => ?_) (fun c_27 => ?_)
          · skip
            refine jr_iinc (pc := 32) h [_, _] dX6_findName_32 (by decide) rfl rfl ?_
            refine jr_goto (pc := 35) h 2 dX6_findName_35 (by decide) ?_
            refine ih _ (by omega) ?_ (by omega)
            rw [show (g 12 - i).toNat = (g 12 - (i + 1)).toNat + 1 by omega, fnR, if_neg (by omega)] at hr
            rw [show (i + 1).toNat = i.toNat + 1 by omega]; exact hr
          · skip
            refine jr_iload_n (pc := 30) h dX6_findName_30 rfl ?_
            refine jr_iret (pc := 31) h hRt dX6_findName_31 rfl (Nat.le_of_ble_eq_true rfl) (Nat.le_of_ble_eq_true rfl) ?_
            rw [show (g 12 - i).toNat = (g 12 - (i + 1)).toNat + 1 by omega, fnR, if_pos (by omega)] at hr
            refine ⟨⟨ji_c ?_, rfl, rfl⟩, ?_⟩ <;> omega
  refine jr_iconst (pc := 0) h dX6_findName_0 ?_
  refine jr_istore_n (pc := 1) h [_, _] dX6_findName_1 (by decide) rfl ?_
  exact loop _ _ (by omega) (by rw [Int.sub_zero]; rfl) (Nat.lt_succ_self _)
