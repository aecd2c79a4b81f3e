/-! 98: the reference: blocks told -/
def bitI (m k : Int) : Int := m / 2 ^ k.toNat % 2
theorem bit_d : ∀ m : Nat, m < 16 → ∀ a : Nat, a < 4 → ((m : Int) / 2 ^ a % 2 = 0) → ((m : Int) + 2 ^ a < 16) ∧ ∀ k : Nat, k < 4 → ((m : Int) + 2 ^ a) / 2 ^ k % 2 = if k = a then 1 else (m : Int) / 2 ^ k % 2 := by decide +kernel
theorem bit_s : ∀ m : Nat, m < 16 → ∀ k : Nat, k < 7 → ((Int32.ofInt m >>> (Int32.ofInt k &&& 31)) &&& Int32.ofInt 1) = Int32.ofInt ((m : Int) / 2 ^ k % 2) := by decide +kernel
theorem bit_o : ∀ m : Nat, m < 16 → ∀ k : Nat, k < 4 → ((m : Int) / 2 ^ k % 2 = 0) → Int32.ofInt m ||| (Int32.ofInt 1 <<< (Int32.ofInt k &&& 31)) = Int32.ofInt ((m : Int) + 2 ^ k) := by decide +kernel
theorem bitI_b {m k : Int} : 0 ≤ bitI m k ∧ bitI m k ≤ 1 := by unfold bitI; omega
theorem bit_sI {m k : Int} (hm : 0 ≤ m ∧ m < 16) (hk : 0 ≤ k ∧ k < 7) : ((Int32.ofInt m >>> (Int32.ofInt k &&& 31)) &&& Int32.ofInt 1) = Int32.ofInt (bitI m k) := by
  have h := bit_s m.toNat (by omega) k.toNat (by omega)
  rw [show ((m.toNat : Nat) : Int) = m by omega, show ((k.toNat : Nat) : Int) = k by omega] at h
  exact h
theorem bit_oI {m k : Int} (hm : 0 ≤ m ∧ m < 16) (hk : 0 ≤ k ∧ k < 4) (h0 : bitI m k ≠ 1) : Int32.ofInt m ||| (Int32.ofInt 1 <<< (Int32.ofInt k &&& 31)) = Int32.ofInt (m + 2 ^ k.toNat) := by
  have hb := bitI_b (m := m) (k := k)
  have hz : bitI m k = 0 := by omega
  unfold bitI at hz
  have h := bit_o m.toNat (by omega) k.toNat (by omega) (by rw [show ((m.toNat : Nat) : Int) = m by omega]; exact hz)
  rw [show ((m.toNat : Nat) : Int) = m by omega, show ((k.toNat : Nat) : Int) = k by omega] at h
  exact h
/-- kinds liked so far, as bits -/
def MK (ct td : Nat → Int) (m : Int) : Prop := (0 ≤ m ∧ m < 16) ∧ ∀ k : Int, 0 ≤ k → k < 4 → (bitI m k = 1 ↔ ∃ i : Int, 0 ≤ i ∧ i < c_get td 7 (ct 7) 3 ∧ c_get td 7 (ct 7) (4 + 2 * i) = k)
theorem alT_g {ct td : Nat → Int} {a x : Int} (hc : 0 ≤ ct 7 ∧ ct 7 < 8) (hm3 : 0 ≤ c_get td 7 (ct 7) 3 ∧ c_get td 7 (ct 7) 3 ≤ 3) : ∀ z : Int, 0 ≤ z ∧ z < 12 → c_get (alT ct td a x) 7 (ct 7) z = if z = 3 then c_get td 7 (ct 7) 3 + 1 else if z = 4 + 2 * c_get td 7 (ct 7) 3 + 1 then x else if z = 4 + 2 * c_get td 7 (ct 7) 3 then a else c_get td 7 (ct 7) z := by
  intro z hz
  unfold alT
  rw [cg_up hc (by omega) hz, cg_up hc (by omega) hz, cg_up hc (by omega) hz]
theorem alT_O {ct td0 td : Nat → Int} {a x : Int} (h : OUT ct 7 td0 td) (hc : 0 ≤ ct 7) (hm3 : 0 ≤ c_get td 7 (ct 7) 3 ∧ c_get td 7 (ct 7) 3 ≤ 3) : OUT ct 7 td0 (alT ct td a x) := by
  unfold alT
  exact OUT_up (OUT_up (OUT_up h (by omega) hc (by omega)) (by omega) hc (by omega)) (by omega) hc (by omega)
theorem alT_r {ct td : Nat → Int} {a x : Int} (h : ∀ j, 0 ≤ td j ∧ td j ≤ 999) (ha : 0 ≤ a ∧ a ≤ 999) (hx : 0 ≤ x ∧ x ≤ 999) (hm3 : 0 ≤ c_get td 7 (ct 7) 3 ∧ c_get td 7 (ct 7) 3 ≤ 3) : ∀ j, 0 ≤ alT ct td a x j ∧ alT ct td a x j ≤ 999 := by
  unfold alT
  exact rn_up (rn_up (rn_up h ha) hx) (by omega)
theorem MK_al {ct td : Nat → Int} {m a x : Int} (h : MK ct td m) (hc : 0 ≤ ct 7 ∧ ct 7 < 8) (hm3 : 0 ≤ c_get td 7 (ct 7) 3 ∧ c_get td 7 (ct 7) 3 ≤ 3) (ha : 0 ≤ a ∧ a < 4) (hb : bitI m a ≠ 1) : MK ct (alT ct td a x) (m + 2 ^ a.toNat) := by
  obtain ⟨hm, hk⟩ := h
  have hb0 := bitI_b (m := m) (k := a)
  have hz : bitI m a = 0 := by omega
  unfold bitI at hz
  have hd := bit_d m.toNat (by omega) a.toNat (by omega) (by rw [show ((m.toNat : Nat) : Int) = m by omega]; exact hz)
  rw [show ((m.toNat : Nat) : Int) = m by omega] at hd
  have hp : 0 ≤ (2 : Int) ^ a.toNat := Int.pow_nonneg (by omega)
  refine ⟨⟨by omega, hd.1⟩, fun k h1 h2 => ?_⟩
  have hdk := hd.2 k.toNat (by omega)
  have hg := alT_g (ct := ct) (td := td) (a := a) (x := x) hc hm3
  unfold bitI
  rw [hdk, hg 3 (by omega), if_pos rfl]
  have hkk := hk k h1 h2
  unfold bitI at hkk
  by_cases q : k = a
  · rw [if_pos (by omega)]
    refine ⟨fun _ => ⟨c_get td 7 (ct 7) 3, hm3.1, by omega, ?_⟩, fun _ => rfl⟩
    rw [hg _ (by omega), if_neg (by omega), if_neg (by omega), if_pos rfl, q]
  · rw [if_neg (by omega), hkk]
    constructor
    · rintro ⟨i, i1, i2, i3⟩
      refine ⟨i, i1, by omega, ?_⟩
      rw [hg _ (by omega), if_neg (by omega), if_neg (by omega), if_neg (by omega), i3]
    · rintro ⟨i, i1, i2, i3⟩
      rw [hg _ (by omega), if_neg (by omega), if_neg (by omega)] at i3
      by_cases q2 : i = c_get td 7 (ct 7) 3
      · rw [if_pos (by omega)] at i3; omega
      · rw [if_neg (by omega)] at i3
        exact ⟨i, i1, by omega, i3⟩
/-- the open block's likings -/
def BKI (ct td : Nat → Int) : Prop := LKI ct td ∧ (∀ j : Int, 0 ≤ j → j < c_get td 7 (ct 7) 3 → c_get td 7 (ct 7) (4 + 2 * j) < ct 2 ∧ c_get td 7 (ct 7) (4 + 2 * j + 1) ≤ 9) ∧ ∀ j : Int, c_get td 7 (ct 7) 3 ≤ j → j < 4 → c_get td 7 (ct 7) (4 + 2 * j) = 0 ∧ c_get td 7 (ct 7) (4 + 2 * j + 1) = 0
theorem BKI_al {ct td : Nat → Int} {a x : Int} (h : BKI ct td) (hc : 0 ≤ ct 7 ∧ ct 7 < 8) (hm3 : c_get td 7 (ct 7) 3 ≤ 3) (ha : 0 ≤ a ∧ a < ct 2) (h2 : ct 2 ≤ 4) (hx : 1 ≤ x ∧ x ≤ 9) (hne : ∀ i : Int, 0 ≤ i → i < c_get td 7 (ct 7) 3 → c_get td 7 (ct 7) (4 + 2 * i) ≠ a) : BKI ct (alT ct td a x) := by
  obtain ⟨hL, hk, hz⟩ := h
  have h0 := hL.1
  have hg := alT_g (ct := ct) (td := td) (a := a) (x := x) hc ⟨h0.1, hm3⟩
  refine ⟨LKI_al hL hc hm3 (by omega) hx.1 hne, fun j h1 h3 => ?_, fun j h1 h3 => ?_⟩
  · rw [hg 3 (by omega), if_pos rfl] at h3
    rw [hg _ (by omega), hg _ (by omega)]
    by_cases q : j = c_get td 7 (ct 7) 3
    · rw [if_neg (by omega), if_neg (by omega), if_pos (by omega), if_neg (by omega), if_pos (by omega)]
      omega
    · rw [if_neg (by omega), if_neg (by omega), if_neg (by omega), if_neg (by omega), if_neg (by omega), if_neg (by omega)]
      exact hk j h1 (by omega)
  · rw [hg 3 (by omega), if_pos rfl] at h1
    rw [hg _ (by omega), hg _ (by omega), if_neg (by omega), if_neg (by omega), if_neg (by omega), if_neg (by omega), if_neg (by omega), if_neg (by omega)]
    exact hz j (by omega) h3
theorem tlQ_k {bs ct td : Nat → Int} {p : TS} (h : (tlQ bs ct td p).1 7 = 0) : (snP bs 2 p).2.1 7 = 0 ∧ ¬ 0 < c_win td (ct 7) (snP bs 2 p).1 ∧ tlQ bs ct td p = (snP bs 2 p).2 := by
  unfold tlQ at h ⊢
  by_cases q : (snP bs 2 p).2.1 7 = 0 ∧ 0 < c_win td (ct 7) (snP bs 2 p).1
  · rw [if_pos q] at h
    exact absurd h (flP_x (by omega))
  · rw [if_neg q] at h ⊢
    exact ⟨h, fun q2 => q ⟨h, q2⟩, rfl⟩
theorem tlP_1 {bs ct td : Nat → Int} {p : TS} : (tlP bs ct td p).1 = (ehP bs 1 9 (goP bs (tlQ bs ct td p))).2 := by
  unfold tlP goP
  by_cases q : (tlQ bs ct td p).1 7 = 0
  · rw [if_pos q, if_pos q]
  · rw [if_neg q, if_neg q, xP_f_eh q]
theorem tlP_2 {bs ct td : Nat → Int} {p : TS} (q : (tlQ bs ct td p).1 7 = 0) : (tlP bs ct td p).2 = alT ct td (snP bs 2 p).1 (ehP bs 1 9 (goP bs (tlQ bs ct td p))).1 := by
  unfold tlP
  rw [if_pos q, goP_0 q]
theorem tlP_f {bs ct td : Nat → Int} {p : TS} (h : p.1 7 ≠ 0) : tlP bs ct td p = (p, td) := by
  have hs : (snP bs 2 p).2 = p := xP_f_sn h
  have hq : tlQ bs ct td p = p := by
    unfold tlQ
    rw [hs, if_neg (fun q => h q.1)]
  unfold tlP
  rw [hq, if_neg h]
theorem blR_f {bs ct td : Nat → Int} {p : TS} (h : p.1 7 ≠ 0) : ∀ k : Nat, blR bs ct k p td = (p, td)
  | 0 => rfl
  | k + 1 => by rw [blR, if_neg (fun q => h q.1)]
theorem blR_no {bs ct td : Nat → Int} {p : TS} (h : ¬ sgIs bs 44 p) : ∀ k : Nat, blR bs ct k p td = (p, td)
  | 0 => rfl
  | k + 1 => by rw [blR]; exact if_neg h
theorem blR_s {bs ct td : Nat → Int} {p : TS} (h : sgIs bs 44 p) (k : Nat) : blR bs ct (k + 1) p td = blR bs ct k (tlP bs ct td (nxP bs p)).1 (tlP bs ct td (nxP bs p)).2 := by
  rw [blR]; exact if_pos h
/-- the new block, whole -/
theorem LI_7 {ct td : Nat → Int} (h : BKI ct td) (h0 : 1 ≤ c_get td 7 (ct 7) 0) (h1 : c_get td 7 (ct 7) 0 ≤ c_get td 7 (ct 7) 1) (h2 : c_get td 7 (ct 7) 1 ≤ 40) (h3 : 1 ≤ c_get td 7 (ct 7) 2 ∧ c_get td 7 (ct 7) 2 ≤ 9) (h4 : 1 ≤ c_get td 7 (ct 7) 3) : LI (ct 2) (ct 5) td (7 : Nat) (ct 7) := by
  obtain ⟨⟨l1, l2, l3⟩, hk, hz⟩ := h
  refine ⟨fun q => ?_, fun q => ?_, fun q => ?_, fun q => ?_, fun q => ?_, fun q => ?_, fun q => ?_, fun _ => ?_, fun q => ?_, fun q => ?_, fun q => ?_, fun q => ?_, fun q => ?_⟩
  · exfalso; omega
  · exfalso; omega
  · exfalso; omega
  · exfalso; omega
  · exfalso; omega
  · exfalso; omega
  · exfalso; omega
  · exact ⟨h0, h1, h2, h3.1, h3.2, h4, l1.2, fun j a b => ⟨(hk j a b).1, (l2 j a b).2.2, (hk j a b).2⟩, hz, l3⟩
  · exfalso; omega
  · exfalso; omega
  · exfalso; omega
  · exfalso; omega
  · exfalso; omega
