/-! 66: a run begun anew and gone back to, in numbers -/
theorem ld_z {ct td bk si ld : Nat → Int} (hF : FI ct td) (hS : SET ct td bk si ld) (t k : Nat) (ht : t < 2) (hk : k < 4) (hc : ct 2 ≤ k ∨ ct 5 ≤ t) : ld (4 * t + k) = 0 := by
  rw [hS.2 _ (by omega)]
  have key : ∀ n : Nat, (n : Int) ≤ ct 6 → sumZ (fun i => if c_get td 6 i 0 * 4 + c_get td 6 i 1 = ((4 * t + k : Nat) : Int) then c_get td 6 i 2 else 0) n = 0 := by
    intro n
    induction n with
    | zero => intro _; rfl
    | succ n ih =>
      intro hn
      have h9 := (hF.2.1 6 n (by omega) (by omega) (by omega)).2.2.2.2.2.2.1 rfl
      have g0 := c_getr hF.2.2.2 6 n 0
      have g1 := c_getr hF.2.2.2 6 n 1
      have l2 := (hF.1 2 (by omega)).2
      rw [show (jtab 0).2.2 2 = 4 from rfl] at l2
      rw [sumZ, ih (by omega), if_neg (by omega)]
      rfl
  have l6 := hF.1 6 (by omega)
  exact key _ (by omega)
theorem rs_fa {ct td ld : Nat → Int} {z : Int} {R : FS} (h : RI ct td R) (j : Nat) : (rsR ct td ld z R).2.2.2.1 j = 0 := by
  show (if j < 451 then (0 : Int) else R.2.2.2.1 j) = 0
  split
  · rfl
  · exact h.2.2.2.2.2.2.2.2 j (by omega)
theorem RI2_rs {ct td bk si ld : Nat → Int} {z : Int} {R : FS} (h : RI ct td R) (hF : FI ct td) (hS : SET ct td bk si ld) : RI2 ct td (rsR ct td ld z R) := by
  have hf := fun j => rs_fa (ld := ld) (z := z) h j
  have e4 : (rsR ct td ld z R).1 4 = 1 := by
    show up (up (up (up R.1 4 1) 5 (c_rows ct td)) 6 0) 7 z 4 = 1
    rw [up_ne (by omega), up_ne (by omega), up_ne (by omega), up_eq]
  have e5 : (rsR ct td ld z R).1 5 = c_rows ct td := by
    show up (up (up (up R.1 4 1) 5 (c_rows ct td)) 6 0) 7 z 5 = c_rows ct td
    rw [up_ne (by omega), up_ne (by omega), up_eq]
  have l5 := (hF.1 5 (by omega)).2
  rw [show (jtab 0).2.2 5 = 2 from rfl] at l5
  have hs : ∀ t : Nat, t < 2 → (rsR ct td ld z R).2.1 t = 0 := fun t ht => if_pos ht
  refine ⟨fun t k ht hk hc => ?_, fun r h1 h3 => ?_, fun r h1 h3 => ?_, fun r => ?_, fun r o h1 h3 => hf _, fun r k hk hc => hf _, fun r h1 h3 => ?_, fun r h1 h3 => ?_, fun r h1 h3 => ?_, fun t ht => ?_⟩
  · show (if 4 * t + k < 8 then ld (4 * t + k) else R.2.2.1 (4 * t + k)) = 0
    rw [if_pos (by omega)]
    exact ld_z hF hS t k ht hk (Or.inl hc)
  · rw [e4] at h3; omega
  · rw [e5] at h1; omega
  · rw [hf, hf, hf, hf, hf]; rfl
  · rw [hf, hf]; omega
  · rw [hf, hf]; omega
  · rw [hf, hf]; omega
  · rw [hs t (by omega), hf, hf]
    exact ⟨fun _ _ => rfl, fun _ _ => rfl, fun _ _ => rfl, fun _ _ => rfl⟩
theorem cp_fa {ct td : Nat → Int} {R Q : FS} (h : RI ct td R) (hQ : RI ct td Q) (j : Nat) : (cpR R Q).2.2.2.1 j = Q.2.2.2.1 j := by
  show (if j < 451 then Q.2.2.2.1 j else R.2.2.2.1 j) = Q.2.2.2.1 j
  split
  · rfl
  · rw [h.2.2.2.2.2.2.2.2 j (by omega), hQ.2.2.2.2.2.2.2.2 j (by omega)]
theorem cp_sp {ct td : Nat → Int} {R Q : FS} (h : RI ct td R) (hQ : RI ct td Q) (j : Nat) : (cpR R Q).2.1 j = Q.2.1 j := by
  show (if j < 2 then Q.2.1 j else R.2.1 j) = Q.2.1 j
  split
  · rfl
  · rw [h.2.2.2.2.2.2.2.1 j (by omega), hQ.2.2.2.2.2.2.2.1 j (by omega)]
theorem cp_g {R Q : FS} : (cpR R Q).1 4 = Q.1 4 ∧ (cpR R Q).1 5 = Q.1 5 ∧ (cpR R Q).1 6 = Q.1 6 ∧ (cpR R Q).1 7 = Q.1 7 := by
  refine ⟨?_, ?_, ?_, ?_⟩
  · show up (up (up (up R.1 4 (Q.1 4)) 5 (Q.1 5)) 6 (Q.1 6)) 7 (Q.1 7) 4 = _
    rw [up_ne (by omega), up_ne (by omega), up_ne (by omega), up_eq]
  · show up (up (up (up R.1 4 (Q.1 4)) 5 (Q.1 5)) 6 (Q.1 6)) 7 (Q.1 7) 5 = _
    rw [up_ne (by omega), up_ne (by omega), up_eq]
  · show up (up (up (up R.1 4 (Q.1 4)) 5 (Q.1 5)) 6 (Q.1 6)) 7 (Q.1 7) 6 = _
    rw [up_ne (by omega), up_eq]
  · show up (up (up (up R.1 4 (Q.1 4)) 5 (Q.1 5)) 6 (Q.1 6)) 7 (Q.1 7) 7 = _
    rw [up_eq]
theorem RI2_cp {ct td : Nat → Int} {R Q : FS} (h : RI ct td R) (hQ : RI ct td Q) (h2 : RI2 ct td Q) : RI2 ct td (cpR R Q) := by
  have hf := fun j => cp_fa h hQ j
  have hs := fun j => cp_sp h hQ j
  obtain ⟨e4, e5, -, -⟩ := cp_g (R := R) (Q := Q)
  obtain ⟨j1, j2, j3, j4, j5, j6, j7, j8, j9, j10⟩ := h2
  refine ⟨fun t k ht hk hc => ?_, fun r h1 h3 => ?_, fun r h1 h3 => ?_, fun r => ?_, fun r o h1 h3 => ?_, fun r k hk hc => ?_, fun r h1 h3 => ?_, fun r h1 h3 => ?_, fun r h1 h3 => ?_, fun t ht => ?_⟩
  · show (if 4 * t + k < 8 then Q.2.2.1 (4 * t + k) else R.2.2.1 (4 * t + k)) = 0
    rw [if_pos (by omega)]
    exact j1 t k ht hk hc
  · rw [e4] at h3; rw [hf]; exact j2 r h1 h3
  · rw [e5] at h1; rw [hf]; exact j3 r h1 h3
  · rw [hf, hf, hf, hf, hf]; exact j4 r
  · rw [hf]; exact j5 r o h1 h3
  · rw [hf]; exact j6 r k hk hc
  · rw [e4, e5] at h3; rw [hf, hf]; exact j7 r h1 h3
  · rw [e4] at h3; rw [hf, hf]; exact j8 r h1 h3
  · rw [e5] at h1; rw [hf, hf]; exact j9 r h1 h3
  · rw [hs, hf, hf, e4, e5]; exact j10 t ht
/-- the reference's run array, begun anew -/
def bR (ld : Nat → Int) (z : Int) : Nat → Int := fun j => if j < 410 ∧ j % 10 = 0 then -1 else if 414 ≤ j ∧ j < 422 then ld (j - 414) else if j = 429 then z else 0
theorem RRel_rs {ct td ld b : Nat → Int} {z : Int} {R : FS} (h : RI ct td R) (hr : c_rows ct td ≤ 40) (h5 : ct 5 ≤ 2) (hb : ∀ j, j < 431 → b j = bR ld z j) : RRel ct td (rsR ct td ld z R) b := by
  have hf := fun j => rs_fa (ld := ld) (z := z) h j
  have e4 : (rsR ct td ld z R).1 4 = 1 := by
    show up (up (up (up R.1 4 1) 5 (c_rows ct td)) 6 0) 7 z 4 = 1
    rw [up_ne (by omega), up_ne (by omega), up_ne (by omega), up_eq]
  have e5 : (rsR ct td ld z R).1 5 = c_rows ct td := by
    show up (up (up (up R.1 4 1) 5 (c_rows ct td)) 6 0) 7 z 5 = c_rows ct td
    rw [up_ne (by omega), up_ne (by omega), up_eq]
  have e6 : (rsR ct td ld z R).1 6 = 0 := by
    show up (up (up (up R.1 4 1) 5 (c_rows ct td)) 6 0) 7 z 6 = 0
    rw [up_ne (by omega), up_eq]
  have e7 : (rsR ct td ld z R).1 7 = z := by
    show up (up (up (up R.1 4 1) 5 (c_rows ct td)) 6 0) 7 z 7 = z
    exact up_eq
  have z0 : ∀ j, j < 431 → ¬ (j < 410 ∧ j % 10 = 0) → ¬ (414 ≤ j ∧ j < 422) → j ≠ 429 → b j = 0 := fun j h1 h2 h3 h4 => by
    rw [hb j h1]
    unfold bR
    rw [if_neg h2, if_neg h3, if_neg h4]
  refine ⟨fun r h1 h2 => ⟨fun h3 => ?_, fun h3 => ?_, ?_, ?_, ?_, fun k hk => ?_⟩, fun t ht => ?_, fun t ht => ?_, fun j hj => ?_, ?_, fun i hi => ?_, ?_, ?_⟩
  · rw [e4, e5] at h3; omega
  · rw [hb _ (by omega)]
    unfold bR
    rw [if_pos (by omega)]
  · rw [hf, z0 _ (by omega) (by omega) (by omega) (by omega)]
  · rw [hf, z0 _ (by omega) (by omega) (by omega) (by omega)]
  · rw [hf, z0 _ (by omega) (by omega) (by omega) (by omega)]
  · rw [hf, z0 _ (by omega) (by omega) (by omega) (by omega)]
  · rw [z0 _ (by omega) (by omega) (by omega) (by omega)]
    exact (if_pos ht).symm
  · rw [e4, e5, z0 _ (by omega) (by omega) (by omega) (by omega)]
    split <;> omega
  · rw [hb _ (by omega)]
    unfold bR
    rw [if_neg (by omega), if_pos (by omega), show 414 + j - 414 = j by omega]
    exact (if_pos hj).symm
  · rw [e6, z0 _ (by omega) (by omega) (by omega) (by omega)]
  · rw [z0 _ (by omega) (by omega) (by omega) (by omega)]
    exact (if_pos hi).symm
  · rw [e7, hb _ (by omega)]
    unfold bR
    rw [if_neg (by omega), if_neg (by omega), if_pos rfl]
  · rw [e4, e5, z0 _ (by omega) (by omega) (by omega) (by omega)]
    omega
theorem RRel_cp {ct td b : Nat → Int} {R Q : FS} (h : RI ct td R) (hQ : RI ct td Q) (h2 : RRel ct td Q b) : RRel ct td (cpR R Q) b := by
  have hf := fun j => cp_fa h hQ j
  have hs := fun j => cp_sp h hQ j
  obtain ⟨e4, e5, e6, e7⟩ := cp_g (R := R) (Q := Q)
  obtain ⟨h1, h2, h3, h4, h422, h6, h429, h430⟩ := h2
  refine ⟨fun r a1 a2 => ?_, fun t ht => ?_, fun t ht => ?_, fun j hj => ?_, ?_, fun i hi => ?_, ?_, ?_⟩
  · rw [e4, e5, hf, hf, hf, hf, hf, hf]
    obtain ⟨p1, p2, p3, p4, p5, p6⟩ := h1 r a1 a2
    exact ⟨p1, p2, p3, p4, p5, fun k hk => by rw [hf]; exact p6 k hk⟩
  · rw [hs]; exact h2 t ht
  · rw [e4, e5]; exact h3 t ht
  · exact (h4 j hj).trans (if_pos hj).symm
  · rw [e6]; exact h422
  · exact (h6 i hi).trans (if_pos hi).symm
  · rw [e7]; exact h429
  · rw [e4, e5]; exact h430
theorem RRel_b {ct td b b' : Nat → Int} {R : FS} (h : RRel ct td R b) (hr : c_rows ct td ≤ 40) (h5 : ct 5 ≤ 2) (hb : ∀ j, j < 431 → b' j = b j) : RRel ct td R b' := by
  obtain ⟨h1, h2, h3, h4, h422, h6, h429, h430⟩ := h
  refine ⟨fun r a1 a2 => ?_, fun t ht => ?_, fun t ht => ?_, fun j hj => ?_, ?_, fun i hi => ?_, ?_, ?_⟩
  · obtain ⟨p1, p2, p3, p4, p5, p6⟩ := h1 r a1 a2
    rw [hb _ (by omega), hb _ (by omega), hb _ (by omega), hb _ (by omega), hb _ (by omega), hb _ (by omega)]
    exact ⟨p1, p2, p3, p4, p5, fun k hk => by rw [hb _ (by omega)]; exact p6 k hk⟩
  · rw [hb _ (by omega)]; exact h2 t ht
  · rw [hb _ (by omega)]; exact h3 t ht
  · rw [hb _ (by omega)]; exact h4 j hj
  · rw [hb _ (by omega)]; exact h422
  · rw [hb _ (by omega)]; exact h6 i hi
  · rw [hb _ (by omega)]; exact h429
  · rw [hb _ (by omega)]; exact h430
