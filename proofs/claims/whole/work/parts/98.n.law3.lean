/-! 98.n: what the law's loop keeps -/
theorem SXc_fr {M M1 : jdM} {n n1 a cu dr : Nat} {σ : XS} {S : Nat → Prop} (h : SXc M n a cu dr σ) (h1 : fr S M M1) (hn : n ≤ n1) (hs : ∀ k, a ≤ k → k < a + 63 → ¬ S k) : SXc M1 n1 a cu dr σ := by
  obtain ⟨i0, i1, i2, i3, i4, i5, i6, i7, i8, ⟨dg, rm, wn, be, i9, i10, i11⟩, ⟨og, ww, i12⟩, ⟨fc, wf, i13⟩⟩ := h
  have hcu : a + 7 ≤ cu ∧ cu + 5 < a + 63 := by omega
  have hdr : a + 7 ≤ dr ∧ dr + 5 < a + 63 := by omega
  refine ⟨by omega, i1, by rw [h1 _ (hs _ (by omega) (by omega))]; exact i2, Te_fr i3 h1 hn (fun k p q => hs k (by omega) (by omega)) (hs _ (by omega) (by omega)), Fl_fr i4 h1 hn (fun k p q => hs k (by omega) (by omega)), Fl_fr i5 h1 hn (fun k p q => hs k (by omega) (by omega)), Rn_fr i6 h1 hn (fun k p q => hs k (by omega) (by omega)), by rw [h1 _ (hs _ (by omega) (by omega))]; exact i7, fun i hi => Rn_fr (i8 i hi) h1 hn (fun k p q => hs k (by omega) (by omega)), ⟨dg, rm, wn, be, Dr_fr i9 h1 hn (fun k p q => hs k (by omega) (by omega)), i10, i11⟩, ⟨og, ww, Od_fr i12 h1 hn (fun k p q => hs k (by omega) (by omega))⟩, ⟨fc, wf, Ti_fr i13 h1 hn (fun k p q => hs k (by omega) (by omega))⟩⟩
theorem FX_frS {M M1 : jdM} {n n1 m : Nat} {fl : Value} {ct td bk si ld : Nat → Int} {S : Nat → Prop} (h : FX M n m fl ct td bk si ld) (h1 : fr S M M1) (hn : n ≤ n1) (hs : ∀ f : Nat, fl = .ref f → ∀ k, f ≤ k → k ≤ f + 30 → ¬ S k) : FX M1 n1 m fl ct td bk si ld := by
  rcases h with h | ⟨f, gf, A, e, hsep, hMF, hFM⟩
  · exact Or.inl h
  · refine Or.inr ⟨f, gf, A, e, hsep, ⟨Nat.le_trans hMF.1 hn, ?_, fun i a b => ?_⟩, hFM⟩
    · rw [h1 f (hs f e f (by omega) (by omega))]; exact hMF.2.1
    · rw [h1 (f + i) (hs f e (f + i) (by omega) (by omega))]; exact hMF.2.2 i a b
/-- runs: what is overwritten doesn't count -/
theorem rsR_rsR {ct td ld ld' : Nat → Int} {z z' : Int} {R : FS} : rsR ct td ld z (rsR ct td ld' z' R) = rsR ct td ld z R := by
  obtain ⟨g, sp, sk, fa, go⟩ := R
  unfold rsR
  dsimp only
  refine Prod.ext (funext fun j => ?_) (Prod.ext (funext fun j => ?_) (Prod.ext (funext fun j => ?_) (Prod.ext (funext fun j => ?_) (funext fun j => ?_))))
  · simp only [up]
    (repeat' split) <;> first | rfl | omega
  · dsimp only
    (repeat' split) <;> first | rfl | omega
  · dsimp only
    (repeat' split) <;> first | rfl | omega
  · dsimp only
    (repeat' split) <;> first | rfl | omega
  · dsimp only
    (repeat' split) <;> first | rfl | omega
theorem cpR_rsR {ct td ld' : Nat → Int} {z' : Int} {R Q : FS} : cpR (rsR ct td ld' z' R) Q = cpR R Q := by
  obtain ⟨g, sp, sk, fa, go⟩ := R
  unfold rsR cpR
  dsimp only
  refine Prod.ext (funext fun j => ?_) (Prod.ext (funext fun j => ?_) (Prod.ext (funext fun j => ?_) (Prod.ext (funext fun j => ?_) (funext fun j => ?_))))
  · simp only [up]
    (repeat' split) <;> first | rfl | omega
  · dsimp only
    (repeat' split) <;> first | rfl | omega
  · dsimp only
    (repeat' split) <;> first | rfl | omega
  · dsimp only
    (repeat' split) <;> first | rfl | omega
  · dsimp only
    (repeat' split) <;> first | rfl | omega
/-- a run that was once somebody's -/
def RO (R : FS) : Prop := ∃ ct' td' : Nat → Int, RI ct' td' R ∧ 0 ≤ c_rows ct' td' ∧ c_rows ct' td' ≤ 40
theorem RO_rs {ct td ld : Nat → Int} {z : Int} {R : FS} (h : RO R) (rE : ∀ j, 0 ≤ ld j ∧ ld j ≤ 9999) (hr : 0 ≤ c_rows ct td ∧ c_rows ct td ≤ 40) (hz : 0 ≤ z ∧ z ≤ 65536) : RI ct td (rsR ct td ld z R) := by
  obtain ⟨ct', td', h1, h2, h3⟩ := h
  exact RI_rs h1 rE hr.1 hr.2 ⟨h2, h3⟩ hz
theorem RO_rs2 {ct td bk si ld : Nat → Int} {z : Int} {R : FS} (h : RO R) (hr : 0 ≤ c_rows ct td ∧ c_rows ct td ≤ 40) (hF : FI ct td) (hS : SET ct td bk si ld) : RI2 ct td (rsR ct td ld z R) := by
  have h1 : RI ct td (rsR ct td (fun _ => 0) 0 R) := RO_rs h (fun _ => by omega) hr (by omega)
  have := RI2_rs (z := z) h1 hF hS
  rw [rsR_rsR] at this
  exact this
theorem RO_rsR {ct td ld b : Nat → Int} {z : Int} {R : FS} (h : RO R) (hr : 0 ≤ c_rows ct td ∧ c_rows ct td ≤ 40) (h5 : ct 5 ≤ 2) (hb : ∀ j, j < 431 → b j = bR ld z j) : RRel ct td (rsR ct td ld z R) b := by
  have h1 : RI ct td (rsR ct td (fun _ => 0) 0 R) := RO_rs h (fun _ => by omega) hr (by omega)
  have := RRel_rs (z := z) h1 hr.2 h5 hb
  rw [rsR_rsR] at this
  exact this
theorem RO_cp {ct td b : Nat → Int} {R Q : FS} (h : RO R) (hr : 0 ≤ c_rows ct td ∧ c_rows ct td ≤ 40) (q : RI ct td Q) (q2 : RI2 ct td Q) (q3 : RRel ct td Q b) : RI ct td (cpR R Q) ∧ RI2 ct td (cpR R Q) ∧ RRel ct td (cpR R Q) b := by
  have h1 : RI ct td (rsR ct td (fun _ => 0) 0 R) := RO_rs h (fun _ => by omega) hr (by omega)
  have e : cpR (rsR ct td (fun _ => 0) 0 R) Q = cpR R Q := cpR_rsR
  rw [← e]
  exact ⟨RI_cp h1 q, RI2_cp h1 q q2, RRel_cp h1 q q3⟩
theorem RU_fin {ct td bk si ld gf : Nat → Int} {A : Nat → Nat → Int} (hFM : FM ct td bk si ld gf A) : ∀ (k : Nat) (s : Int) (R : FS), RI ct td R → RI2 ct td R → RI ct td (finN ct td bk si k s R).2 ∧ RI2 ct td (finN ct td bk si k s R).2
  | 0, s, R, h1, h2 => ⟨h1, h2⟩
  | k + 1, s, R, h1, h2 => by
    rw [finN]
    by_cases q : R.1 5 < R.1 4
    · rw [if_pos q]; exact ⟨h1, h2⟩
    · rw [if_neg q]
      obtain ⟨a, b⟩ := RU_av hFM h1 h2 (by omega)
      exact RU_fin hFM k (s + 1) _ a b
theorem RU_step {M : jdM} {n m : Nat} {fl : Value} {ct td bk si ld : Nat → Int} {R : FS} (hFX : FX M n m fl ct td bk si ld) (h1 : RI ct td R) (h2 : RI2 ct td R) : RI ct td (y_step ct td bk si R).2.2 ∧ RI2 ct td (y_step ct td bk si R).2.2 := by
  rcases hFX with ⟨-, hz⟩ | ⟨f, gf, A, -, -, -, hFM⟩
  · have hr := rows0 (td := td) hz
    unfold y_step
    rw [if_neg (by omega)]
    exact ⟨h1, h2⟩
  · unfold y_step
    split
    · split
      · exact ⟨h1, h2⟩
      · exact RU_av hFM h1 h2 (by omega)
    · exact ⟨h1, h2⟩
theorem RU_finish {M : jdM} {n m : Nat} {fl : Value} {ct td bk si ld : Nat → Int} {R : FS} (hFX : FX M n m fl ct td bk si ld) (h1 : RI ct td R) (h2 : RI2 ct td R) : RI ct td (y_finish ct td bk si R).2.2 ∧ RI2 ct td (y_finish ct td bk si R).2.2 := by
  rcases hFX with ⟨-, hz⟩ | ⟨f, gf, A, -, -, -, hFM⟩
  · have hr := rows0 (td := td) hz
    unfold y_finish
    rw [if_neg (by omega)]
    exact ⟨h1, h2⟩
  · unfold y_finish
    split
    · exact RU_fin hFM _ _ _ h1 h2
    · exact ⟨h1, h2⟩
theorem RU_start {M : jdM} {n m : Nat} {fl : Value} {ct td bk si ld : Nat → Int} {R : FS} {x : Int} (hFX : FX M n m fl ct td bk si ld) (hr : 0 ≤ c_rows ct td ∧ c_rows ct td ≤ 40) (rE : ∀ j, 0 ≤ ld j ∧ ld j ≤ 9999) (h1 : RI ct td R) (h2 : RI2 ct td R) : RI ct td (y_start ct td ld R x).2.2 ∧ RI2 ct td (y_start ct td ld R x).2.2 := by
  rcases hFX with ⟨-, hz⟩ | ⟨f, gf, A, -, -, -, hFM⟩
  · have hr := rows0 (td := td) hz
    unfold y_start
    rw [if_neg (by omega)]
    exact ⟨h1, h2⟩
  · unfold y_start
    split
    · split
      · exact ⟨RI_rs h1 rE hr.1 hr.2 hr (by omega), RI2_rs h1 hFM.2.2.2.1 hFM.2.2.2.2.1⟩
      · exact ⟨h1, h2⟩
    · exact ⟨h1, h2⟩
/-- what the class's calls ask of a flight -/
def QF (F : FS) : Prop :=
  KI F.1 F.2.1 F.2.2.1 F.2.2.2.1 ∧ (0 ≤ c_rows F.1 F.2.1 ∧ c_rows F.1 F.2.1 ≤ 40) ∧ (0 ≤ F.1 2 ∧ F.1 2 ≤ 4) ∧ (0 < F.1 5 → 0 < c_rows F.1 F.2.1) ∧ (∀ i : Int, 0 ≤ i → i < F.1 5 → c_get F.2.1 5 i 1 ≤ 14) ∧
  (∀ (k : Int) (e : Nat), c_ahead F.1 F.2.1 F.2.2.2.1 e ≤ 10 → ∀ m : Int, 0 ≤ c_wab (c_wgh F.1 F.2.1 F.2.2.1 F.2.2.2.1 k e) m ∧ c_wab (c_wgh F.1 F.2.1 F.2.2.1 F.2.2.2.1 k e) m ≤ 90000000000000000) ∧
  (∀ i : Int, 0 ≤ i → i < F.1 12 → 1 ≤ c_get F.2.1 12 i 0) ∧ (0 ≤ F.1 5 ∧ F.1 5 ≤ 2)
theorem QF_FM {ct td bk si ld gf : Nat → Int} {A : Nat → Nat → Int} (h : FM ct td bk si ld gf A) : QF (ct, td, bk, si, ld) := by
  have hw := fun k e ha => (FM_wgh h k (e := e) ha).2
  obtain ⟨hK, -, -⟩ := FM_KI h
  obtain ⟨-, -, -, hF, -, hc0, -, hc2, hc5⟩ := h
  have l2 := (hF.1 2 (by omega)).2
  rw [show (jtab 0).2.2 2 = 4 from rfl] at l2
  have l5 := (hF.1 5 (by omega)).2
  rw [show (jtab 0).2.2 5 = 2 from rfl] at l5
  have hcr : 2 ≤ c_rows ct td ∧ c_rows ct td ≤ 40 := by
    have := (hF.2.1 0 0 (by omega) (by omega) (by omega)).1 rfl
    unfold c_rows
    rw [if_neg (by omega)]
    exact ⟨this.1, this.2.1⟩
  refine ⟨hK, (⟨?_, hcr.2⟩ : 0 ≤ c_rows ct td ∧ c_rows ct td ≤ 40), (⟨?_, l2⟩ : 0 ≤ ct 2 ∧ ct 2 ≤ 4), fun _ => ?_, fun i a b => ?_, fun k e ha m => ?_, fun i a b => ?_, (⟨?_, l5⟩ : 0 ≤ ct 5 ∧ ct 5 ≤ 2)⟩
  · omega
  · omega
  · show 0 < c_rows ct td
    omega
  · exact ((hF.2.1 5 i (by omega) a b).2.2.2.2.2.1 rfl).2.2.1
  · obtain ⟨x, y⟩ := hw k e ha m
    exact ⟨x, Int.le_trans y (by decide)⟩
  · exact ((hF.2.1 12 i (by omega) a b).2.2.2.2.2.2.2.2.2.2.2.2 rfl).1
  · omega
theorem foldS_id {σ : Type} {g : σ → Int → σ} {s : σ} (h : ∀ (s : σ) (i : Int), g s i = s) : ∀ k : Nat, foldS g s k = s
  | 0 => rfl
  | k + 1 => by rw [foldS, foldS_id h k, h]
theorem get0 {a b c : Int} : c_get (fun _ => 0) a b c = 0 := by unfold c_get; split <;> rfl
theorem unn0 {r : Int} : c_unn (fun _ => 0) (fun _ => 0) (fun _ => 0) r = 0 := by
  have e1 : c_sit (fun _ => 0) r = 0 := by unfold c_sit; split <;> rfl
  have e2 : c_named (fun _ => 0) (fun _ => 0) r = 0 := rfl
  unfold c_unn
  omega
theorem like0 {b : Int} : ∀ (d : Nat) (i v : Int), c_likeF (fun _ => 0) b i v d = 0
  | 0, _, _ => rfl
  | d + 1, i, v => by
    rw [c_likeF]
    split
    · exact get0
    · exact like0 d _ _
theorem QF_0 : QF ((fun _ => 0), (fun _ => 0), (fun _ => 0), (fun _ => 0), (fun _ => 0)) := by
  have hr : c_rows (fun _ => 0) (fun _ => 0) = 0 := rfl
  refine ⟨⟨fun i a b => ?_, ?_, fun r v => ?_, fun r => ?_⟩, ?_, ?_, fun h => ?_, fun i a b => ?_, fun k e ha m => ?_, fun i a b => ?_, ?_⟩
  · exact absurd (Int.lt_of_le_of_lt a b) (by decide)
  · decide
  · have e : c_liked (fun _ => 0) (fun _ => 0) r v = 0 := like0 4 0 v
    show 0 ≤ c_liked (fun _ => 0) (fun _ => 0) r v ∧ c_liked (fun _ => 0) (fun _ => 0) r v ≤ 3
    omega
  · show 0 ≤ c_unn (fun _ => 0) (fun _ => 0) (fun _ => 0) r ∧ c_unn (fun _ => 0) (fun _ => 0) (fun _ => 0) r ≤ 9
    rw [unn0]
    omega
  · show 0 ≤ c_rows (fun _ => 0) (fun _ => 0) ∧ c_rows (fun _ => 0) (fun _ => 0) ≤ 40
    omega
  · exact ⟨by decide, by decide⟩
  · exact absurd h (by decide)
  · exact absurd (Int.lt_of_le_of_lt a b) (by decide)
  · have e1 : c_wgh (fun _ => 0) (fun _ => 0) (fun _ => 0) (fun _ => 0) k e = fun m => if m = 0 then 1 else 0 := by
      unfold c_wgh
      exact foldS_id (fun W r => by rw [unn0]; rfl) e
    show 0 ≤ c_wab (c_wgh (fun _ => 0) (fun _ => 0) (fun _ => 0) (fun _ => 0) k e) m ∧ c_wab (c_wgh (fun _ => 0) (fun _ => 0) (fun _ => 0) (fun _ => 0) k e) m ≤ 90000000000000000
    rw [e1]
    have h9 := sumZ_b (f := fun i => if m < i then (if i.toNat = 0 then (1 : Int) else 0) else 0) (lo := 0) (hi := 1) (k := 11) (fun i _ _ => by
      show 0 ≤ (if m < i then (if i.toNat = 0 then (1 : Int) else 0) else 0) ∧ (if m < i then (if i.toNat = 0 then (1 : Int) else 0) else 0) ≤ 1
      (repeat' split) <;> omega)
    show 0 ≤ sumZ (fun i => if m < i then (if i.toNat = 0 then (1 : Int) else 0) else 0) 11 ∧ sumZ (fun i => if m < i then (if i.toNat = 0 then (1 : Int) else 0) else 0) 11 ≤ 90000000000000000
    omega
  · exact absurd (Int.lt_of_le_of_lt a b) (by decide)
  · exact ⟨by decide, by decide⟩
/-- the numbers' invariants -/
def IV (g bs : Nat → Int) (p : TS) (F D R : FS) (mk : Nat → FS) (tg tk tr g' : Nat → Int) (w : Int) (B : Nat → Nat → Int) : Prop :=
  ((0 ≤ g 1 ∧ g 1 ≤ 900) ∧ (0 ≤ g 6 ∧ g 6 ≤ 4) ∧ (0 ≤ g 10 ∧ g 10 ≤ 100) ∧ g' 1 = g 10 ∧ g' 2 = (if g 10 = 4 then g 12 else -1) ∧ g' 6 = g 1 ∧ g' 13 = g 11 ∧ g' 19 = g 6 ∧ g' 26 = tg 2 ∧ (0 ≤ g' 12 ∧ g' 12 ≤ 999) ∧ (0 ≤ w ∧ w < 1099511627776)) ∧
  ((∀ j, j < 900 → B 1 j = bs j) ∧ ∀ j, -128 ≤ bs j ∧ bs j < 128) ∧ (HS F.2.1 ∧ HS D.2.1 ∧ NO p) ∧ (B 8 = tk ∧ B 9 = tr ∧ ∀ j, 0 ≤ tk j ∧ tk j ≤ 99) ∧ (∀ j, 0 ≤ B 2 j ∧ B 2 j ≤ 1000) ∧
  (RRel F.1 F.2.1 R (B 3) ∧ RI F.1 F.2.1 R ∧ RI2 F.1 F.2.1 R) ∧
  ((∀ i : Nat, (i : Int) < g 6 → RRel F.1 F.2.1 (mk i) (fun j => B 4 (431 * i + j)) ∧ RI F.1 F.2.1 (mk i) ∧ RI2 F.1 F.2.1 (mk i)) ∧ ∀ i, i < 4 → RO (mk i)) ∧
  ((∀ j, F.1 j = 0) → g 6 = 0 ∧ R.1 7 = 0) ∧ QF F
/-- a trouble that is told, but not a fault of the text -/
def T4 (t : Int) : Prop := 0 ≤ t ∧ t ≤ 100 ∧ t ≠ 4
theorem IV_q {g bs : Nat → Int} {p : TS} {F D R : FS} {mk : Nat → FS} {tg tk tr g' : Nat → Int} {w t : Int} {B : Nat → Nat → Int} (h : IV g bs p F D R mk tg tk tr g' w B) (ht : T4 t) : IV (up g 10 t) bs p F D R mk tg tk tr (rg g' t) w B := by
  obtain ⟨⟨a1, a2, a3, a4, a5, a6, a7, a8, a9, a10, a11⟩, b, c, d, e, f, k, l, q⟩ := h
  obtain ⟨t1, t2, t3⟩ := ht
  refine ⟨⟨a1, a2, ⟨t1, t2⟩, ?_, ?_, a6, a7, a8, a9, a10, a11⟩, b, c, d, e, f, k, l, q⟩
  · unfold rg
    rw [up_ne (by omega), up_eq, up_eq]
  · unfold rg
    rw [up_eq, up_eq, if_neg t3]
theorem IV_B {g bs : Nat → Int} {p : TS} {F D R : FS} {mk : Nat → FS} {tg tk tr g' : Nat → Int} {w : Int} {B B' : Nat → Nat → Int} (h : IV g bs p F D R mk tg tk tr g' w B) (h1 : B' 1 = B 1) (h2 : ∀ j, 0 ≤ B' 2 j ∧ B' 2 j ≤ 1000) (h3 : B' 3 = B 3) (h4 : B' 4 = B 4) (h8 : B' 8 = B 8) (h9 : B' 9 = B 9) : IV g bs p F D R mk tg tk tr g' w B' := by
  obtain ⟨a, b, c, d, e, f, k, l, q⟩ := h
  refine ⟨a, ?_, c, ?_, h2, ?_, ?_, l, q⟩
  · rw [h1]; exact b
  · rw [h8, h9]; exact d
  · rw [h3]; exact f
  · rw [h4]; exact k
/-- the class's run is another, and the reference's with it -/
theorem IV_R {g bs : Nat → Int} {p : TS} {F D R R' : FS} {mk : Nat → FS} {tg tk tr g' : Nat → Int} {w : Int} {B : Nat → Nat → Int} {b' : Nat → Int} (h : IV g bs p F D R mk tg tk tr g' w B) (hR : RRel F.1 F.2.1 R' b') (h1 : RI F.1 F.2.1 R') (h2 : RI2 F.1 F.2.1 R') (h7 : (∀ j, F.1 j = 0) → R'.1 7 = 0) : IV g bs p F D R' mk tg tk tr g' w (up B 3 b') := by
  obtain ⟨a, b, c, d, e, f, k, l, q⟩ := h
  refine ⟨a, ?_, c, ?_, ?_, ?_, ?_, fun z => ⟨(l z).1, h7 z⟩, q⟩
  · rw [up_ne (by omega)]; exact b
  · rw [up_ne (by omega), up_ne (by omega)]; exact d
  · rw [up_ne (by omega)]; exact e
  · rw [up_eq]; exact ⟨hR, h1, h2⟩
  · rw [up_ne (by omega)]; exact k
/-- what the law's loop keeps: the memory of both -/
def LSt (n : Nat) (M : jdM) (cu dr : Nat) (g bs : Nat → Int) (p : TS) (ct td bk si ld : Nat → Int) (D : FS) (g3 sp sk fa go : Nat → Int) (mk : Nat → FS) (tg tk tr g' : Nat → Int) (w : Int) (fl rd : Value) (B : Nat → Nat → Int) (fo : Nat → Int) : Prop :=
  77 ≤ n ∧ SXc M n 0 cu dr (g, bs, p, (ct, td, bk, si, ld), D, (g3, sp, sk, fa, go), mk, tg, tk, tr) ∧ MX M n 63 g' w fl rd B ∧ FX M n 63 fl ct td bk si ld ∧ (∀ f : Nat, fl = .ref f → 77 ≤ f) ∧ M 76 = jdL 1 fo
def BN (n : Nat) (M : jdM) : Prop := ∃ (cu dr : Nat) (g bs : Nat → Int) (p : TS) (ct td bk si ld : Nat → Int) (D : FS) (g3 sp sk fa go : Nat → Int) (mk : Nat → FS) (tg tk tr g' : Nat → Int) (w : Int) (fl rd : Value) (B : Nat → Nat → Int) (fo : Nat → Int), LSt n M cu dr g bs p ct td bk si ld D g3 sp sk fa go mk tg tk tr g' w fl rd B fo ∧ IV g bs p (ct, td, bk, si, ld) D (g3, sp, sk, fa, go) mk tg tk tr g' w B
/-- behind the class's call: the reference's cells are as they were -/
theorem LSt_7 {n : Nat} {M M1 : jdM} {g' : Nat → Int} {w : Int} {fl rd : Value} {B : Nat → Nat → Int} {ct td bk si ld fo : Nat → Int} (f1 : fr (XSf 0) M M1) (hX : MX M n 63 g' w fl rd B) (hFX : FX M n 63 fl ct td bk si ld) (hfl : ∀ f : Nat, fl = .ref f → 77 ≤ f) (ho : M 76 = jdL 1 fo) : MX M1 n 63 g' w fl rd B ∧ FX M1 n 63 fl ct td bk si ld ∧ M1 76 = jdL 1 fo :=
  ⟨MX_fr hX f1 (Nat.le_refl n) (fun k a b q => by have := q.2; omega), FX_frS hFX f1 (Nat.le_refl n) (fun f e k a b q => by have := hfl f e; have := q.2; omega), by rw [f1 76 (fun q => by have := q.2; omega)]; exact ho⟩
/-- behind the reference's call: the class's cells are as they were -/
theorem LSt_9 {n : Nat} {M M1 : jdM} {cu dr : Nat} {σ : XS} {fl : Value} {ct td bk si ld fo : Nat → Int} (f1 : fr (MXf 63) M M1) (hS : SXc M n 0 cu dr σ) (hFX : FX M n 63 fl ct td bk si ld) (hfl : ∀ f : Nat, fl = .ref f → 77 ≤ f) (ho : M 76 = jdL 1 fo) : SXc M1 n 0 cu dr σ ∧ FX M1 n 63 fl ct td bk si ld ∧ M1 76 = jdL 1 fo :=
  ⟨SXc_fr hS f1 (Nat.le_refl n) (fun k a b q => by have := q.1; omega), FX_frS hFX f1 (Nat.le_refl n) (fun f e k a b q => by have := hfl f e; have := q.2; omega), by rw [f1 76 (fun q => by have := q.2; omega)]; exact ho⟩
