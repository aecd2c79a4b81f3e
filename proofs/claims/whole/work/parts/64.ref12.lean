/-! 64: the reference: steps -/
theorem liked_b {ct td bk : Nat → Int} (hF : FI ct td) (h2 : 1 ≤ ct 2) (hbk : ∀ r : Int, -1 ≤ c_blk bk r ∧ c_blk bk r < ct 7) (r v : Int) : 0 ≤ c_liked td bk r v ∧ c_liked td bk r v < ct 2 := by
  have hb := hbk r
  have key : ∀ (d : Nat) (i v : Int), 0 ≤ i → i + d ≤ 4 → 0 ≤ c_likeF td (c_blk bk r) i v d ∧ c_likeF td (c_blk bk r) i v d < ct 2 := by
    intro d
    induction d with
    | zero => intro i v _ _; rw [c_likeF]; omega
    | succ d ih =>
      intro i v h0 h1
      rw [c_likeF]
      split
      · have g0 := c_getr hF.2.2.2 7 (c_blk bk r) (4 + 2 * i)
        refine ⟨g0.1, ?_⟩
        by_cases q : c_blk bk r = -1
        · have e : c_get td 7 (c_blk bk r) (4 + 2 * i) = 0 := by
            unfold c_get
            rw [if_neg (by omega)]
          omega
        · have h7 := (hF.2.1 7 (c_blk bk r) (by omega) (by omega) (by omega)).2.2.2.2.2.2.2.1 rfl
          obtain ⟨-, -, -, -, -, -, -, w3, w4, -⟩ := h7
          by_cases q2 : i < c_get td 7 (c_blk bk r) 3
          · exact (w3 i h0 q2).1
          · have := (w4 i (by omega) (by omega)).1
            omega
      · exact ih (i + 1) _ (by omega) (by omega)
  exact key 4 0 v (by omega) (by omega)
theorem FM_blk {ct td bk si ld : Nat → Int} (hS : SET ct td bk si ld) (h7 : 0 ≤ ct 7) (r : Int) : -1 ≤ c_blk bk r ∧ c_blk bk r < ct 7 ∨ c_blk bk r = -1 := by
  by_cases h : 1 ≤ r ∧ r ≤ 40
  · left
    rw [c_blk_l hS h]
    have := lastZ_r (fun i => c_get td 7 i 0 ≤ r ∧ r ≤ c_get td 7 i 1) (ct 7).toNat
    omega
  · right
    unfold c_blk
    rw [if_neg h]
theorem FM_KI {ct td bk si ld gf : Nat → Int} {A : Nat → Nat → Int} (h : FM ct td bk si ld gf A) : KI ct td bk si ∧ (∀ r v, 0 ≤ c_liked td bk r v ∧ c_liked td bk r v < ct 2) ∧ ∀ r : Int, 1 ≤ r → r ≤ 40 → 1 ≤ c_unn ct td si r → 0 ≤ c_blk bk r := by
  obtain ⟨-, -, -, hF, hS, -, -, hc2, -⟩ := h
  have l2 := hF.1 2 (by omega)
  have l7 := hF.1 7 (by omega)
  have l8 := hF.1 8 (by omega)
  rw [show (jtab 0).2.2 2 = 4 from rfl] at l2
  rw [show (jtab 0).2.2 8 = 6 from rfl] at l8
  have hb : ∀ r : Int, -1 ≤ c_blk bk r ∧ c_blk bk r < ct 7 := fun r => by
    rcases FM_blk hS l7.1 r with q | q
    · exact q
    · omega
  have hl := liked_b hF hc2 hb
  refine ⟨⟨fun i h1 h2 => ?_, l8.2, fun r v => ?_, fun r => ?_⟩, hl, fun r h1 h2 h3 => ?_⟩
  · have h9 := ((hF.2.1 8 i (by omega) h1 (by omega)).2.2.2.2.2.2.2.2.1 rfl).2.2.1
    have := c_getr hF.2.2.2 8 i 1
    omega
  · have := hl r v
    omega
  · by_cases q : 1 ≤ r ∧ r ≤ 40
    · have h9 := (c_unn_e hS q).1
      have g9 := c_getr hF.2.2.2 7 (c_blk bk r) 2
      have n9 := sumZ_b (f := fun i => if c_get td 8 i 0 = r then 1 else 0) (k := (ct 8).toNat) (lo := 0) (hi := 1) (fun i _ _ => by
        show 0 ≤ (if c_get td 8 i 0 = r then (1 : Int) else 0) ∧ (if c_get td 8 i 0 = r then (1 : Int) else 0) ≤ 1
        split <;> omega)
      have e9 : c_named ct td r = sumZ (fun i => if c_get td 8 i 0 = r then 1 else 0) (ct 8).toNat := rfl
      by_cases q2 : c_blk bk r = -1
      · have e : c_get td 7 (c_blk bk r) 2 = 0 := by
          unfold c_get
          rw [if_neg (by omega)]
        omega
      · have hb9 := hb r
        have h7 := ((hF.2.1 7 (c_blk bk r) (by omega) (by omega) (by omega)).2.2.2.2.2.2.2.1 rfl).2.2.2.2.1
        omega
    · have e1 : c_sit si r = 0 := by unfold c_sit; rw [if_neg q]
      have e2 : c_named ct td r = 0 := by
        unfold c_named
        have key : ∀ n : Nat, (n : Int) ≤ ct 8 → sumZ (fun i => if c_get td 8 i 0 = r then 1 else 0) n = 0 := by
          intro n
          induction n with
          | zero => intro _; rfl
          | succ n ih =>
            intro hn
            have h9 := (hF.2.1 8 n (by omega) (by omega) (by omega)).2.2.2.2.2.2.2.2.1 rfl
            rw [sumZ, ih (by omega), if_neg (by omega)]
            rfl
        exact key _ (by omega)
      unfold c_unn
      omega
  · have h9 := (c_unn_e hS ⟨h1, h2⟩).1
    have n9 := sumZ_b (f := fun i => if c_get td 8 i 0 = r then 1 else 0) (k := (ct 8).toNat) (lo := 0) (hi := 1) (fun i _ _ => by
      show 0 ≤ (if c_get td 8 i 0 = r then (1 : Int) else 0) ∧ (if c_get td 8 i 0 = r then (1 : Int) else 0) ≤ 1
      split <;> omega)
    have e9 : c_named ct td r = sumZ (fun i => if c_get td 8 i 0 = r then 1 else 0) (ct 8).toNat := rfl
    have hb9 := hb r
    by_cases q2 : c_blk bk r = -1
    · have e : c_get td 7 (c_blk bk r) 2 = 0 := by
        unfold c_get
        rw [if_neg (by omega)]
      omega
    · omega
theorem WZ_up {ct w : Nat → Int} {o : Nat} {x : Int} (h : WZ ct w) (ho : o < 9 ∨ 13 ≤ o) : WZ ct (up w o x) := fun k a b => by rw [up_ne (by omega)]; exact h k a b
theorem WZ_hd {ct td w : Nat → Int} {k : Nat} (h : WZ ct w) (hk : k < 4) (h2 : (k : Int) < ct 2) : WZ ct (hdW ct td k w) := fun j a b => by
  rw [hdW_hi (by omega) hk, if_neg (by omega)]
  exact h j a b
theorem WZ_nm {ct td w : Nat → Int} {ρ : Nat} {c i : Int} (h : WZ ct w) (hk : 0 ≤ c_get td 8 i 1 ∧ c_get td 8 i 1 < ct 2) (h4 : ct 2 ≤ 4) : WZ ct (nm1 ct td ρ c w i) := by
  unfold nm1
  split
  · split
    · exact WZ_up (WZ_hd h (by omega) (by omega)) (Or.inr (by omega))
    · exact WZ_up h (Or.inl (by omega))
  · exact h
theorem WZ_nmF {ct td w : Nat → Int} {ρ : Nat} {c : Int} (h : WZ ct w) (h4 : ct 2 ≤ 4) : ∀ {k : Nat}, (∀ i : Int, 0 ≤ i → i < k → 0 ≤ c_get td 8 i 1 ∧ c_get td 8 i 1 < ct 2) → WZ ct (foldS (nm1 ct td ρ c) w k)
  | 0, _ => h
  | k + 1, hk => WZ_nm (WZ_nmF h h4 (k := k) (fun i a b => hk i a (by omega))) (hk k (by omega) (by omega)) h4
theorem WZ_ot {ct td bk w : Nat → Int} {ρ : Nat} {i : Int} (h : WZ ct w) (h0 : ∀ k, k < 4 → 0 ≤ w (9 + k)) (h2 : 1 ≤ ct 2 ∧ ct 2 ≤ 4) (hl : ∀ v, 0 ≤ c_liked td bk ρ v ∧ c_liked td bk ρ v < ct 2) : WZ ct (ot1 ct td bk ρ w i) := by
  unfold ot1
  have h1 : WZ ct (up w 13 ((75 * w 13 + 74) % 65537)) := WZ_up h (Or.inr (by omega))
  have h01 : ∀ k, k < 4 → 0 ≤ up w 13 ((75 * w 13 + 74) % 65537) (9 + k) := fun k hk => by rw [up_ne (by omega)]; exact h0 k hk
  have hlk := hl ((75 * w 13 + 74) % 65537 % max 1 (c_weights td bk ρ))
  generalize c_liked td bk ρ ((75 * w 13 + 74) % 65537 % max 1 (c_weights td bk ρ)) = lk at hlk
  generalize up w 13 ((75 * w 13 + 74) % 65537) = w1 at h1 h01
  dsimp only
  have hm := mostF_b (L := fun k : Int => w1 (9 + k.toNat))
  have hmp : mostF (fun k : Int => w1 (9 + k.toNat)) ≠ -1 → 0 < w1 (9 + (mostF (fun k : Int => w1 (9 + k.toNat))).toNat) := mostF_p (L := fun k : Int => w1 (9 + k.toNat)) (k := 4)
  have htk : ∀ tk : Int, tk = (if 0 < w1 (9 + lk.toNat) then lk else mostF (fun k : Int => w1 (9 + k.toNat))) → tk = -1 ∨ tk.toNat < 4 ∧ ((tk.toNat : Nat) : Int) < ct 2 := by
    intro tk e
    by_cases q1 : 0 < w1 (9 + lk.toNat)
    · rw [if_pos q1] at e
      right
      omega
    · rw [if_neg q1] at e
      by_cases q : mostF (fun k : Int => w1 (9 + k.toNat)) = -1
      · left
        omega
      · right
        have hp := hmp q
        by_cases q2 : mostF (fun k : Int => w1 (9 + k.toNat)) < ct 2
        · omega
        · have := h1 (mostF (fun k : Int => w1 (9 + k.toNat))).toNat (by omega) (by omega)
          omega
  generalize (if 0 < w1 (9 + lk.toNat) then lk else mostF (fun k : Int => w1 (9 + k.toNat))) = tk at htk ⊢
  have htk := htk tk rfl
  by_cases q : tk = -1
  · rw [if_pos q]
    exact WZ_up (o := 2) h1 (Or.inl (by omega))
  · rw [if_neg q]
    exact WZ_hd (WZ_up (o := 1) h1 (Or.inl (by omega))) (by omega) (by omega)
set_option maxHeartbeats 1000000 in
set_option maxRecDepth 20000 in
theorem s_X9_steps {l : Launch} {n : Nat} {M : jdM} {m f : Nat} {g : Nat → Int} {wd : Int} {rd : Value} {B : Nat → Nat → Int} (hX : MX M n m g wd (.ref f) rd B) {ct td bk si ld gf : Nat → Int} {A : Nat → Nat → Int} (hMF : MF M n f gf A) (hFM : FM ct td bk si ld gf A) (hsep : f + 30 < m ∨ m + 12 < f) {g3 sp sk fa go : Nat → Int} (hRR : RRel ct td (g3, sp, sk, fa, go) (B 3)) (hRI : RI ct td (g3, sp, sk, fa, go)) (hz1 : ∀ t k : Nat, t < 2 → k < 4 → ct 2 ≤ k → sk (4 * t + k) = 0) (hno : g3 4 ≤ g3 5) : Ct l yX9_steps cX9_steps 5 (some .int) rX9_steps [.ref m] n M (fun vv n' M' => (vv = some (jI (av_row ct td g3 sp)) ∧ n = n') ∧ ∃ b', MX M' n m g wd (.ref f) rd (up B 3 b') ∧ RRel ct td (avR ct td bk si (g3, sp, sk, fa, go)) b' ∧ fr (MXf m) M M') := by
  refine Ct_of [some (.ref m), none, none, none, none] (by decide) (Nat.le_of_ble_eq_true rfl) rfl (fun κ hl h hR hRt hmn hn0 => ?_)
  have h : Ok κ RX9 cX9_steps 5 (some .int) := h
  obtain ⟨hnm, hOm, hBm⟩ := id hX
  have hOm : M m = jdO 9 (fX9 m _ _ (.ref f) rd) := hOm
  obtain ⟨hnf, hOf, hAf⟩ := id hMF
  obtain ⟨⟨e0, e1, e2, e3, e4⟩, ⟨k5, k6, k7, k8, k9, k10, k11, k12, k13, k14, k15⟩, ⟨a2, a3, a4, a5, a6, a7, a8, a9, a10, a11, a12⟩, ⟨hlim, hLI, hends, hrt⟩, ⟨hbk, hld⟩, hc0, hc1, hc2, hc5⟩ := id hFM
  have l2 := hlim 2 (by omega)
  have l3 := hlim 3 (by omega)
  have l4 := hlim 4 (by omega)
  have l5 := hlim 5 (by omega)
  have l6 := hlim 6 (by omega)
  have l7 := hlim 7 (by omega)
  have l8 := hlim 8 (by omega)
  have l9 := hlim 9 (by omega)
  have l10 := hlim 10 (by omega)
  have l11 := hlim 11 (by omega)
  have l12 := hlim 12 (by omega)
  rw [show (jtab 0).2.2 2 = 4 from rfl] at l2
  rw [show (jtab 0).2.2 3 = 6 from rfl] at l3
  rw [show (jtab 0).2.2 4 = 6 from rfl] at l4
  rw [show (jtab 0).2.2 5 = 2 from rfl] at l5
  rw [show (jtab 0).2.2 6 = 8 from rfl] at l6
  rw [show (jtab 0).2.2 7 = 5 from rfl] at l7
  rw [show (jtab 0).2.2 8 = 6 from rfl] at l8
  rw [show (jtab 0).2.2 9 = 3 from rfl] at l9
  rw [show (jtab 0).2.2 10 = 3 from rfl] at l10
  rw [show (jtab 0).2.2 11 = 4 from rfl] at l11
  rw [show (jtab 0).2.2 12 = 4 from rfl] at l12
  have hcr : 1 ≤ c_rows ct td ∧ c_rows ct td ≤ 40 := by
    have h9 := (hLI 0 0 (by omega) (by omega) (by omega)).1 rfl
    have e9 : c_rows ct td = c_get td 0 0 0 := by unfold c_rows; rw [if_neg (by omega)]
    omega
  have hB3 : M (m + 3) = jdA 431 (B 3) := hBm 3 (by omega) (by omega)
  obtain ⟨hrw, hsc, hwk, hsk9, h422, hgt, h429, h430⟩ := id hRR
  replace hsc : ∀ t, t < 2 → B 3 (410 + t) = sp t := hsc
  replace hwk : ∀ t : Nat, (t : Int) < ct 5 → B 3 (412 + t) = if c_get td 5 t 0 = 0 then g3 4 - 1 else c_rows ct td - g3 5 := hwk
  replace hsk9 : ∀ j, j < 8 → B 3 (414 + j) = sk j := hsk9
  replace h422 : B 3 422 = g3 6 := h422
  replace h429 : B 3 429 = g3 7 := h429
  replace hgt : ∀ i, i < 6 → B 3 (423 + i) = go i := hgt
  replace h430 : B 3 430 = c_rows ct td - (g3 5 - g3 4 + 1) := h430
  obtain ⟨h4r, hsr, hkr, hzr, h0r, hfr, htr, h2r, h451r⟩ := id hRI
  replace h4r : 1 ≤ g3 4 ∧ g3 4 ≤ g3 5 + 1 ∧ g3 5 ≤ c_rows ct td := h4r
  replace hsr : ∀ j, 0 ≤ sp j ∧ sp j ≤ 60000 + 22000 * (c_rows ct td - (g3 5 - g3 4 + 1)) := hsr
  replace hkr : ∀ j, 0 ≤ sk j ∧ sk j ≤ 9999 := hkr
  replace hzr : 0 ≤ g3 7 ∧ g3 7 ≤ 65536 := hzr
  replace h0r : ∀ ρ : Nat, g3 4 ≤ ρ → (ρ : Int) ≤ g3 5 → ∀ o, o < 11 → fa (11 * ρ + o) = 0 := h0r
  replace hfr : ∀ j, 0 ≤ fa j ∧ fa j ≤ 5000000 := hfr
  obtain ⟨hK, hlk9, hbl9⟩ := FM_KI hFM
  obtain ⟨τ, eτ⟩ : ∃ τ : Nat, c_nxt ct td sp = (τ : Int) := ⟨(c_nxt ct td sp).toNat, by have := c_nxt_r (ct := ct) (td := td) (sp := sp); omega⟩
  have hτr : τ ≤ 1 := by have := c_nxt_r (ct := ct) (td := td) (sp := sp); omega
  have hτ5 : (τ : Int) < ct 5 := by
    rw [← eτ]
    unfold c_nxt
    (repeat' split) <;> omega
  obtain ⟨ρ, eρ⟩ : ∃ ρ : Nat, av_row ct td g3 sp = (ρ : Int) := ⟨(av_row ct td g3 sp).toNat, by unfold av_row; split <;> omega⟩
  have hρr : g3 4 ≤ (ρ : Int) ∧ (ρ : Int) ≤ g3 5 := by rw [← eρ]; unfold av_row; split <;> omega
  have hρ : 1 ≤ ρ ∧ ρ ≤ 40 := by omega
  have eAR : (if c_get td 5 (τ : Int) 0 = 0 then g3 4 else g3 5) = (ρ : Int) := by
    rw [← eρ]
    unfold av_row
    rw [eτ]
  have hRR9 := RRel_av (bk := bk) (si := si) hRR hRI ⟨hlim, hLI, hends, hrt⟩ hno hcr.2 hc5
  dsimp only at hRR9
  rw [eρ, eτ, Int.toNat_natCast, Int.toNat_natCast] at hRR9
  have hstt := hsr τ
  have hs5 : ∀ j, 0 ≤ sp j ∧ sp j ≤ 5000000 := fun j => by have := hsr j; omega
  have hbg := av_begr (ct := ct) (g := g3) hrt hs5
  rw [eτ, Int.toNat_natCast] at hbg
  have r01 := c_getr hrt 0 0 1
  have zf := h0r ρ hρr.1 hρr.2
  have f1 : fr (MXf m) M M := fr_rf
  have K162 : ∀ (M1 : jdM) (wj : Nat → Int), MX M1 n m g wd (.ref f) rd (up B 3 (rbX (st4 (B 3) ρ τ (av_beg ct td g3 sp)) ρ τ wj)) → MF M1 n f gf A → fr (MXf m) M M1 → WB wj (((av_beg ct td g3 sp) + 999 * (ct 8).toNat + 999 * (ct 8).toNat) + 999 * (c_unn ct td si (ρ : Int))) → RRel ct td (avR ct td bk si (g3, sp, sk, fa, go)) (bE (B 3) ρ τ (av_beg ct td g3 sp) wj (g3 6 + c_begun ct td (av_beg ct td g3 sp) (wj 0))) → J κ 5 0 0 n 162 [some (.ref m), some (jI (τ : Int)), some (jI (ρ : Int)), some (jI (av_beg ct td g3 sp)), some (jI 0)] [] M1 := by
    intro M1 wj hX hMF f1 hWj hRR9
    have hw0 := hWj.1
    have hu9 := hK.2.2.2 (ρ : Int)
    obtain ⟨hnf, hOf, hAf⟩ := id hMF
    obtain ⟨hnm, hOm, hBm⟩ := id hX
    have hOm : M1 m = jdO 9 (fX9 m _ _ (.ref f) rd) := hOm
    have hB3 : M1 (m + 3) = jdA 431 (rbX (st4 (B 3) ρ τ (av_beg ct td g3 sp)) ρ τ wj) := hBm 3 (by omega) (by omega)
    refine jr_aload_n (pc := 162) h dX9_steps_162 rfl ?_
    refine gf_X9_21 (pc := 163) h dX9_steps_163 (by assumption) (by omega) ?_
    refine jr_bipush (pc := 166) h dX9_steps_166 bp_10 ?_
    refine jr_iload_n (pc := 168) h dX9_steps_168 rfl ?_
    refine jr_imul (pc := 169) h dX9_steps_169 ?_
    refine jr_iconst (pc := 170) h dX9_steps_170 ?_
    refine jr_iadd (pc := 171) h dX9_steps_171 ?_
    refine jr_aload_n (pc := 172) h dX9_steps_172 rfl ?_
    refine gf_X9_21 (pc := 173) h dX9_steps_173 (by assumption) (by omega) ?_
    refine jr_sipush (pc := 176) h dX9_steps_176 sp_410 ?_
    refine jr_iload_n (pc := 179) h dX9_steps_179 rfl ?_
    refine jr_iadd (pc := 180) h dX9_steps_180 ?_
    refine jr_iald (pc := 181) h dX9_steps_181 hB3 (by omega) (by omega) ?_
    rw [show ((410 : Int) + (τ : Int)).toNat = 410 + τ by omega, (rbX_s (x := 0) hρ hτr).2]
    refine jr_iast (pc := 182) h dX9_steps_182 hB3 (by omega) (by omega) ?_
    refine jm_gen (fun M2 hM2 => ?_)
    rw [show ((10 : Int) * (ρ : Int) + 2).toNat = 10 * ρ + 2 by omega] at hM2
    have hX := MX_B (i := 3) hX hM2 (by omega)
    rw [up_up] at hX
    have f9 : fr (MXf m) _ M2 := fr_up (S := MXf m) hM2 ⟨by omega, by omega⟩
    have f1 := fr_tr f1 f9
    have hMF := MF_fr hMF f9 (Nat.le_refl _) (fun k h1 h2 q => by have := q.1; have := q.2; omega)
    obtain ⟨hnf, hOf, hAf⟩ := id hMF
    refine jr_iconst (pc := 183) h dX9_steps_183 ?_
    refine jr_istore (pc := 184) h [_, _, _, _, _] dX9_steps_184 (by decide) rfl ?_
    have bl : ∀ (dqb : Nat) (i : Int) (M1 : jdM), (0 ≤ i ∧ i ≤ ct 9) → (MX M1 n m g wd (.ref f) rd (up B 3 (up (up (rbX (st4 (B 3) ρ τ (av_beg ct td g3 sp)) ρ τ wj) (10 * ρ + 2) (wj 0)) 422 (g3 6 + sumZ (fun i => if (av_beg ct td g3 sp) < c_get td 9 i 0 * 60 ∧ c_get td 9 i 0 * 60 < wj 0 then 1 else 0) i.toNat)))) → (MF M1 n f gf A) → (fr (MXf m) M M1) → (10 - i).toNat < dqb → J κ 5 0 0 n 186 [some (.ref m), some (jI (τ : Int)), some (jI (ρ : Int)), some (jI (av_beg ct td g3 sp)), some (jI i)] [] M1 := by
      intro dqb
      induction dqb with
      | zero => intro i M1 hi hX hMF f1 hd; omega
      | succ dqb ihb =>
        intro i M1 hi hX hMF f1 hd
        obtain ⟨hnf, hOf, hAf⟩ := id hMF
        have hA20 : M1 (f + 20) = jdA 3 (A 20) := hAf 20 (by omega) (by omega)
        obtain ⟨hnm, hOm, hBm⟩ := id hX
        have hOm : M1 m = jdO 9 (fX9 m _ _ (.ref f) rd) := hOm
        have hB3 : M1 (m + 3) = jdA 431 (up (up (rbX (st4 (B 3) ρ τ (av_beg ct td g3 sp)) ρ τ wj) (10 * ρ + 2) (wj 0)) 422 (g3 6 + sumZ (fun i => if (av_beg ct td g3 sp) < c_get td 9 i 0 * 60 ∧ c_get td 9 i 0 * 60 < wj 0 then 1 else 0) i.toNat)) := hBm 3 (by omega) (by omega)
        refine jr_iload (pc := 186) h dX9_steps_186 rfl ?_
        refine jr_aload_n (pc := 188) h dX9_steps_188 rfl ?_
        refine gf_X9_425 (pc := 189) h dX9_steps_189 (by assumption) (by omega) ?_
        refine gf_X9_384 (pc := 192) h dX9_steps_192 (by assumption) (by omega) ?_
        refine jr_icmp_ge (pc := 195) h 259 dX9_steps_195 (by decide) (by omega) (by omega) (fun c_195 => ?_) (fun c_195 => ?_)
        · skip
          refine jr_iload_n (pc := 259) h dX9_steps_259 rfl ?_
          refine jr_iret (pc := 260) h hRt dX9_steps_260 rfl (Nat.le_of_ble_eq_true rfl) (Nat.le_of_ble_eq_true rfl) ?_
          have eb9 : c_begun ct td (av_beg ct td g3 sp) (wj 0) = sumZ (fun i => if (av_beg ct td g3 sp) < c_get td 9 i 0 * 60 ∧ c_get td 9 i 0 * 60 < wj 0 then 1 else 0) i.toNat := by
            unfold c_begun
            rw [show (ct 9).toNat = i.toNat by omega]
          rw [eρ]
          refine ⟨⟨rfl, rfl⟩, _, hX, ?_, f1⟩
          have h9 := hRR9
          unfold bE at h9
          rw [eb9] at h9
          exact h9
        · skip
          have g9 := (a9 i.toNat (by omega)).1
          rw [show ((i.toNat : Nat) : Int) = i by omega] at g9
          have r90 := c_getr hrt 9 i 0
          refine jr_bipush (pc := 198) h dX9_steps_198 bp_60 ?_
          refine jr_aload_n (pc := 200) h dX9_steps_200 rfl ?_
          refine gf_X9_425 (pc := 201) h dX9_steps_201 (by assumption) (by omega) ?_
          refine gf_X9_386 (pc := 204) h dX9_steps_204 (by assumption) (by omega) ?_
          refine jr_iload (pc := 207) h dX9_steps_207 rfl ?_
          refine jr_iald (pc := 209) h dX9_steps_209 (by assumption) (by omega) (by omega) ?_
          refine jr_imul (pc := 210) h dX9_steps_210 ?_
          refine jr_iload_n (pc := 211) h dX9_steps_211 rfl ?_
          refine jr_icmp_le (pc := 212) h 253 dX9_steps_212 (by decide) (by omega) (by omega) (fun c_212 => ?_) (fun c_212 => ?_)
          · skip
            refine jr_iinc (pc := 253) h [_, _, _, _, _] dX9_steps_253 (by decide) rfl rfl ?_
            refine jr_goto (pc := 256) h 186 dX9_steps_256 (by decide) ?_
            have es : (up (up (rbX (st4 (B 3) ρ τ (av_beg ct td g3 sp)) ρ τ wj) (10 * ρ + 2) (wj 0)) 422 (g3 6 + sumZ (fun i => if (av_beg ct td g3 sp) < c_get td 9 i 0 * 60 ∧ c_get td 9 i 0 * 60 < wj 0 then 1 else 0) (i + 1).toNat)) = (up (up (rbX (st4 (B 3) ρ τ (av_beg ct td g3 sp)) ρ τ wj) (10 * ρ + 2) (wj 0)) 422 (g3 6 + (sumZ (fun i => if (av_beg ct td g3 sp) < c_get td 9 i 0 * 60 ∧ c_get td 9 i 0 * 60 < wj 0 then 1 else 0) i.toNat + (if (av_beg ct td g3 sp) < c_get td 9 i 0 * 60 ∧ c_get td 9 i 0 * 60 < wj 0 then 1 else 0)))) := by rw [sumZ_s (by omega)]
            refine ihb _ _ (by omega) ?_ hMF f1 (by omega)
            rw [es]
            first
            | (rw [if_pos ⟨by omega, by omega⟩, ← Int.add_assoc]; exact hX)
            | (rw [if_neg (by omega), Int.add_zero]; exact hX)
          · skip
            refine jr_bipush (pc := 215) h dX9_steps_215 bp_60 ?_
            refine jr_aload_n (pc := 217) h dX9_steps_217 rfl ?_
            refine gf_X9_425 (pc := 218) h dX9_steps_218 (by assumption) (by omega) ?_
            refine gf_X9_386 (pc := 221) h dX9_steps_221 (by assumption) (by omega) ?_
            refine jr_iload (pc := 224) h dX9_steps_224 rfl ?_
            refine jr_iald (pc := 226) h dX9_steps_226 (by assumption) (by omega) (by omega) ?_
            refine jr_imul (pc := 227) h dX9_steps_227 ?_
            refine jr_aload_n (pc := 228) h dX9_steps_228 rfl ?_
            refine gf_X9_21 (pc := 229) h dX9_steps_229 (by assumption) (by omega) ?_
            refine jr_sipush (pc := 232) h dX9_steps_232 sp_410 ?_
            refine jr_iload_n (pc := 235) h dX9_steps_235 rfl ?_
            refine jr_iadd (pc := 236) h dX9_steps_236 ?_
            refine jr_iald (pc := 237) h dX9_steps_237 hB3 (by omega) (by omega) ?_
            rw [show ((410 : Int) + (τ : Int)).toNat = 410 + τ by omega, up_ne (by omega), up_ne (by omega), (rbX_s (x := 0) hρ hτr).2]
            refine jr_icmp_ge (pc := 238) h 253 dX9_steps_238 (by decide) (by omega) (by omega) (fun c_238 => ?_) (fun c_238 => ?_)
            · skip
              refine jr_iinc (pc := 253) h [_, _, _, _, _] dX9_steps_253 (by decide) rfl rfl ?_
              refine jr_goto (pc := 256) h 186 dX9_steps_256 (by decide) ?_
              have es : (up (up (rbX (st4 (B 3) ρ τ (av_beg ct td g3 sp)) ρ τ wj) (10 * ρ + 2) (wj 0)) 422 (g3 6 + sumZ (fun i => if (av_beg ct td g3 sp) < c_get td 9 i 0 * 60 ∧ c_get td 9 i 0 * 60 < wj 0 then 1 else 0) (i + 1).toNat)) = (up (up (rbX (st4 (B 3) ρ τ (av_beg ct td g3 sp)) ρ τ wj) (10 * ρ + 2) (wj 0)) 422 (g3 6 + (sumZ (fun i => if (av_beg ct td g3 sp) < c_get td 9 i 0 * 60 ∧ c_get td 9 i 0 * 60 < wj 0 then 1 else 0) i.toNat + (if (av_beg ct td g3 sp) < c_get td 9 i 0 * 60 ∧ c_get td 9 i 0 * 60 < wj 0 then 1 else 0)))) := by rw [sumZ_s (by omega)]
              refine ihb _ _ (by omega) ?_ hMF f1 (by omega)
              rw [es]
              first
              | (rw [if_pos ⟨by omega, by omega⟩, ← Int.add_assoc]; exact hX)
              | (rw [if_neg (by omega), Int.add_zero]; exact hX)
            · skip
              refine jr_aload_n (pc := 241) h dX9_steps_241 rfl ?_
              refine gf_X9_21 (pc := 242) h dX9_steps_242 (by assumption) (by omega) ?_
              refine jr_sipush (pc := 245) h dX9_steps_245 sp_422 ?_
              refine jr_dup2 (pc := 248) h dX9_steps_248 rfl rfl ?_
              refine jr_iald (pc := 249) h (i := ((422 : Nat) : Int)) dX9_steps_249 hB3 (by omega) (by omega) ?_
              rw [show (((422 : Nat) : Int)).toNat = 422 from rfl, up_eq]
              refine jr_iconst (pc := 250) h dX9_steps_250 ?_
              refine jr_iadd (pc := 251) h dX9_steps_251 ?_
              refine jr_iast (pc := 252) h (i := ((422 : Nat) : Int)) dX9_steps_252 hB3 (by omega) (by omega) ?_
              refine jm_gen (fun M2 hM2 => ?_)
              rw [show (((422 : Nat) : Int)).toNat = 422 from rfl, up_up] at hM2
              have hX := MX_B (i := 3) hX hM2 (by omega)
              rw [up_up] at hX
              have f9 : fr (MXf m) _ M2 := fr_up (S := MXf m) hM2 ⟨by omega, by omega⟩
              have f1 := fr_tr f1 f9
              have hMF := MF_fr hMF f9 (Nat.le_refl _) (fun k h1 h2 q => by have := q.1; have := q.2; omega)
              obtain ⟨hnf, hOf, hAf⟩ := id hMF
              refine jr_iinc (pc := 253) h [_, _, _, _, _] dX9_steps_253 (by decide) rfl rfl ?_
              refine jr_goto (pc := 256) h 186 dX9_steps_256 (by decide) ?_
              have es : (up (up (rbX (st4 (B 3) ρ τ (av_beg ct td g3 sp)) ρ τ wj) (10 * ρ + 2) (wj 0)) 422 (g3 6 + sumZ (fun i => if (av_beg ct td g3 sp) < c_get td 9 i 0 * 60 ∧ c_get td 9 i 0 * 60 < wj 0 then 1 else 0) (i + 1).toNat)) = (up (up (rbX (st4 (B 3) ρ τ (av_beg ct td g3 sp)) ρ τ wj) (10 * ρ + 2) (wj 0)) 422 (g3 6 + (sumZ (fun i => if (av_beg ct td g3 sp) < c_get td 9 i 0 * 60 ∧ c_get td 9 i 0 * 60 < wj 0 then 1 else 0) i.toNat + (if (av_beg ct td g3 sp) < c_get td 9 i 0 * 60 ∧ c_get td 9 i 0 * 60 < wj 0 then 1 else 0)))) := by rw [sumZ_s (by omega)]
              refine ihb _ _ (by omega) ?_ hMF f1 (by omega)
              rw [es]
              first
              | (rw [if_pos ⟨by omega, by omega⟩, ← Int.add_assoc]; exact hX)
              | (rw [if_neg (by omega), Int.add_zero]; exact hX)
    have e0 : (up (up (rbX (st4 (B 3) ρ τ (av_beg ct td g3 sp)) ρ τ wj) (10 * ρ + 2) (wj 0)) 422 (g3 6 + sumZ (fun i => if (av_beg ct td g3 sp) < c_get td 9 i 0 * 60 ∧ c_get td 9 i 0 * 60 < wj 0 then 1 else 0) (0 : Int).toNat)) = (up (rbX (st4 (B 3) ρ τ (av_beg ct td g3 sp)) ρ τ wj) (10 * ρ + 2) (wj 0)) := by
      refine up_id ?_
      rw [up_ne (by omega), rbX_ne (by omega) (by omega) (by omega) (by omega) (by omega), st4_ne (by omega) (by omega) (by omega) (by omega) (by omega), h422]
      show _ = _ + 0
      omega
    exact bl _ _ _ (by omega) (by rw [e0]; exact hX) hMF f1 (Nat.lt_succ_self _)
  refine jr_aload_n (pc := 0) h dX9_steps_0 rfl ?_
  refine iv_X9_494 (pc := 1) h hl hR dX9_steps_1 ⟨(Nat.le_of_ble_eq_true rfl), (Nat.le_of_ble_eq_true rfl), (Nat.le_of_ble_eq_true rfl), (Nat.le_of_ble_eq_true rfl)⟩ (Nat.le_of_ble_eq_true rfl) (by assumption) (by omega) (s_X9_nextTrolley hX hMF hFM hsep hRR hRI) (fun v_1 n_1 M_1 hn_1 hp => ?_)
  obtain ⟨⟨rfl, rfl, rfl⟩, -⟩ := hp
  rw [eτ]
  refine jr_istore_n (pc := 4) h [_, _, _, _, _] dX9_steps_4 (by decide) rfl ?_
  refine jr_aload_n (pc := 5) h dX9_steps_5 rfl ?_
  refine jr_iload_n (pc := 6) h dX9_steps_6 rfl ?_
  refine iv_X9_497 (pc := 7) h hl hR dX9_steps_7 ⟨(Nat.le_of_ble_eq_true rfl), (Nat.le_of_ble_eq_true rfl), (Nat.le_of_ble_eq_true rfl), (Nat.le_of_ble_eq_true rfl)⟩ (Nat.le_of_ble_eq_true rfl) (by assumption) (by omega) (s_X9_nextRow hX hMF hFM hsep hRR hRI (by omega) hno) (fun v_7 n_7 M_7 hn_7 hp => ?_)
  obtain ⟨rfl, rfl, rfl⟩ := hp
  rw [eAR]
  refine jr_istore_n (pc := 10) h [_, _, _, _, _] dX9_steps_10 (by decide) rfl ?_
  refine jr_aload_n (pc := 11) h dX9_steps_11 rfl ?_
  refine gf_X9_21 (pc := 12) h dX9_steps_12 (by assumption) (by omega) ?_
  refine jr_sipush (pc := 15) h dX9_steps_15 sp_410 ?_
  refine jr_iload_n (pc := 18) h dX9_steps_18 rfl ?_
  refine jr_iadd (pc := 19) h dX9_steps_19 ?_
  refine jr_aload_n (pc := 20) h dX9_steps_20 rfl ?_
  refine jr_aload_n (pc := 21) h dX9_steps_21 rfl ?_
  refine gf_X9_21 (pc := 22) h dX9_steps_22 (by assumption) (by omega) ?_
  refine jr_sipush (pc := 25) h dX9_steps_25 sp_410 ?_
  refine jr_iload_n (pc := 28) h dX9_steps_28 rfl ?_
  refine jr_iadd (pc := 29) h dX9_steps_29 ?_
  refine jr_iald (pc := 30) h dX9_steps_30 hB3 (by omega) (by omega) ?_
  rw [show ((410 : Int) + (τ : Int)).toNat = 410 + τ by omega, hsc τ (by omega)]
  refine iv_X9_500 (pc := 31) h hl hR dX9_steps_31 ⟨(Nat.le_of_ble_eq_true rfl), (Nat.le_of_ble_eq_true rfl), (Nat.le_of_ble_eq_true rfl), (Nat.le_of_ble_eq_true rfl)⟩ (Nat.le_of_ble_eq_true rfl) (by assumption) (by omega) (s_X9_behindBelts hX hMF hFM hsep (by omega)) (fun v_31 n_31 M_31 hn_31 hp => ?_)
  obtain ⟨⟨rfl, rfl, rfl⟩, gr_31⟩ := hp
  refine jr_aload_n (pc := 34) h dX9_steps_34 rfl ?_
  refine gf_X9_21 (pc := 35) h dX9_steps_35 (by assumption) (by omega) ?_
  refine jr_sipush (pc := 38) h dX9_steps_38 sp_412 ?_
  refine jr_iload_n (pc := 41) h dX9_steps_41 rfl ?_
  refine jr_iadd (pc := 42) h dX9_steps_42 ?_
  refine jr_iald (pc := 43) h dX9_steps_43 hB3 (by omega) (by omega) ?_
  rw [show ((412 : Int) + (τ : Int)).toNat = 412 + τ by omega]
  have hw9r : -1 ≤ B 3 (412 + τ) ∧ B 3 (412 + τ) ≤ 100 := by
    rw [hwk τ hτ5]
    split <;> omega
  refine jr_if_le (pc := 44) h 57 dX9_steps_44 (by decide) (by omega) (fun c_44 => ?_) (fun c_44 => ?_)
  · skip
    skip
    refine jr_iconst (pc := 57) h dX9_steps_57 ?_
    have eb : c_bel ct td (sp τ) + 0 = (av_beg ct td g3 sp) := by
      unfold av_beg
      rw [eρ, eτ, Int.toNat_natCast]
      have hw9 := hwk τ hτ5
      by_cases qf : c_get td 5 (τ : Int) 0 = 0
      · rw [if_pos qf] at hw9 eAR ⊢
        rw [if_pos (by omega)]
      · rw [if_neg qf] at hw9 eAR ⊢
        rw [if_pos (by omega)]
    refine jr_iadd (pc := 58) h dX9_steps_58 ?_
    rw [eb]
    refine jr_iast (pc := 59) h dX9_steps_59 hB3 (by omega) (by omega) ?_
    refine jm_gen (fun M2 hM2 => ?_)
    rw [show ((410 : Int) + (τ : Int)).toNat = 410 + τ by omega] at hM2
    have hX := MX_B (i := 3) hX hM2 (by omega)
    have f9 : fr (MXf m) _ M2 := fr_up (S := MXf m) hM2 ⟨by omega, by omega⟩
    have f1 := fr_tr f1 f9
    have hMF := MF_fr hMF f9 (Nat.le_refl _) (fun k h1 h2 q => by have := q.1; have := q.2; omega)
    obtain ⟨hnf, hOf, hAf⟩ := id hMF
    obtain ⟨hnm, hOm, hBm⟩ := id hX
    have hOm : M2 m = jdO 9 (fX9 m _ _ (.ref f) rd) := hOm
    have hB3 : M2 (m + 3) = jdA 431 (up (B 3) (410 + τ) (av_beg ct td g3 sp)) := hBm 3 (by omega) (by omega)
    refine jr_aload_n (pc := 60) h dX9_steps_60 rfl ?_
    refine gf_X9_21 (pc := 61) h dX9_steps_61 (by assumption) (by omega) ?_
    refine jr_sipush (pc := 64) h dX9_steps_64 sp_410 ?_
    refine jr_iload_n (pc := 67) h dX9_steps_67 rfl ?_
    refine jr_iadd (pc := 68) h dX9_steps_68 ?_
    refine jr_iald (pc := 69) h dX9_steps_69 hB3 (by omega) (by omega) ?_
    rw [show ((410 : Int) + (τ : Int)).toNat = 410 + τ by omega, up_eq]
    refine jr_istore_n (pc := 70) h [_, _, _, _, _] dX9_steps_70 (by decide) rfl ?_
    refine jr_aload_n (pc := 71) h dX9_steps_71 rfl ?_
    refine gf_X9_21 (pc := 72) h dX9_steps_72 (by assumption) (by omega) ?_
    refine jr_bipush (pc := 75) h dX9_steps_75 bp_10 ?_
    refine jr_iload_n (pc := 77) h dX9_steps_77 rfl ?_
    refine jr_imul (pc := 78) h dX9_steps_78 ?_
    refine jr_iconst (pc := 79) h dX9_steps_79 ?_
    refine jr_iadd (pc := 80) h dX9_steps_80 ?_
    refine jr_iload_n (pc := 81) h dX9_steps_81 rfl ?_
    refine jr_iast (pc := 82) h dX9_steps_82 hB3 (by omega) (by omega) ?_
    refine jm_gen (fun M2 hM2 => ?_)
    rw [show ((10 : Int) * (ρ : Int) + 0).toNat = 10 * ρ by omega] at hM2
    have hX := MX_B (i := 3) hX hM2 (by omega)
    have f9 : fr (MXf m) _ M2 := fr_up (S := MXf m) hM2 ⟨by omega, by omega⟩
    have f1 := fr_tr f1 f9
    have hMF := MF_fr hMF f9 (Nat.le_refl _) (fun k h1 h2 q => by have := q.1; have := q.2; omega)
    obtain ⟨hnf, hOf, hAf⟩ := id hMF
    obtain ⟨hnm, hOm, hBm⟩ := id hX
    have hOm : M2 m = jdO 9 (fX9 m _ _ (.ref f) rd) := hOm
    have hB3 : M2 (m + 3) = jdA 431 (up (up (B 3) (410 + τ) (av_beg ct td g3 sp)) (10 * ρ) (τ : Int)) := hBm 3 (by omega) (by omega)
    refine jr_aload_n (pc := 83) h dX9_steps_83 rfl ?_
    refine gf_X9_21 (pc := 84) h dX9_steps_84 (by assumption) (by omega) ?_
    refine jr_bipush (pc := 87) h dX9_steps_87 bp_10 ?_
    refine jr_iload_n (pc := 89) h dX9_steps_89 rfl ?_
    refine jr_imul (pc := 90) h dX9_steps_90 ?_
    refine jr_iconst (pc := 91) h dX9_steps_91 ?_
    refine jr_iadd (pc := 92) h dX9_steps_92 ?_
    refine jr_iload_n (pc := 93) h dX9_steps_93 rfl ?_
    refine jr_iast (pc := 94) h dX9_steps_94 hB3 (by omega) (by omega) ?_
    refine jm_gen (fun M2 hM2 => ?_)
    rw [show ((10 : Int) * (ρ : Int) + 1).toNat = 10 * ρ + 1 by omega] at hM2
    have hX := MX_B (i := 3) hX hM2 (by omega)
    have f9 : fr (MXf m) _ M2 := fr_up (S := MXf m) hM2 ⟨by omega, by omega⟩
    have f1 := fr_tr f1 f9
    have hMF := MF_fr hMF f9 (Nat.le_refl _) (fun k h1 h2 q => by have := q.1; have := q.2; omega)
    obtain ⟨hnf, hOf, hAf⟩ := id hMF
    obtain ⟨hnm, hOm, hBm⟩ := id hX
    have hOm : M2 m = jdO 9 (fX9 m _ _ (.ref f) rd) := hOm
    have hB3 : M2 (m + 3) = jdA 431 (up (up (up (B 3) (410 + τ) (av_beg ct td g3 sp)) (10 * ρ) (τ : Int)) (10 * ρ + 1) (av_beg ct td g3 sp)) := hBm 3 (by omega) (by omega)
    refine jr_aload_n (pc := 95) h dX9_steps_95 rfl ?_
    refine gf_X9_21 (pc := 96) h dX9_steps_96 (by assumption) (by omega) ?_
    refine jr_sipush (pc := 99) h dX9_steps_99 sp_412 ?_
    refine jr_iload_n (pc := 102) h dX9_steps_102 rfl ?_
    refine jr_iadd (pc := 103) h dX9_steps_103 ?_
    refine jr_dup2 (pc := 104) h dX9_steps_104 rfl rfl ?_
    refine jr_iald (pc := 105) h dX9_steps_105 hB3 (by omega) (by omega) ?_
    rw [show ((412 : Int) + (τ : Int)).toNat = 412 + τ by omega, up_ne (by omega), up_ne (by omega), up_ne (by omega)]
    refine jr_iconst (pc := 106) h dX9_steps_106 ?_
    refine jr_iadd (pc := 107) h dX9_steps_107 ?_
    refine jr_iast (pc := 108) h dX9_steps_108 hB3 (by omega) (by omega) ?_
    refine jm_gen (fun M2 hM2 => ?_)
    rw [show ((412 : Int) + (τ : Int)).toNat = 412 + τ by omega] at hM2
    have hX := MX_B (i := 3) hX hM2 (by omega)
    have f9 : fr (MXf m) _ M2 := fr_up (S := MXf m) hM2 ⟨by omega, by omega⟩
    have f1 := fr_tr f1 f9
    have hMF := MF_fr hMF f9 (Nat.le_refl _) (fun k h1 h2 q => by have := q.1; have := q.2; omega)
    obtain ⟨hnf, hOf, hAf⟩ := id hMF
    obtain ⟨hnm, hOm, hBm⟩ := id hX
    have hOm : M2 m = jdO 9 (fX9 m _ _ (.ref f) rd) := hOm
    have hB3 : M2 (m + 3) = jdA 431 (up (up (up (up (B 3) (410 + τ) (av_beg ct td g3 sp)) (10 * ρ) (τ : Int)) (10 * ρ + 1) (av_beg ct td g3 sp)) (412 + τ) (B 3 (412 + τ) + 1)) := hBm 3 (by omega) (by omega)
    refine jr_aload_n (pc := 109) h dX9_steps_109 rfl ?_
    refine gf_X9_21 (pc := 110) h dX9_steps_110 (by assumption) (by omega) ?_
    refine jr_sipush (pc := 113) h dX9_steps_113 sp_430 ?_
    refine jr_dup2 (pc := 116) h dX9_steps_116 rfl rfl ?_
    refine jr_iald (pc := 117) h (i := ((430 : Nat) : Int)) dX9_steps_117 hB3 (by omega) (by omega) ?_
    refine jr_iconst (pc := 118) h dX9_steps_118 ?_
    refine jr_iadd (pc := 119) h dX9_steps_119 ?_
    rw [show (up (up (up (up (B 3) (410 + τ) (av_beg ct td g3 sp)) (10 * ρ) (τ : Int)) (10 * ρ + 1) (av_beg ct td g3 sp)) (412 + τ) (B 3 (412 + τ) + 1)) ((430 : Nat) : Int).toNat = B 3 430 by rw [show (((430 : Nat) : Int)).toNat = 430 from rfl, up_ne (by omega), up_ne (by omega), up_ne (by omega), up_ne (by omega)]]
    refine jr_iast (pc := 120) h (i := ((430 : Nat) : Int)) dX9_steps_120 hB3 (by omega) (by omega) ?_
    refine jm_gen (fun M2 hM2 => ?_)
    rw [show (((430 : Nat) : Int)).toNat = 430 from rfl] at hM2
    have hX := MX_B (i := 3) hX hM2 (by omega)
    have f9 : fr (MXf m) _ M2 := fr_up (S := MXf m) hM2 ⟨by omega, by omega⟩
    have f1 := fr_tr f1 f9
    have hMF := MF_fr hMF f9 (Nat.le_refl _) (fun k h1 h2 q => by have := q.1; have := q.2; omega)
    obtain ⟨hnf, hOf, hAf⟩ := id hMF
    rw [up_up, up_up, up_up, up_up] at hX
    replace hX : MX M2 n m g wd (.ref f) rd (up B 3 (st4 (B 3) ρ τ (av_beg ct td g3 sp))) := hX
    have eself : rbX (st4 (B 3) ρ τ (av_beg ct td g3 sp)) ρ τ (w_ini (av_beg ct td g3 sp) sk τ (g3 7) go) = (st4 (B 3) ρ τ (av_beg ct td g3 sp)) := by
      obtain ⟨-, -, q3, q4, q5, q6⟩ := hrw ρ (by omega) (by omega)
      refine rbX_self (fun i hi => ?_) (fun k hk => ?_) ?_ (fun k hk => ?_) ?_ (fun i hi => ?_)
      · rw [st4_ne (by omega) (by omega) (by omega) (by omega) (by omega)]
        have : (w_ini (av_beg ct td g3 sp) sk τ (g3 7) go) (1 + i) = 0 := by
          unfold w_ini
          rw [if_neg (by omega), if_pos (by omega)]
        rw [this]
        match i, hi with
        | 0, _ => exact q3.trans (zf 3 (by omega))
        | 1, _ => exact q4.trans (zf 4 (by omega))
        | 2, _ => exact q5.trans (zf 5 (by omega))
      · rw [st4_ne (by omega) (by omega) (by omega) (by omega) (by omega), q6 k hk]
        have : (w_ini (av_beg ct td g3 sp) sk τ (g3 7) go) (5 + k) = 0 := by
          unfold w_ini
          rw [if_neg (by omega), if_pos (by omega)]
        rw [this]
        have z9 := zf (7 + k) (by omega)
        rw [← Nat.add_assoc] at z9
        exact z9
      · unfold st4
        rw [up_ne (by omega), up_ne (by omega), up_ne (by omega), up_ne (by omega), up_eq]
        rfl
      · rw [st4_ne (by omega) (by omega) (by omega) (by omega) (by omega)]
        have h9 := hsk9 (4 * τ + k) (by omega)
        rw [← Nat.add_assoc] at h9
        rw [h9]
        unfold w_ini
        rw [if_neg (by omega), if_neg (by omega), if_pos (by omega), show 9 + k - 9 = k by omega]
      · rw [st4_ne (by omega) (by omega) (by omega) (by omega) (by omega), h429]
        rfl
      · rw [st4_ne (by omega) (by omega) (by omega) (by omega) (by omega), hgt i hi]
        unfold w_ini
        rw [if_neg (by omega), if_neg (by omega), if_neg (by omega), if_neg (by omega), show 14 + i - 14 = i by omega]
    have hX : MX M2 n m g wd (.ref f) rd (up B 3 (rbX (st4 (B 3) ρ τ (av_beg ct td g3 sp)) ρ τ (w_ini (av_beg ct td g3 sp) sk τ (g3 7) go))) := by rw [eself]; exact hX
    have hB0 : WB (w_ini (av_beg ct td g3 sp) sk τ (g3 7) go) (av_beg ct td g3 sp) := w_ini_B (by omega) hkr hzr
    have hZ0 : WZ ct (w_ini (av_beg ct td g3 sp) sk τ (g3 7) go) := fun k a b => by
      unfold w_ini
      rw [if_neg (by omega), if_neg (by omega), if_pos (by omega), show 9 + k - 9 = k by omega]
      exact hz1 τ k (by omega) b a
    have kk : ∀ i : Int, 0 ≤ i → i < ((ct 8).toNat : Int) → 0 ≤ c_get td 8 i 1 ∧ c_get td 8 i 1 < ct 2 := fun i a b => by
      have h9 := ((hLI 8 i (by omega) a (by omega)).2.2.2.2.2.2.2.2.1 rfl).2.2.1
      have := c_getr hrt 8 i 1
      omega
    have kk3 : ∀ i : Int, 0 ≤ i → i < ((ct 8).toNat : Int) → 0 ≤ c_get td 8 i 1 ∧ c_get td 8 i 1 ≤ 3 := fun i a b => by have := kk i a b; omega
    obtain ⟨hnm, hOm, hBm⟩ := id hX
    have hOm : M2 m = jdO 9 (fX9 m _ _ (.ref f) rd) := hOm
    refine jr_aload_n (pc := 121) h dX9_steps_121 rfl ?_
    refine jr_iload_n (pc := 122) h dX9_steps_122 rfl ?_
    refine jr_iload_n (pc := 123) h dX9_steps_123 rfl ?_
    refine jr_iconst (pc := 124) h dX9_steps_124 ?_
    refine iv_X9_503 (pc := 125) h hl hR dX9_steps_125 ⟨(Nat.le_of_ble_eq_true rfl), (Nat.le_of_ble_eq_true rfl), (Nat.le_of_ble_eq_true rfl), (Nat.le_of_ble_eq_true rfl)⟩ (Nat.le_of_ble_eq_true rfl) (by assumption) (by omega) (s_X9_servesNamed hX hMF hFM hsep hρ hτr hB0 (by omega) (c := 1) (by omega)) (fun v_125 n_125 M_125 hn_125 hp => ?_)
    obtain ⟨⟨rfl, rfl⟩, hX, f9⟩ := hp
    have f1 := fr_tr f1 f9
    have hMF := MF_fr hMF f9 (Nat.le_refl _) (fun k h1 h2 q => by have := q.1; have := q.2; omega)
    obtain ⟨hnf, hOf, hAf⟩ := id hMF
    obtain ⟨hnm, hOm, hBm⟩ := id hX
    have hOm : M_125 m = jdO 9 (fX9 m _ _ (.ref f) rd) := hOm
    have hB1 : WB (nmW ct td ρ 1 (w_ini (av_beg ct td g3 sp) sk τ (g3 7) go)) _ := nmF_B (ct := ct) (ρ := ρ) (c := 1) hB0 hrt kk3
    have hZ1 : WZ ct (nmW ct td ρ 1 (w_ini (av_beg ct td g3 sp) sk τ (g3 7) go)) := WZ_nmF hZ0 l2.2 kk
    refine jr_aload_n (pc := 128) h dX9_steps_128 rfl ?_
    refine jr_iload_n (pc := 129) h dX9_steps_129 rfl ?_
    refine jr_iload_n (pc := 130) h dX9_steps_130 rfl ?_
    refine jr_iconst (pc := 131) h dX9_steps_131 ?_
    refine iv_X9_503 (pc := 132) h hl hR dX9_steps_132 ⟨(Nat.le_of_ble_eq_true rfl), (Nat.le_of_ble_eq_true rfl), (Nat.le_of_ble_eq_true rfl), (Nat.le_of_ble_eq_true rfl)⟩ (Nat.le_of_ble_eq_true rfl) (by assumption) (by omega) (s_X9_servesNamed hX hMF hFM hsep hρ hτr hB1 (by omega) (c := 0) (by omega)) (fun v_132 n_132 M_132 hn_132 hp => ?_)
    obtain ⟨⟨rfl, rfl⟩, hX, f9⟩ := hp
    have f1 := fr_tr f1 f9
    have hMF := MF_fr hMF f9 (Nat.le_refl _) (fun k h1 h2 q => by have := q.1; have := q.2; omega)
    obtain ⟨hnf, hOf, hAf⟩ := id hMF
    obtain ⟨hnm, hOm, hBm⟩ := id hX
    have hOm : M_132 m = jdO 9 (fX9 m _ _ (.ref f) rd) := hOm
    have hB2 : WB (nmW ct td ρ 0 (nmW ct td ρ 1 (w_ini (av_beg ct td g3 sp) sk τ (g3 7) go))) _ := nmF_B (ct := ct) (ρ := ρ) (c := 0) hB1 hrt kk3
    have hZ2 : WZ ct (nmW ct td ρ 0 (nmW ct td ρ 1 (w_ini (av_beg ct td g3 sp) sk τ (g3 7) go))) := WZ_nmF hZ1 l2.2 kk
    refine jr_aload_n (pc := 135) h dX9_steps_135 rfl ?_
    refine gf_X9_425 (pc := 136) h dX9_steps_136 (by assumption) (by omega) ?_
    refine jr_iload_n (pc := 139) h dX9_steps_139 rfl ?_
    refine iv_X9_507 (pc := 140) h hl hR dX9_steps_140 ⟨(Nat.le_of_ble_eq_true rfl), (Nat.le_of_ble_eq_true rfl), (Nat.le_of_ble_eq_true rfl), (Nat.le_of_ble_eq_true rfl)⟩ (Nat.le_of_ble_eq_true rfl) (by assumption) (by omega) (s_X8_othersIn hMF hFM (by omega)) (fun v_140 n_140 M_140 hn_140 hp => ?_)
    obtain ⟨⟨rfl, rfl, rfl⟩, gr_140⟩ := hp
    refine jr_istore (pc := 143) h [_, _, _, _, _] dX9_steps_143 (by decide) rfl ?_
    have others : ∀ (dqo : Nat) (k : Int) (M1 : jdM) (wj : Nat → Int), (0 ≤ k ∧ k ≤ (c_unn ct td si (ρ : Int))) → (MX M1 n m g wd (.ref f) rd (up B 3 (rbX (st4 (B 3) ρ τ (av_beg ct td g3 sp)) ρ τ wj))) → (MF M1 n f gf A) → (fr (MXf m) M M1) → (WB wj (((av_beg ct td g3 sp) + 999 * (ct 8).toNat + 999 * (ct 8).toNat) + 999 * ((c_unn ct td si (ρ : Int)) - k))) → (WZ ct wj) → (wj = foldS (ot1 ct td bk ρ) (nmW ct td ρ 0 (nmW ct td ρ 1 (w_ini (av_beg ct td g3 sp) sk τ (g3 7) go))) ((c_unn ct td si (ρ : Int)) - k).toNat) → (k).toNat < dqo → J κ 5 0 0 n 145 [some (.ref m), some (jI (τ : Int)), some (jI (ρ : Int)), some (jI (av_beg ct td g3 sp)), some (jI k)] [] M1 := by
      intro dqo
      induction dqo with
      | zero => intro k M1 wj hk9 hX hMF f1 hWj hZj hwj hd; omega
      | succ dqo iho =>
        intro k M1 wj hk9 hX hMF f1 hWj hZj hwj hd
        obtain ⟨hnf, hOf, hAf⟩ := id hMF
        obtain ⟨hnm, hOm, hBm⟩ := id hX
        have hOm : M1 m = jdO 9 (fX9 m _ _ (.ref f) rd) := hOm
        refine jr_iload (pc := 145) h dX9_steps_145 rfl ?_
        refine jr_if_le (pc := 147) h 162 dX9_steps_147 (by decide) (by omega) (fun c_147 => ?_) (fun c_147 => ?_)
        · skip
          have e9 : av_w ct td bk si g3 sp sk go = wj := by
            unfold av_w otW
            rw [eρ, eτ, Int.toNat_natCast, Int.toNat_natCast, hwj]
            congr 1
            omega
          rw [e9] at hRR9
          have hk0 : k = 0 := by omega
          subst hk0
          exact K162 _ _ hX hMF f1 (WB_mo hWj (by omega)) hRR9
        · skip
          refine jr_aload_n (pc := 150) h dX9_steps_150 rfl ?_
          refine jr_iload_n (pc := 151) h dX9_steps_151 rfl ?_
          refine jr_iload_n (pc := 152) h dX9_steps_152 rfl ?_
          refine iv_X9_510 (pc := 153) h hl hR dX9_steps_153 ⟨(Nat.le_of_ble_eq_true rfl), (Nat.le_of_ble_eq_true rfl), (Nat.le_of_ble_eq_true rfl), (Nat.le_of_ble_eq_true rfl)⟩ (Nat.le_of_ble_eq_true rfl) (by assumption) (by omega) (s_X9_servesOther hX hMF hFM hsep hρ hτr (hbl9 _ (by omega) (by omega) (by omega)) hWj (by omega) hZj (hlk9 _) (i9 := (c_unn ct td si (ρ : Int)) - k)) (fun v_153 n_153 M_153 hn_153 hp => ?_)
          obtain ⟨⟨rfl, rfl⟩, hX, f9⟩ := hp
          have f1 := fr_tr f1 f9
          have hMF := MF_fr hMF f9 (Nat.le_refl _) (fun k h1 h2 q => by have := q.1; have := q.2; omega)
          obtain ⟨hnf, hOf, hAf⟩ := id hMF
          refine jr_iinc (pc := 156) h [_, _, _, _, _] dX9_steps_156 (by decide) rfl rfl ?_
          refine jr_goto (pc := 159) h 145 dX9_steps_159 (by decide) ?_
          have en : ((c_unn ct td si (ρ : Int)) - (k + -1)).toNat = ((c_unn ct td si (ρ : Int)) - k + 1).toNat := by omega
          refine iho _ _ _ (by omega) hX hMF f1 ?_ ?_ ?_ (by omega)
          · exact WB_mo (ot1_B hWj (fun v => by have := hlk9 (ρ : Int) v; omega) hrt) (by omega)
          · exact WZ_ot hZj (fun j hj => (hWj.2.1 j hj).1) ⟨hc2, l2.2⟩ (hlk9 _)
          · rw [en, foldS_s (by omega), ← hwj]
    exact others _ _ _ _ (by omega) hX hMF f1 (WB_mo hB2 (by omega)) hZ2 (by rw [Int.sub_self]; rfl) (Nat.lt_succ_self _)
  · skip
    skip
    refine jr_aload_n (pc := 47) h dX9_steps_47 rfl ?_
    refine gf_X9_425 (pc := 48) h dX9_steps_48 (by assumption) (by omega) ?_
    refine gf_X9_263 (pc := 51) h dX9_steps_51 (by assumption) (by omega) ?_
    refine jr_goto (pc := 54) h 58 dX9_steps_54 (by decide) ?_
    have eb : c_bel ct td (sp τ) + gf 1 = (av_beg ct td g3 sp) := by
      unfold av_beg
      rw [eρ, eτ, Int.toNat_natCast]
      have hw9 := hwk τ hτ5
      by_cases qf : c_get td 5 (τ : Int) 0 = 0
      · rw [if_pos qf] at hw9 eAR ⊢
        rw [if_neg (by omega), e1]
      · rw [if_neg qf] at hw9 eAR ⊢
        rw [if_neg (by omega), e1]
    refine jr_iadd (pc := 58) h dX9_steps_58 ?_
    rw [eb]
    refine jr_iast (pc := 59) h dX9_steps_59 hB3 (by omega) (by omega) ?_
    refine jm_gen (fun M2 hM2 => ?_)
    rw [show ((410 : Int) + (τ : Int)).toNat = 410 + τ by omega] at hM2
    have hX := MX_B (i := 3) hX hM2 (by omega)
    have f9 : fr (MXf m) _ M2 := fr_up (S := MXf m) hM2 ⟨by omega, by omega⟩
    have f1 := fr_tr f1 f9
    have hMF := MF_fr hMF f9 (Nat.le_refl _) (fun k h1 h2 q => by have := q.1; have := q.2; omega)
    obtain ⟨hnf, hOf, hAf⟩ := id hMF
    obtain ⟨hnm, hOm, hBm⟩ := id hX
    have hOm : M2 m = jdO 9 (fX9 m _ _ (.ref f) rd) := hOm
    have hB3 : M2 (m + 3) = jdA 431 (up (B 3) (410 + τ) (av_beg ct td g3 sp)) := hBm 3 (by omega) (by omega)
    refine jr_aload_n (pc := 60) h dX9_steps_60 rfl ?_
    refine gf_X9_21 (pc := 61) h dX9_steps_61 (by assumption) (by omega) ?_
    refine jr_sipush (pc := 64) h dX9_steps_64 sp_410 ?_
    refine jr_iload_n (pc := 67) h dX9_steps_67 rfl ?_
    refine jr_iadd (pc := 68) h dX9_steps_68 ?_
    refine jr_iald (pc := 69) h dX9_steps_69 hB3 (by omega) (by omega) ?_
    rw [show ((410 : Int) + (τ : Int)).toNat = 410 + τ by omega, up_eq]
    refine jr_istore_n (pc := 70) h [_, _, _, _, _] dX9_steps_70 (by decide) rfl ?_
    refine jr_aload_n (pc := 71) h dX9_steps_71 rfl ?_
    refine gf_X9_21 (pc := 72) h dX9_steps_72 (by assumption) (by omega) ?_
    refine jr_bipush (pc := 75) h dX9_steps_75 bp_10 ?_
    refine jr_iload_n (pc := 77) h dX9_steps_77 rfl ?_
    refine jr_imul (pc := 78) h dX9_steps_78 ?_
    refine jr_iconst (pc := 79) h dX9_steps_79 ?_
    refine jr_iadd (pc := 80) h dX9_steps_80 ?_
    refine jr_iload_n (pc := 81) h dX9_steps_81 rfl ?_
    refine jr_iast (pc := 82) h dX9_steps_82 hB3 (by omega) (by omega) ?_
    refine jm_gen (fun M2 hM2 => ?_)
    rw [show ((10 : Int) * (ρ : Int) + 0).toNat = 10 * ρ by omega] at hM2
    have hX := MX_B (i := 3) hX hM2 (by omega)
    have f9 : fr (MXf m) _ M2 := fr_up (S := MXf m) hM2 ⟨by omega, by omega⟩
    have f1 := fr_tr f1 f9
    have hMF := MF_fr hMF f9 (Nat.le_refl _) (fun k h1 h2 q => by have := q.1; have := q.2; omega)
    obtain ⟨hnf, hOf, hAf⟩ := id hMF
    obtain ⟨hnm, hOm, hBm⟩ := id hX
    have hOm : M2 m = jdO 9 (fX9 m _ _ (.ref f) rd) := hOm
    have hB3 : M2 (m + 3) = jdA 431 (up (up (B 3) (410 + τ) (av_beg ct td g3 sp)) (10 * ρ) (τ : Int)) := hBm 3 (by omega) (by omega)
    refine jr_aload_n (pc := 83) h dX9_steps_83 rfl ?_
    refine gf_X9_21 (pc := 84) h dX9_steps_84 (by assumption) (by omega) ?_
    refine jr_bipush (pc := 87) h dX9_steps_87 bp_10 ?_
    refine jr_iload_n (pc := 89) h dX9_steps_89 rfl ?_
    refine jr_imul (pc := 90) h dX9_steps_90 ?_
    refine jr_iconst (pc := 91) h dX9_steps_91 ?_
    refine jr_iadd (pc := 92) h dX9_steps_92 ?_
    refine jr_iload_n (pc := 93) h dX9_steps_93 rfl ?_
    refine jr_iast (pc := 94) h dX9_steps_94 hB3 (by omega) (by omega) ?_
    refine jm_gen (fun M2 hM2 => ?_)
    rw [show ((10 : Int) * (ρ : Int) + 1).toNat = 10 * ρ + 1 by omega] at hM2
    have hX := MX_B (i := 3) hX hM2 (by omega)
    have f9 : fr (MXf m) _ M2 := fr_up (S := MXf m) hM2 ⟨by omega, by omega⟩
    have f1 := fr_tr f1 f9
    have hMF := MF_fr hMF f9 (Nat.le_refl _) (fun k h1 h2 q => by have := q.1; have := q.2; omega)
    obtain ⟨hnf, hOf, hAf⟩ := id hMF
    obtain ⟨hnm, hOm, hBm⟩ := id hX
    have hOm : M2 m = jdO 9 (fX9 m _ _ (.ref f) rd) := hOm
    have hB3 : M2 (m + 3) = jdA 431 (up (up (up (B 3) (410 + τ) (av_beg ct td g3 sp)) (10 * ρ) (τ : Int)) (10 * ρ + 1) (av_beg ct td g3 sp)) := hBm 3 (by omega) (by omega)
    refine jr_aload_n (pc := 95) h dX9_steps_95 rfl ?_
    refine gf_X9_21 (pc := 96) h dX9_steps_96 (by assumption) (by omega) ?_
    refine jr_sipush (pc := 99) h dX9_steps_99 sp_412 ?_
    refine jr_iload_n (pc := 102) h dX9_steps_102 rfl ?_
    refine jr_iadd (pc := 103) h dX9_steps_103 ?_
    refine jr_dup2 (pc := 104) h dX9_steps_104 rfl rfl ?_
    refine jr_iald (pc := 105) h dX9_steps_105 hB3 (by omega) (by omega) ?_
    rw [show ((412 : Int) + (τ : Int)).toNat = 412 + τ by omega, up_ne (by omega), up_ne (by omega), up_ne (by omega)]
    refine jr_iconst (pc := 106) h dX9_steps_106 ?_
    refine jr_iadd (pc := 107) h dX9_steps_107 ?_
    refine jr_iast (pc := 108) h dX9_steps_108 hB3 (by omega) (by omega) ?_
    refine jm_gen (fun M2 hM2 => ?_)
    rw [show ((412 : Int) + (τ : Int)).toNat = 412 + τ by omega] at hM2
    have hX := MX_B (i := 3) hX hM2 (by omega)
    have f9 : fr (MXf m) _ M2 := fr_up (S := MXf m) hM2 ⟨by omega, by omega⟩
    have f1 := fr_tr f1 f9
    have hMF := MF_fr hMF f9 (Nat.le_refl _) (fun k h1 h2 q => by have := q.1; have := q.2; omega)
    obtain ⟨hnf, hOf, hAf⟩ := id hMF
    obtain ⟨hnm, hOm, hBm⟩ := id hX
    have hOm : M2 m = jdO 9 (fX9 m _ _ (.ref f) rd) := hOm
    have hB3 : M2 (m + 3) = jdA 431 (up (up (up (up (B 3) (410 + τ) (av_beg ct td g3 sp)) (10 * ρ) (τ : Int)) (10 * ρ + 1) (av_beg ct td g3 sp)) (412 + τ) (B 3 (412 + τ) + 1)) := hBm 3 (by omega) (by omega)
    refine jr_aload_n (pc := 109) h dX9_steps_109 rfl ?_
    refine gf_X9_21 (pc := 110) h dX9_steps_110 (by assumption) (by omega) ?_
    refine jr_sipush (pc := 113) h dX9_steps_113 sp_430 ?_
    refine jr_dup2 (pc := 116) h dX9_steps_116 rfl rfl ?_
    refine jr_iald (pc := 117) h (i := ((430 : Nat) : Int)) dX9_steps_117 hB3 (by omega) (by omega) ?_
    refine jr_iconst (pc := 118) h dX9_steps_118 ?_
    refine jr_iadd (pc := 119) h dX9_steps_119 ?_
    rw [show (up (up (up (up (B 3) (410 + τ) (av_beg ct td g3 sp)) (10 * ρ) (τ : Int)) (10 * ρ + 1) (av_beg ct td g3 sp)) (412 + τ) (B 3 (412 + τ) + 1)) ((430 : Nat) : Int).toNat = B 3 430 by rw [show (((430 : Nat) : Int)).toNat = 430 from rfl, up_ne (by omega), up_ne (by omega), up_ne (by omega), up_ne (by omega)]]
    refine jr_iast (pc := 120) h (i := ((430 : Nat) : Int)) dX9_steps_120 hB3 (by omega) (by omega) ?_
    refine jm_gen (fun M2 hM2 => ?_)
    rw [show (((430 : Nat) : Int)).toNat = 430 from rfl] at hM2
    have hX := MX_B (i := 3) hX hM2 (by omega)
    have f9 : fr (MXf m) _ M2 := fr_up (S := MXf m) hM2 ⟨by omega, by omega⟩
    have f1 := fr_tr f1 f9
    have hMF := MF_fr hMF f9 (Nat.le_refl _) (fun k h1 h2 q => by have := q.1; have := q.2; omega)
    obtain ⟨hnf, hOf, hAf⟩ := id hMF
    rw [up_up, up_up, up_up, up_up] at hX
    replace hX : MX M2 n m g wd (.ref f) rd (up B 3 (st4 (B 3) ρ τ (av_beg ct td g3 sp))) := hX
    have eself : rbX (st4 (B 3) ρ τ (av_beg ct td g3 sp)) ρ τ (w_ini (av_beg ct td g3 sp) sk τ (g3 7) go) = (st4 (B 3) ρ τ (av_beg ct td g3 sp)) := by
      obtain ⟨-, -, q3, q4, q5, q6⟩ := hrw ρ (by omega) (by omega)
      refine rbX_self (fun i hi => ?_) (fun k hk => ?_) ?_ (fun k hk => ?_) ?_ (fun i hi => ?_)
      · rw [st4_ne (by omega) (by omega) (by omega) (by omega) (by omega)]
        have : (w_ini (av_beg ct td g3 sp) sk τ (g3 7) go) (1 + i) = 0 := by
          unfold w_ini
          rw [if_neg (by omega), if_pos (by omega)]
        rw [this]
        match i, hi with
        | 0, _ => exact q3.trans (zf 3 (by omega))
        | 1, _ => exact q4.trans (zf 4 (by omega))
        | 2, _ => exact q5.trans (zf 5 (by omega))
      · rw [st4_ne (by omega) (by omega) (by omega) (by omega) (by omega), q6 k hk]
        have : (w_ini (av_beg ct td g3 sp) sk τ (g3 7) go) (5 + k) = 0 := by
          unfold w_ini
          rw [if_neg (by omega), if_pos (by omega)]
        rw [this]
        have z9 := zf (7 + k) (by omega)
        rw [← Nat.add_assoc] at z9
        exact z9
      · unfold st4
        rw [up_ne (by omega), up_ne (by omega), up_ne (by omega), up_ne (by omega), up_eq]
        rfl
      · rw [st4_ne (by omega) (by omega) (by omega) (by omega) (by omega)]
        have h9 := hsk9 (4 * τ + k) (by omega)
        rw [← Nat.add_assoc] at h9
        rw [h9]
        unfold w_ini
        rw [if_neg (by omega), if_neg (by omega), if_pos (by omega), show 9 + k - 9 = k by omega]
      · rw [st4_ne (by omega) (by omega) (by omega) (by omega) (by omega), h429]
        rfl
      · rw [st4_ne (by omega) (by omega) (by omega) (by omega) (by omega), hgt i hi]
        unfold w_ini
        rw [if_neg (by omega), if_neg (by omega), if_neg (by omega), if_neg (by omega), show 14 + i - 14 = i by omega]
    have hX : MX M2 n m g wd (.ref f) rd (up B 3 (rbX (st4 (B 3) ρ τ (av_beg ct td g3 sp)) ρ τ (w_ini (av_beg ct td g3 sp) sk τ (g3 7) go))) := by rw [eself]; exact hX
    have hB0 : WB (w_ini (av_beg ct td g3 sp) sk τ (g3 7) go) (av_beg ct td g3 sp) := w_ini_B (by omega) hkr hzr
    have hZ0 : WZ ct (w_ini (av_beg ct td g3 sp) sk τ (g3 7) go) := fun k a b => by
      unfold w_ini
      rw [if_neg (by omega), if_neg (by omega), if_pos (by omega), show 9 + k - 9 = k by omega]
      exact hz1 τ k (by omega) b a
    have kk : ∀ i : Int, 0 ≤ i → i < ((ct 8).toNat : Int) → 0 ≤ c_get td 8 i 1 ∧ c_get td 8 i 1 < ct 2 := fun i a b => by
      have h9 := ((hLI 8 i (by omega) a (by omega)).2.2.2.2.2.2.2.2.1 rfl).2.2.1
      have := c_getr hrt 8 i 1
      omega
    have kk3 : ∀ i : Int, 0 ≤ i → i < ((ct 8).toNat : Int) → 0 ≤ c_get td 8 i 1 ∧ c_get td 8 i 1 ≤ 3 := fun i a b => by have := kk i a b; omega
    obtain ⟨hnm, hOm, hBm⟩ := id hX
    have hOm : M2 m = jdO 9 (fX9 m _ _ (.ref f) rd) := hOm
    refine jr_aload_n (pc := 121) h dX9_steps_121 rfl ?_
    refine jr_iload_n (pc := 122) h dX9_steps_122 rfl ?_
    refine jr_iload_n (pc := 123) h dX9_steps_123 rfl ?_
    refine jr_iconst (pc := 124) h dX9_steps_124 ?_
    refine iv_X9_503 (pc := 125) h hl hR dX9_steps_125 ⟨(Nat.le_of_ble_eq_true rfl), (Nat.le_of_ble_eq_true rfl), (Nat.le_of_ble_eq_true rfl), (Nat.le_of_ble_eq_true rfl)⟩ (Nat.le_of_ble_eq_true rfl) (by assumption) (by omega) (s_X9_servesNamed hX hMF hFM hsep hρ hτr hB0 (by omega) (c := 1) (by omega)) (fun v_125 n_125 M_125 hn_125 hp => ?_)
    obtain ⟨⟨rfl, rfl⟩, hX, f9⟩ := hp
    have f1 := fr_tr f1 f9
    have hMF := MF_fr hMF f9 (Nat.le_refl _) (fun k h1 h2 q => by have := q.1; have := q.2; omega)
    obtain ⟨hnf, hOf, hAf⟩ := id hMF
    obtain ⟨hnm, hOm, hBm⟩ := id hX
    have hOm : M_125 m = jdO 9 (fX9 m _ _ (.ref f) rd) := hOm
    have hB1 : WB (nmW ct td ρ 1 (w_ini (av_beg ct td g3 sp) sk τ (g3 7) go)) _ := nmF_B (ct := ct) (ρ := ρ) (c := 1) hB0 hrt kk3
    have hZ1 : WZ ct (nmW ct td ρ 1 (w_ini (av_beg ct td g3 sp) sk τ (g3 7) go)) := WZ_nmF hZ0 l2.2 kk
    refine jr_aload_n (pc := 128) h dX9_steps_128 rfl ?_
    refine jr_iload_n (pc := 129) h dX9_steps_129 rfl ?_
    refine jr_iload_n (pc := 130) h dX9_steps_130 rfl ?_
    refine jr_iconst (pc := 131) h dX9_steps_131 ?_
    refine iv_X9_503 (pc := 132) h hl hR dX9_steps_132 ⟨(Nat.le_of_ble_eq_true rfl), (Nat.le_of_ble_eq_true rfl), (Nat.le_of_ble_eq_true rfl), (Nat.le_of_ble_eq_true rfl)⟩ (Nat.le_of_ble_eq_true rfl) (by assumption) (by omega) (s_X9_servesNamed hX hMF hFM hsep hρ hτr hB1 (by omega) (c := 0) (by omega)) (fun v_132 n_132 M_132 hn_132 hp => ?_)
    obtain ⟨⟨rfl, rfl⟩, hX, f9⟩ := hp
    have f1 := fr_tr f1 f9
    have hMF := MF_fr hMF f9 (Nat.le_refl _) (fun k h1 h2 q => by have := q.1; have := q.2; omega)
    obtain ⟨hnf, hOf, hAf⟩ := id hMF
    obtain ⟨hnm, hOm, hBm⟩ := id hX
    have hOm : M_132 m = jdO 9 (fX9 m _ _ (.ref f) rd) := hOm
    have hB2 : WB (nmW ct td ρ 0 (nmW ct td ρ 1 (w_ini (av_beg ct td g3 sp) sk τ (g3 7) go))) _ := nmF_B (ct := ct) (ρ := ρ) (c := 0) hB1 hrt kk3
    have hZ2 : WZ ct (nmW ct td ρ 0 (nmW ct td ρ 1 (w_ini (av_beg ct td g3 sp) sk τ (g3 7) go))) := WZ_nmF hZ1 l2.2 kk
    refine jr_aload_n (pc := 135) h dX9_steps_135 rfl ?_
    refine gf_X9_425 (pc := 136) h dX9_steps_136 (by assumption) (by omega) ?_
    refine jr_iload_n (pc := 139) h dX9_steps_139 rfl ?_
    refine iv_X9_507 (pc := 140) h hl hR dX9_steps_140 ⟨(Nat.le_of_ble_eq_true rfl), (Nat.le_of_ble_eq_true rfl), (Nat.le_of_ble_eq_true rfl), (Nat.le_of_ble_eq_true rfl)⟩ (Nat.le_of_ble_eq_true rfl) (by assumption) (by omega) (s_X8_othersIn hMF hFM (by omega)) (fun v_140 n_140 M_140 hn_140 hp => ?_)
    obtain ⟨⟨rfl, rfl, rfl⟩, gr_140⟩ := hp
    refine jr_istore (pc := 143) h [_, _, _, _, _] dX9_steps_143 (by decide) rfl ?_
    have others : ∀ (dqo : Nat) (k : Int) (M1 : jdM) (wj : Nat → Int), (0 ≤ k ∧ k ≤ (c_unn ct td si (ρ : Int))) → (MX M1 n m g wd (.ref f) rd (up B 3 (rbX (st4 (B 3) ρ τ (av_beg ct td g3 sp)) ρ τ wj))) → (MF M1 n f gf A) → (fr (MXf m) M M1) → (WB wj (((av_beg ct td g3 sp) + 999 * (ct 8).toNat + 999 * (ct 8).toNat) + 999 * ((c_unn ct td si (ρ : Int)) - k))) → (WZ ct wj) → (wj = foldS (ot1 ct td bk ρ) (nmW ct td ρ 0 (nmW ct td ρ 1 (w_ini (av_beg ct td g3 sp) sk τ (g3 7) go))) ((c_unn ct td si (ρ : Int)) - k).toNat) → (k).toNat < dqo → J κ 5 0 0 n 145 [some (.ref m), some (jI (τ : Int)), some (jI (ρ : Int)), some (jI (av_beg ct td g3 sp)), some (jI k)] [] M1 := by
      intro dqo
      induction dqo with
      | zero => intro k M1 wj hk9 hX hMF f1 hWj hZj hwj hd; omega
      | succ dqo iho =>
        intro k M1 wj hk9 hX hMF f1 hWj hZj hwj hd
        obtain ⟨hnf, hOf, hAf⟩ := id hMF
        obtain ⟨hnm, hOm, hBm⟩ := id hX
        have hOm : M1 m = jdO 9 (fX9 m _ _ (.ref f) rd) := hOm
        refine jr_iload (pc := 145) h dX9_steps_145 rfl ?_
        refine jr_if_le (pc := 147) h 162 dX9_steps_147 (by decide) (by omega) (fun c_147 => ?_) (fun c_147 => ?_)
        · skip
          have e9 : av_w ct td bk si g3 sp sk go = wj := by
            unfold av_w otW
            rw [eρ, eτ, Int.toNat_natCast, Int.toNat_natCast, hwj]
            congr 1
            omega
          rw [e9] at hRR9
          have hk0 : k = 0 := by omega
          subst hk0
          exact K162 _ _ hX hMF f1 (WB_mo hWj (by omega)) hRR9
        · skip
          refine jr_aload_n (pc := 150) h dX9_steps_150 rfl ?_
          refine jr_iload_n (pc := 151) h dX9_steps_151 rfl ?_
          refine jr_iload_n (pc := 152) h dX9_steps_152 rfl ?_
          refine iv_X9_510 (pc := 153) h hl hR dX9_steps_153 ⟨(Nat.le_of_ble_eq_true rfl), (Nat.le_of_ble_eq_true rfl), (Nat.le_of_ble_eq_true rfl), (Nat.le_of_ble_eq_true rfl)⟩ (Nat.le_of_ble_eq_true rfl) (by assumption) (by omega) (s_X9_servesOther hX hMF hFM hsep hρ hτr (hbl9 _ (by omega) (by omega) (by omega)) hWj (by omega) hZj (hlk9 _) (i9 := (c_unn ct td si (ρ : Int)) - k)) (fun v_153 n_153 M_153 hn_153 hp => ?_)
          obtain ⟨⟨rfl, rfl⟩, hX, f9⟩ := hp
          have f1 := fr_tr f1 f9
          have hMF := MF_fr hMF f9 (Nat.le_refl _) (fun k h1 h2 q => by have := q.1; have := q.2; omega)
          obtain ⟨hnf, hOf, hAf⟩ := id hMF
          refine jr_iinc (pc := 156) h [_, _, _, _, _] dX9_steps_156 (by decide) rfl rfl ?_
          refine jr_goto (pc := 159) h 145 dX9_steps_159 (by decide) ?_
          have en : ((c_unn ct td si (ρ : Int)) - (k + -1)).toNat = ((c_unn ct td si (ρ : Int)) - k + 1).toNat := by omega
          refine iho _ _ _ (by omega) hX hMF f1 ?_ ?_ ?_ (by omega)
          · exact WB_mo (ot1_B hWj (fun v => by have := hlk9 (ρ : Int) v; omega) hrt) (by omega)
          · exact WZ_ot hZj (fun j hj => (hWj.2.1 j hj).1) ⟨hc2, l2.2⟩ (hlk9 _)
          · rw [en, foldS_s (by omega), ← hwj]
    exact others _ _ _ _ (by omega) hX hMF f1 (WB_mo hB2 (by omega)) hZ2 (by rw [Int.sub_self]; rfl) (Nat.lt_succ_self _)
