/-! 98.o: what the calls ask, and what they leave, in numbers -/
theorem t4_0 : T4 0 := ⟨by decide, by decide, by decide⟩
theorem t4_1 : T4 1 := ⟨by decide, by decide, by decide⟩
theorem t4_2 : T4 2 := ⟨by decide, by decide, by decide⟩
theorem t4_3 : T4 3 := ⟨by decide, by decide, by decide⟩
theorem t4_5 : T4 5 := ⟨by decide, by decide, by decide⟩
theorem t4_6 : T4 6 := ⟨by decide, by decide, by decide⟩
theorem t4_sits {ct td si : Nat → Int} {a : Int} : T4 (x_sits ct td si a).2 := by
  unfold x_sits
  (repeat' split) <;> first | exact t4_0 | exact t4_1 | exact t4_2 | exact t4_3 | exact t4_5 | exact t4_6
theorem t4_all {ct td si : Nat → Int} : T4 (x_all ct td si).2 := by
  unfold x_all
  (repeat' split) <;> first | exact t4_0 | exact t4_1 | exact t4_2 | exact t4_3 | exact t4_5 | exact t4_6
theorem t4_likes {ct td bk : Nat → Int} {a b : Int} : T4 (x_likes ct td bk a b).2 := by
  unfold x_likes
  (repeat' split) <;> first | exact t4_0 | exact t4_1 | exact t4_2 | exact t4_3 | exact t4_5 | exact t4_6
theorem t4_loaded {ct ld : Nat → Int} {a b : Int} : T4 (x_loaded ct ld a b).2 := by
  unfold x_loaded
  (repeat' split) <;> first | exact t4_0 | exact t4_1 | exact t4_2 | exact t4_3 | exact t4_5 | exact t4_6
theorem t4_fits {ct td ld : Nat → Int} {a : Int} : T4 (x_fits ct td ld a).2 := by
  unfold x_fits
  (repeat' split) <;> first | exact t4_0 | exact t4_1 | exact t4_2 | exact t4_3 | exact t4_5 | exact t4_6
theorem t4_seconds {ct sp : Nat → Int} {a : Int} : T4 (x_seconds ct sp a).2 := by
  unfold x_seconds
  (repeat' split) <;> first | exact t4_0 | exact t4_1 | exact t4_2 | exact t4_3 | exact t4_5 | exact t4_6
theorem t4_left {ct sk : Nat → Int} {a b : Int} : T4 (x_left ct sk a b).2 := by
  unfold x_left
  (repeat' split) <;> first | exact t4_0 | exact t4_1 | exact t4_2 | exact t4_3 | exact t4_5 | exact t4_6
theorem t4_served {ct td g3 fa : Nat → Int} {a b : Int} : T4 (x_served ct td g3 fa a b).2 := by
  unfold x_served
  (repeat' split) <;> first | exact t4_0 | exact t4_1 | exact t4_2 | exact t4_3 | exact t4_5 | exact t4_6
theorem t4_trays {ct td g3 fa : Nat → Int} {a b : Int} : T4 (x_trays ct td g3 fa a b).2 := by
  unfold x_trays
  (repeat' split) <;> first | exact t4_0 | exact t4_1 | exact t4_2 | exact t4_3 | exact t4_5 | exact t4_6
theorem t4_got {ct td g3 go : Nat → Int} {a : Int} : T4 (x_got ct td g3 go a).2 := by
  unfold x_got
  (repeat' split) <;> first | exact t4_0 | exact t4_1 | exact t4_2 | exact t4_3 | exact t4_5 | exact t4_6
theorem t4_sum {ct td g3 fa : Nat → Int} {a : Int} : T4 (x_sum ct td g3 fa a).2 := by
  unfold x_sum
  (repeat' split) <;> first | exact t4_0 | exact t4_1 | exact t4_2 | exact t4_3 | exact t4_5 | exact t4_6
theorem t4_heat {ct td : Nat → Int} {a b : Int} : T4 (x_heat ct td a b).2 := by
  unfold x_heat
  (repeat' split) <;> first | exact t4_0 | exact t4_1 | exact t4_2 | exact t4_3 | exact t4_5 | exact t4_6
theorem t4_cold {ct td : Nat → Int} {a b : Int} : T4 (x_cold ct td a b).2 := by
  unfold x_cold
  (repeat' split) <;> first | exact t4_0 | exact t4_1 | exact t4_2 | exact t4_3 | exact t4_5 | exact t4_6
theorem t4_meets {ct td si : Nat → Int} {a : Int} : T4 (x_meets ct td si a).2 := by
  unfold x_meets
  (repeat' split) <;> first | exact t4_0 | exact t4_1 | exact t4_2 | exact t4_3 | exact t4_5 | exact t4_6
theorem t4_soonest {ct td si : Nat → Int} : T4 (x_soonest ct td si).2 := by
  unfold x_soonest
  (repeat' split) <;> first | exact t4_0 | exact t4_1 | exact t4_2 | exact t4_3 | exact t4_5 | exact t4_6
theorem t4_lacking {ct td si ld : Nat → Int} {a : Int} : T4 (x_lacking ct td si ld a).2 := by
  unfold x_lacking
  (repeat' split) <;> first | exact t4_0 | exact t4_1 | exact t4_2 | exact t4_3 | exact t4_5 | exact t4_6
theorem t4_fairest {ct td si ld : Nat → Int} : T4 (x_fairest ct td si ld).2 := by
  unfold x_fairest
  (repeat' split) <;> first | exact t4_0 | exact t4_1 | exact t4_2 | exact t4_3 | exact t4_5 | exact t4_6
theorem t4_met {ct td g3 : Nat → Int} : T4 (x_met ct td g3).2 := by
  unfold x_met
  (repeat' split) <;> first | exact t4_0 | exact t4_1 | exact t4_2 | exact t4_3 | exact t4_5 | exact t4_6
theorem t4_out {ct td bk si : Nat → Int} {a b m : Int} : T4 (x_out ct td bk si a b m).2 := by
  unfold x_out
  (repeat' split) <;> first | exact t4_0 | exact t4_1 | exact t4_2 | exact t4_3 | exact t4_5 | exact t4_6
theorem t4_ways {ct td bk si : Nat → Int} {a : Int} : T4 (x_ways ct td bk si a).2 := by
  unfold x_ways
  (repeat' split) <;> first | exact t4_0 | exact t4_1 | exact t4_2 | exact t4_3 | exact t4_5 | exact t4_6
theorem t4_enough {ct td bk si : Nat → Int} {a b m : Int} : T4 (x_enough ct td bk si a b m).2 := by
  unfold x_enough
  (repeat' split) <;> first | exact t4_0 | exact t4_1 | exact t4_2 | exact t4_3 | exact t4_5 | exact t4_6
theorem t4_load {ct td si : Nat → Int} {a b : Int} : T4 (x_load ct td si a b).2 := by
  unfold x_load
  (repeat' split) <;> first | exact t4_0 | exact t4_1 | exact t4_2 | exact t4_3 | exact t4_5 | exact t4_6
theorem t4_spare {ct td si ld : Nat → Int} {a : Int} : T4 (x_spare ct td si ld a).2 := by
  unfold x_spare
  (repeat' split) <;> first | exact t4_0 | exact t4_1 | exact t4_2 | exact t4_3 | exact t4_5 | exact t4_6
theorem t4_unl {ct td ld : Nat → Int} : T4 (x_unl ct td ld).2 := by
  unfold x_unl
  (repeat' split) <;> first | exact t4_0 | exact t4_1 | exact t4_2 | exact t4_3 | exact t4_5 | exact t4_6
theorem t4_waits {ct td g3 fa : Nat → Int} {a : Int} : T4 (x_waits ct td g3 fa a).2 := by
  unfold x_waits
  (repeat' split) <;> first | exact t4_0 | exact t4_1 | exact t4_2 | exact t4_3 | exact t4_5 | exact t4_6
theorem t4_on {ct td g3 fa : Nat → Int} {a b : Int} : T4 (x_on ct td g3 fa a b).2 := by
  unfold x_on
  (repeat' split) <;> first | exact t4_0 | exact t4_1 | exact t4_2 | exact t4_3 | exact t4_5 | exact t4_6
theorem t4_clear {ct td fa : Nat → Int} {a : Int} : T4 (x_clear ct td fa a).2 := by
  unfold x_clear
  (repeat' split) <;> first | exact t4_0 | exact t4_1 | exact t4_2 | exact t4_3 | exact t4_5 | exact t4_6
theorem t4_room {ct td fa : Nat → Int} {a b : Int} : T4 (x_room ct td fa a b).2 := by
  unfold x_room
  (repeat' split) <;> first | exact t4_0 | exact t4_1 | exact t4_2 | exact t4_3 | exact t4_5 | exact t4_6
theorem t4_fewest {ct td : Nat → Int} {a y z u v : Int} : T4 (x_fewest ct td a y z u v).2 := by
  unfold x_fewest
  (repeat' split) <;> first | exact t4_0 | exact t4_1 | exact t4_2 | exact t4_3 | exact t4_5 | exact t4_6
theorem t4_given {tr : Nat → Int} {a : Int} : T4 (x_given tr a).2 := by
  unfold x_given
  (repeat' split) <;> first | exact t4_0 | exact t4_1 | exact t4_2 | exact t4_3 | exact t4_5 | exact t4_6
theorem t4_change {tk : Nat → Int} {a : Int} : T4 (x_change tk a).2 := by
  unfold x_change
  (repeat' split) <;> first | exact t4_0 | exact t4_1 | exact t4_2 | exact t4_3 | exact t4_5 | exact t4_6
theorem t4_ystart {ct td ld : Nat → Int} {a : Int} {R : FS} : T4 (y_start ct td ld R a).2.1 := by
  unfold y_start
  (repeat' split) <;> first | exact t4_0 | exact t4_1 | exact t4_2 | exact t4_3 | exact t4_5 | exact t4_6
theorem t4_ystep {ct td bk si : Nat → Int} {R : FS} : T4 (y_step ct td bk si R).2.1 := by
  unfold y_step
  (repeat' split) <;> first | exact t4_0 | exact t4_1 | exact t4_2 | exact t4_3 | exact t4_5 | exact t4_6
theorem t4_yfinish {ct td bk si : Nat → Int} {R : FS} : T4 (y_finish ct td bk si R).2.1 := by
  unfold y_finish
  (repeat' split) <;> first | exact t4_0 | exact t4_1 | exact t4_2 | exact t4_3 | exact t4_5 | exact t4_6
theorem t4_yback {g : Nat → Int} {a : Int} {R : FS} {mk : Nat → FS} : T4 (y_back g mk R a).2.1 := by
  unfold y_back
  (repeat' split) <;> first | exact t4_0 | exact t4_1 | exact t4_2 | exact t4_3 | exact t4_5 | exact t4_6
theorem t4_ytill {tg tk tr : Nat → Int} {a b : Int} : T4 (y_till tg tk tr a b).2.1 := by
  unfold y_till
  (repeat' split) <;> first | exact t4_0 | exact t4_1 | exact t4_2 | exact t4_3 | exact t4_5 | exact t4_6
theorem t4_ysell {ct td tg tk tr : Nat → Int} {a b : Int} : T4 (y_sell ct td tg tk tr a b).2.1 := by
  unfold y_sell
  (repeat' split) <;> first | exact t4_0 | exact t4_1 | exact t4_2 | exact t4_3 | exact t4_5 | exact t4_6
theorem z900 : (0 : Int) ≤ 0 ∧ (0 : Int) ≤ 900 := ⟨by decide, by decide⟩
theorem z4 : (0 : Int) ≤ 0 ∧ (0 : Int) ≤ 4 := ⟨by decide, by decide⟩
theorem z100 : (0 : Int) ≤ 0 ∧ (0 : Int) ≤ 100 := ⟨by decide, by decide⟩
theorem z4100 : (0 : Int) ≤ 4 ∧ (4 : Int) ≤ 100 := ⟨by decide, by decide⟩
theorem IV_h45 {g bs : Nat → Int} {p : TS} {ct td bk si ld : Nat → Int} {D : FS} {g3 sp sk fa go : Nat → Int} {mk : Nat → FS} {tg tk tr g' : Nat → Int} {w : Int} {B : Nat → Nat → Int} (hI : IV g bs p (ct, td, bk, si, ld) D (g3, sp, sk, fa, go) mk tg tk tr g' w B) : (0 ≤ g3 4 ∧ g3 4 ≤ 1000) ∧ -1 ≤ g3 5 ∧ g3 5 ≤ 1000 := by
  obtain ⟨-, -, -, -, -, ⟨-, ⟨⟨i1, i2, i3⟩, -⟩, -⟩, -, -, ⟨-, hr, -⟩⟩ := hI
  replace i1 : 1 ≤ g3 4 := i1
  replace i2 : g3 4 ≤ g3 5 + 1 := i2
  replace i3 : g3 5 ≤ c_rows ct td := i3
  replace hr : 0 ≤ c_rows ct td ∧ c_rows ct td ≤ 40 := hr
  omega
theorem IV_f0 {g bs : Nat → Int} {p : TS} {ct td bk si ld : Nat → Int} {D : FS} {g3 sp sk fa go : Nat → Int} {mk : Nat → FS} {tg tk tr g' : Nat → Int} {w : Int} {B : Nat → Nat → Int} (hI : IV g bs p (ct, td, bk, si, ld) D (g3, sp, sk, fa, go) mk tg tk tr g' w B) (a b : Int) : 0 ≤ c_fact fa a b ∧ c_fact fa a b ≤ 5000000 := by
  obtain ⟨-, -, -, -, -, ⟨-, ⟨-, -, -, -, -, hf, -⟩, -⟩, -⟩ := hI
  unfold c_fact
  split
  · exact hf _
  · omega
theorem IV_fa {g bs : Nat → Int} {p : TS} {ct td bk si ld : Nat → Int} {D : FS} {g3 sp sk fa go : Nat → Int} {mk : Nat → FS} {tg tk tr g' : Nat → Int} {w : Int} {B : Nat → Nat → Int} (hI : IV g bs p (ct, td, bk, si, ld) D (g3, sp, sk, fa, go) mk tg tk tr g' w B) (a b : Int) : -100000000 ≤ c_fact fa a b ∧ c_fact fa a b ≤ 100000000 := by
  have := IV_f0 hI a b
  omega
theorem IV_f7 {g bs : Nat → Int} {p : TS} {ct td bk si ld : Nat → Int} {D : FS} {g3 sp sk fa go : Nat → Int} {mk : Nat → FS} {tg tk tr g' : Nat → Int} {w : Int} {B : Nat → Nat → Int} (hI : IV g bs p (ct, td, bk, si, ld) D (g3, sp, sk, fa, go) mk tg tk tr g' w B) (i k : Int) (h1 : 1 ≤ i) (h2 : i ≤ 40) (h3 : 0 ≤ k) (h4 : k < 4) : 0 ≤ c_fact fa i (7 + k) ∧ c_fact fa i (7 + k) ≤ 1000 := by
  have hR := hI.2.2.2.2.2.1.2.1
  have := cf_b (x := i) (y := 7 + k) hR (by omega)
  replace this : 0 ≤ c_fact fa i (7 + k) ∧ c_fact fa i (7 + k) ≤ 21 := this
  omega
theorem IV_lv {g bs : Nat → Int} {p : TS} {ct td bk si ld : Nat → Int} {D : FS} {g3 sp sk fa go : Nat → Int} {mk : Nat → FS} {tg tk tr g' : Nat → Int} {w : Int} {B : Nat → Nat → Int} (hI : IV g bs p (ct, td, bk, si, ld) D (g3, sp, sk, fa, go) mk tg tk tr g' w B) (a : Int) : 0 ≤ c_lv ct td g3 fa a := by
  unfold c_lv
  split
  · exact (IV_f0 hI _ _).1
  · exact (IV_f0 hI _ _).1
theorem IV_tk {g bs : Nat → Int} {p : TS} {ct td bk si ld : Nat → Int} {D : FS} {g3 sp sk fa go : Nat → Int} {mk : Nat → FS} {tg tk tr g' : Nat → Int} {w : Int} {B : Nat → Nat → Int} (hI : IV g bs p (ct, td, bk, si, ld) D (g3, sp, sk, fa, go) mk tg tk tr g' w B) (j : Nat) : 0 ≤ tk j ∧ tk j ≤ 100000 := by
  have := hI.2.2.2.1.2.2 j
  omega
theorem IV_tr {g bs : Nat → Int} {p : TS} {ct td bk si ld : Nat → Int} {D : FS} {g3 sp sk fa go : Nat → Int} {mk : Nat → FS} {tg tk tr g' : Nat → Int} {w : Int} {B : Nat → Nat → Int} (hI : IV g bs p (ct, td, bk, si, ld) D (g3, sp, sk, fa, go) mk tg tk tr g' w B) (r k : Int) (h1 : 1 ≤ r) (h2 : r ≤ c_rows ct td) (h3 : 0 ≤ k) (h4 : k < ct 2) : B 3 (10 * r + 6 + k).toNat = c_fact fa r (7 + k) ∧ 0 ≤ c_fact fa r (7 + k) ∧ c_fact fa r (7 + k) ≤ 1000 := by
  have hR := hI.2.2.2.2.2.1.1
  have hr : 0 ≤ c_rows ct td ∧ c_rows ct td ≤ 40 := hI.2.2.2.2.2.2.2.2.2.1
  have hc : 0 ≤ ct 2 ∧ ct 2 ≤ 4 := hI.2.2.2.2.2.2.2.2.2.2.1
  exact ⟨RR_t hR hr.2 ⟨h1, h2⟩ ⟨h3, by omega⟩, IV_f7 hI r k h1 (by omega) h3 (by omega)⟩
theorem IV_0 {g bs : Nat → Int} {p : TS} {F D R : FS} {mk : Nat → FS} {tg tk tr g' : Nat → Int} {w : Int} {B : Nat → Nat → Int} {t : Int} (hI : IV g bs p F D R mk tg tk tr g' w B) : IV g bs p F D R mk tg tk tr (up g' 0 t) w B := by
  obtain ⟨⟨a1, a2, a3, a4, a5, a6, a7, a8, a9, a10, a11⟩, b, c, d, e, f, k, l, q⟩ := hI
  exact ⟨⟨a1, a2, a3, a4, a5, a6, a7, a8, a9, a10, a11⟩, b, c, d, e, f, k, l, q⟩
theorem wrB_c {b c : Nat → Int} {a x e : Int} (h : ∀ j, j < 900 → b j = c j) : ∀ j, j < 900 → wrB b a x e j = wrB c a x e j := by
  intro j hj
  unfold wrB
  split
  · rfl
  · exact h j hj
theorem IV_feed {g bs : Nat → Int} {p : TS} {F D R : FS} {mk : Nat → FS} {tg tk tr g' : Nat → Int} {w : Int} {B : Nat → Nat → Int} (hI : IV g bs p F D R mk tg tk tr g' w B) {x y z u v : Int} : (if 900 < g' 6 + 20 then -1 else g' 6 + 20) = (y_feed g bs x y z u v).1 ∧ IV (y_feed g bs x y z u v).2.1 (y_feed g bs x y z u v).2.2 p F D R mk tg tk tr (if 900 < g' 6 + 20 then up g' 0 0 else up (up g' 0 0) 6 (g' 6 + 20)) w (if 900 < g' 6 + 20 then B else up B 1 (fdS (B 1) (g' 6) x y z u v 20)) := by
  have a6 : g' 6 = g 1 := hI.1.2.2.2.2.2.1
  by_cases q : 900 < g 1 + 20
  · have e : y_feed g bs x y z u v = (-1, g, bs) := by unfold y_feed; rw [if_pos q]
    rw [e, a6, if_pos q, if_pos q, if_pos q]
    exact ⟨rfl, IV_0 hI⟩
  · have e : y_feed g bs x y z u v = (g 1 + 20, up g 1 (g 1 + 20), wrB (wrB (wrB (wrB (wrB bs (g 1) x 4) (g 1 + 4) y 4) (g 1 + 8) z 4) (g 1 + 12) u 4) (g 1 + 16) v 4) := by unfold y_feed; rw [if_neg q]
    rw [e, a6, if_neg q, if_neg q, if_neg q]
    obtain ⟨⟨a1, a2, a3, a4, a5, a6, a7, a8, a9, a10, a11⟩, ⟨b1, b2⟩, c, d, e, f, k, l, q9⟩ := hI
    refine ⟨rfl, ⟨?_, a2, a3, a4, a5, rfl, a7, a8, a9, a10, a11⟩, ⟨?_, wrB_b (wrB_b (wrB_b (wrB_b (wrB_b b2))))⟩, c, d, e, f, k, l, q9⟩
    · show 0 ≤ g 1 + 20 ∧ g 1 + 20 ≤ 900
      omega
    · rw [up_eq, fdS_20]
      exact wrB_c (wrB_c (wrB_c (wrB_c (wrB_c b1))))
theorem IV_mark {g bs : Nat → Int} {p : TS} {F D R : FS} {mk : Nat → FS} {tg tk tr g' : Nat → Int} {w : Int} {B : Nat → Nat → Int} (hI : IV g bs p F D R mk tg tk tr g' w B) {b4 : Nat → Int} (h1 : 0 < c_rows F.1 F.2.1 ∧ g' 19 < 4 → (∀ j : Nat, j < 431 → b4 (431 * (g' 19).toNat + j) = B 3 j) ∧ ∀ j : Nat, j < 431 * (g' 19).toNat → b4 j = B 4 j) (h2 : ¬ (0 < c_rows F.1 F.2.1 ∧ g' 19 < 4) → b4 = B 4) : (z_mark F.1 F.2.1 (g' 19)).1 = (y_mark F.1 F.2.1 g mk R).1 ∧ IV (y_mark F.1 F.2.1 g mk R).2.1 bs p F D R (y_mark F.1 F.2.1 g mk R).2.2 tg tk tr (if 0 < c_rows F.1 F.2.1 ∧ g' 19 < 4 then gmk g' else rg g' (z_mark F.1 F.2.1 (g' 19)).2) w (up B 4 b4) := by
  have a8 : g' 19 = g 6 := hI.1.2.2.2.2.2.2.2.1
  have a2 : 0 ≤ g 6 ∧ g 6 ≤ 4 := hI.1.2.1
  rw [a8] at h1 h2 ⊢
  by_cases q : 0 < c_rows F.1 F.2.1 ∧ g 6 < 4
  · have e : y_mark F.1 F.2.1 g mk R = (g 6, up (up g 6 (g 6 + 1)) 10 0, up mk (g 6).toNat (cpR (mk (g 6).toNat) R)) := by unfold y_mark; rw [if_pos q.1, if_neg (by omega)]
    have e2 : z_mark F.1 F.2.1 (g 6) = (g 6, 0) := by unfold z_mark; rw [if_pos q.1, if_neg (by omega)]
    rw [e, e2, if_pos q]
    dsimp only
    obtain ⟨p1, p2⟩ := h1 q
    obtain ⟨⟨a1, -, a3, a4, a5, a6, a7, -, a9, a10, a11⟩, b, c, d, e9, ⟨f1, f2, f3⟩, ⟨k1, k2⟩, l, q9⟩ := hI
    have hr := q9.2.1
    have h5 := q9.2.2.2.2.2.2.2
    have hc := RO_cp (k2 (g 6).toNat (by omega)) hr f2 f3 f1
    refine ⟨rfl, ⟨a1, ?_, z100, rfl, rfl, a6, a7, ?_, a9, a10, a11⟩, b, c, d, e9, ⟨f1, f2, f3⟩, ⟨fun i hi => ?_, fun i hi => ?_⟩, fun z => ?_, q9⟩
    · show 0 ≤ g 6 + 1 ∧ g 6 + 1 ≤ 4
      omega
    · show g' 19 + 1 = g 6 + 1
      omega
    · replace hi : (i : Int) < g 6 + 1 := hi
      rw [up_eq]
      by_cases qi : i = (g 6).toNat
      · subst qi
        rw [up_eq]
        exact ⟨RRel_b hc.2.2 hr.2 h5.2 p1, hc.1, hc.2.1⟩
      · rw [up_ne qi]
        obtain ⟨m1, m2, m3⟩ := k1 i (by omega)
        exact ⟨RRel_b m1 hr.2 h5.2 (fun j hj => p2 _ (by omega)), m2, m3⟩
    · by_cases qi : i = (g 6).toNat
      · subst qi
        rw [up_eq]
        exact ⟨F.1, F.2.1, hc.1, hr⟩
      · rw [up_ne qi]
        exact k2 i hi
    · have := rows0 (td := F.2.1) z
      omega
  · have eb := h2 q
    have e : ∃ t, T4 t ∧ y_mark F.1 F.2.1 g mk R = (-1, up g 10 t, mk) ∧ z_mark F.1 F.2.1 (g 6) = (-1, t) := by
      unfold y_mark z_mark
      by_cases q1 : 0 < c_rows F.1 F.2.1
      · have q2 : 4 ≤ g 6 := by omega
        exact ⟨3, t4_3, by rw [if_pos q1, if_pos q2], by rw [if_pos q1, if_pos q2]⟩
      · exact ⟨1, t4_1, by rw [if_neg q1], by rw [if_neg q1]⟩
    obtain ⟨t, ht, e1, e2⟩ := e
    rw [e1, e2, if_neg q, eb, up_id rfl]
    exact ⟨rfl, IV_q hI ht⟩
theorem IV_back {g bs : Nat → Int} {p : TS} {F D R : FS} {mk : Nat → FS} {tg tk tr g' : Nat → Int} {w : Int} {B : Nat → Nat → Int} (hI : IV g bs p F D R mk tg tk tr g' w B) {x : Int} {b' : Nat → Int} (h1 : 0 ≤ x ∧ x < g' 19 → ∀ j : Nat, j < 431 → b' j = B 4 (431 * x.toNat + j)) (h2 : ¬ (0 ≤ x ∧ x < g' 19) → b' = B 3) : (if 0 ≤ x ∧ x < g' 19 then 1 else 0) = (y_back g mk R x).1 ∧ IV (up g 10 (y_back g mk R x).2.1) bs p F D (y_back g mk R x).2.2 mk tg tk tr (rg g' (if 0 ≤ x ∧ x < g' 19 then 0 else 1)) w (up B 3 b') := by
  have a8 : g' 19 = g 6 := hI.1.2.2.2.2.2.2.2.1
  have a2 : 0 ≤ g 6 ∧ g 6 ≤ 4 := hI.1.2.1
  rw [a8] at h1 h2 ⊢
  by_cases q : 0 ≤ x ∧ x < g 6
  · have e : y_back g mk R x = (1, 0, cpR R (mk x.toNat)) := by unfold y_back; rw [if_pos q]
    rw [e, if_pos q, if_pos q]
    have hr := hI.2.2.2.2.2.2.2.2.2.1
    have h5 := hI.2.2.2.2.2.2.2.2.2.2.2.2.2.2.2
    obtain ⟨m1, m2, m3⟩ := hI.2.2.2.2.2.2.1.1 x.toNat (by omega)
    have hRO : RO R := ⟨F.1, F.2.1, hI.2.2.2.2.2.1.2.1, hr⟩
    obtain ⟨c1, c2, c3⟩ := RO_cp hRO hr m2 m3 m1
    refine ⟨rfl, IV_q (IV_R hI (RRel_b c3 hr.2 h5.2 (h1 q)) c1 c2 (fun z => ?_)) t4_0⟩
    have := (hI.2.2.2.2.2.2.2.1 z).1
    omega
  · have e : y_back g mk R x = (0, 1, R) := by unfold y_back; rw [if_neg q]
    rw [e, if_neg q, if_neg q, h2 q, up_id rfl]
    exact ⟨rfl, IV_q hI t4_1⟩
theorem IV_till {g bs : Nat → Int} {p : TS} {F D R : FS} {mk : Nat → FS} {tg tk tr g' : Nat → Int} {w : Int} {B : Nat → Nat → Int} (hI : IV g bs p F D R mk tg tk tr g' w B) {x y : Int} : (if (coinI x ≠ -1 ∧ 0 ≤ y ∧ y ≤ 99) then 1 else 0) = (y_till tg tk tr x y).1 ∧ IV (up g 10 (y_till tg tk tr x y).2.1) bs p F D R mk (y_till tg tk tr x y).2.2.1 (y_till tg tk tr x y).2.2.2.1 (y_till tg tk tr x y).2.2.2.2 (rg g' (if (coinI x ≠ -1 ∧ 0 ≤ y ∧ y ≤ 99) then 0 else 2)) w (if (coinI x ≠ -1 ∧ 0 ≤ y ∧ y ≤ 99) then up B 8 (up (B 8) (coinI x).toNat y) else B) := by
  by_cases q : coinI x ≠ -1 ∧ 0 ≤ y ∧ y ≤ 99
  · have e : y_till tg tk tr x y = (1, 0, tg, up tk (coinI x).toNat y, tr) := by unfold y_till; rw [if_pos q]
    rw [e, if_pos q, if_pos q, if_pos q]
    obtain ⟨⟨a1, a2, a3, a4, a5, a6, a7, a8, a9, a10, a11⟩, b, c, ⟨d1, d2, d3⟩, e9, f, k, l, q9⟩ := hI
    have hJ : IV g bs p F D R mk tg (up tk (coinI x).toNat y) tr g' w (up B 8 (up (B 8) (coinI x).toNat y)) := by
      refine ⟨⟨a1, a2, a3, a4, a5, a6, a7, a8, a9, a10, a11⟩, b, c, ⟨?_, d2, fun j => ?_⟩, e9, f, k, l, q9⟩
      · rw [up_eq, d1]
      · unfold up
        split
        · exact q.2
        · exact d3 j
    exact ⟨rfl, IV_q hJ t4_0⟩
  · have e : y_till tg tk tr x y = (0, 2, tg, tk, tr) := by unfold y_till; rw [if_neg q]
    rw [e, if_neg q, if_neg q, if_neg q]
    exact ⟨rfl, IV_q hI t4_2⟩
theorem gbR_0 {sk : Nat → Int} {c : Nat} {w : Int} (k : Nat) : 0 ≤ gbR sk c w k := (gbR_r k).1
theorem gbSk_99 {tk : Nat → Int} (h : ∀ j : Nat, 0 ≤ tk j ∧ tk j ≤ 99) {a : Int} (ha : 0 ≤ a) (j : Nat) : 0 ≤ gbSk tk a (-1) j ∧ gbSk tk a (-1) j ≤ tk j := by
  refine ⟨(gbSk_r (fun j => ⟨(h j).1, by have := (h j).2; omega⟩) ha (-1) j).1, ?_⟩
  unfold gbSk
  split
  · have : 0 ≤ gbC tk a j := gbR_0 _
    omega
  · exact Int.le_refl _
theorem sell_tk {ct td tg tk tr : Nat → Int} {x y : Int} (h : ∀ j : Nat, 0 ≤ tk j ∧ tk j ≤ 99) (j : Nat) : 0 ≤ (y_sell ct td tg tk tr x y).2.2.2.1 j ∧ (y_sell ct td tg tk tr x y).2.2.2.1 j ≤ 99 := by
  have h0 := h j
  unfold y_sell
  split
  · split
    · exact h0
    · split
      · exact h0
      · split
        · exact h0
        · rename_i c1 c2 c3 c4
          have hs := gbSk_99 h (a := y - c_get td 12 x 0) (by omega) j
          dsimp only
          split
          · rename_i c5
            unfold up
            split
            · rename_i c6
              subst c6
              have := hs.2
              have c7 : ¬ 99 ≤ tk (coinI y).toNat := fun z => c4 (Or.inl ⟨c5.1, c5.2, z⟩)
              omega
            · omega
          · omega
  · exact h0
theorem IV_sell {g bs : Nat → Int} {p : TS} {F D R : FS} {mk : Nat → FS} {tg tk tr g' : Nat → Int} {w : Int} {B : Nat → Nat → Int} (hI : IV g bs p F D R mk tg tk tr g' w B) {ct' td' : Nat → Int} {x y : Int} {B' : Nat → Nat → Int} (h8 : B' 8 = (y_sell ct' td' tg tk tr x y).2.2.2.1) (h9 : B' 9 = (y_sell ct' td' tg tk tr x y).2.2.2.2) (ho : ∀ j, j ≠ 8 → j ≠ 9 → j ≠ 10 → j ≠ 11 → B' j = B j) : IV (up g 10 (y_sell ct' td' tg tk tr x y).2.1) bs p F D R mk (y_sell ct' td' tg tk tr x y).2.2.1 (y_sell ct' td' tg tk tr x y).2.2.2.1 (y_sell ct' td' tg tk tr x y).2.2.2.2 (rg (up g' 26 ((y_sell ct' td' tg tk tr x y).2.2.1 2)) (y_sell ct' td' tg tk tr x y).2.1) w B' := by
  obtain ⟨⟨a1, a2, a3, a4, a5, a6, a7, a8, a9, a10, a11⟩, b, c, ⟨d1, d2, d3⟩, e9, f, k, l, q9⟩ := hI
  have e1 := ho 1 (by decide) (by decide) (by decide) (by decide)
  have e2 := ho 2 (by decide) (by decide) (by decide) (by decide)
  have e3 := ho 3 (by decide) (by decide) (by decide) (by decide)
  have e4 := ho 4 (by decide) (by decide) (by decide) (by decide)
  refine IV_q (g' := up g' 26 ((y_sell ct' td' tg tk tr x y).2.2.1 2)) ⟨⟨a1, a2, a3, a4, a5, a6, a7, a8, up_eq, a10, a11⟩, ?_, c, ⟨h8, h9, sell_tk d3⟩, ?_, ?_, ?_, l, q9⟩ t4_ysell
  · rw [e1]; exact b
  · rw [e2]; exact e9
  · rw [e3]; exact f
  · rw [e4]; exact k
/-- a text that could not be read -/
theorem IV_fl4 {g bs : Nat → Int} {p : TS} {F D R : FS} {mk : Nat → FS} {tg tk tr g' : Nat → Int} {w : Int} {B : Nat → Nat → Int} (hI : IV g bs p F D R mk tg tk tr g' w B) {P : TS} {D' : FS} {g'' : Nat → Int} {w' : Int} (hHS : HS D'.2.1) (hNO : NO P) (h12 : (0 ≤ g'' 12 ∧ g'' 12 ≤ 999) ∧ 0 ≤ w' ∧ w' < 1099511627776) (h6 : g'' 6 = 0) (h13 : g'' 13 = P.1 7) (h26 : g'' 26 = g' 26) (h1 : g'' 1 = 4) (h2 : g'' 2 = P.1 8) (h19 : g'' 19 = g' 19) : IV (up (up (up (up g 1 0) 11 (P.1 7)) 12 (P.1 8)) 10 4) bs P F D' R mk tg tk tr g'' w' B := by
  obtain ⟨⟨a1, a2, a3, a4, a5, a6, a7, a8, a9, a10, a11⟩, b, ⟨c1, c2, c3⟩, d, e9, f, k, l, q9⟩ := hI
  exact ⟨⟨z900, a2, z4100, h1, h2, h6, h13, h19.trans a8, h26.trans a9, h12.1, h12.2⟩, b, ⟨c1, hHS, hNO⟩, d, e9, f, k, l, q9⟩
/-- a flight that was told -/
theorem IV_fl0 {g bs : Nat → Int} {p : TS} {F D R : FS} {mk : Nat → FS} {tg tk tr g' : Nat → Int} {w : Int} {B : Nat → Nat → Int} (hI : IV g bs p F D R mk tg tk tr g' w B) {P : TS} {ct' td' bk' si' ld' gF b3 : Nat → Int} {A : Nat → Nat → Int} {g'' : Nat → Int} {w' : Int} (hHS : HS td') (hNO : NO P) (hFM : FM ct' td' bk' si' ld' gF A) (rE : ∀ j, 0 ≤ ld' j ∧ ld' j ≤ 9999) (hb3 : ∀ j : Nat, j < 431 → b3 j = bR ld' 0 j) (h12 : (0 ≤ g'' 12 ∧ g'' 12 ≤ 999) ∧ 0 ≤ w' ∧ w' < 1099511627776) (h6 : g'' 6 = 0) (h13 : g'' 13 = P.1 7) (h26 : g'' 26 = g' 26) (h1 : g'' 1 = 0) (h2 : g'' 2 = -1) (h19 : g'' 19 = 0) : IV (up (up (up (up (up g 1 0) 11 (P.1 7)) 12 (P.1 8)) 6 0) 10 0) bs P (ct', td', bk', si', ld') F (rsR ct' td' ld' 0 R) mk tg tk tr g'' w' (up B 3 b3) := by
  have hQ := QF_FM hFM
  obtain ⟨⟨a1, a2, a3, a4, a5, a6, a7, a8, a9, a10, a11⟩, b, ⟨c1, c2, c3⟩, d, e9, f, ⟨k1, k2⟩, l, q9⟩ := hI
  have hRO : RO R := ⟨F.1, F.2.1, f.2.1, q9.2.1⟩
  have hr : 0 ≤ c_rows ct' td' ∧ c_rows ct' td' ≤ 40 := hQ.2.1
  have h5 : 0 ≤ ct' 5 ∧ ct' 5 ≤ 2 := hQ.2.2.2.2.2.2.2
  refine ⟨⟨z900, z4, z100, h1, h2, h6, h13, h19, h26.trans a9, h12.1, h12.2⟩, b, ⟨hHS, c1, hNO⟩, d, e9, ⟨?_, ?_, ?_⟩, ⟨fun i hi => ?_, k2⟩, fun z => ?_, hQ⟩
  · rw [up_eq]
    exact RO_rsR hRO hr h5.2 hb3
  · exact RO_rs hRO rE hr (by omega)
  · exact RO_rs2 hRO hr hFM.2.2.2.1 hFM.2.2.2.2.1
  · replace hi : (i : Int) < 0 := hi
    omega
  · have z0 : ct' 0 = 0 := z 0
    have := hFM.2.2.2.2.2.1
    omega
