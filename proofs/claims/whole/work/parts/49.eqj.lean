theorem w_a32 {x y : Int32} {a b : Int} (hx : x.toInt = a) (hy : y.toInt = b) (l : -2147483648 ≤ a + b) (u : a + b < 2147483648) : (x + y).toInt = a + b := by
  rw [Int32.toInt_add, hx, hy]
  generalize a + b = c at l u ⊢
  exact Int.bmod_eq_of_le (by omega) (by omega)
theorem w_s32 {x y : Int32} {a b : Int} (hx : x.toInt = a) (hy : y.toInt = b) (l : -2147483648 ≤ a - b) (u : a - b < 2147483648) : (x - y).toInt = a - b := by
  rw [Int32.toInt_sub, hx, hy]
  generalize a - b = c at l u ⊢
  exact Int.bmod_eq_of_le (by omega) (by omega)
theorem w_m32 {x y : Int32} {a b : Int} (hx : x.toInt = a) (hy : y.toInt = b) (l : -2147483648 ≤ a * b) (u : a * b < 2147483648) : (x * y).toInt = a * b := by
  rw [Int32.toInt_mul, hx, hy]
  generalize a * b = c at l u ⊢
  exact Int.bmod_eq_of_le (by omega) (by omega)
theorem w_a64 {x y : Int64} {a b : Int} (hx : x.toInt = a) (hy : y.toInt = b) (l : -9223372036854775808 ≤ a + b) (u : a + b < 9223372036854775808) : (x + y).toInt = a + b := by
  rw [Int64.toInt_add, hx, hy]
  generalize a + b = c at l u ⊢
  exact Int.bmod_eq_of_le (by omega) (by omega)
theorem w_s64 {x y : Int64} {a b : Int} (hx : x.toInt = a) (hy : y.toInt = b) (l : -9223372036854775808 ≤ a - b) (u : a - b < 9223372036854775808) : (x - y).toInt = a - b := by
  rw [Int64.toInt_sub, hx, hy]
  generalize a - b = c at l u ⊢
  exact Int.bmod_eq_of_le (by omega) (by omega)
theorem w_m64 {x y : Int64} {a b : Int} (hx : x.toInt = a) (hy : y.toInt = b) (l : -9223372036854775808 ≤ a * b) (u : a * b < 9223372036854775808) : (x * y).toInt = a * b := by
  rw [Int64.toInt_mul, hx, hy]
  generalize a * b = c at l u ⊢
  exact Int.bmod_eq_of_le (by omega) (by omega)
theorem w_d32 {x y : Int32} {a b : Int} (hx : x.toInt = a) (hy : y.toInt = b) (ha : 0 ≤ a) (l : 0 ≤ a / b) (u : a / b < 2147483648) : (x / y).toInt = a / b := by
  rw [Int32.toInt_div, hx, hy, Int.tdiv_eq_ediv_of_nonneg ha]
  exact Int.bmod_eq_of_le (by omega) (by omega)
theorem cost_w {w : Int32} {v : Int64} {k : Int32} (h : w.toInt = v.toInt) : (if 0 < w then w else 0).toInt64 + k.toInt64 * 30 = if 0 ≤ lg_cmp v 0 then v + 30 * k.toInt64 else 0 + 30 * k.toInt64 := by
  have e : w.toInt64 = v := Int64.toInt_inj.mp (by rw [Int32.toInt_toInt64, h])
  rw [Int64.mul_comm]
  by_cases c : 0 < w
  · have c2 : 0 ≤ lg_cmp v 0 := by
      rw [lg_cmp_ge, Int64.le_iff_toInt_le]
      have := Int32.lt_iff_toInt_lt.mp c
      rw [h] at this
      exact Int.le_of_lt this
    rw [if_pos c, if_pos c2, e]
  · rw [if_neg c]
    have c1 : v.toInt ≤ 0 := by
      have := Int32.not_lt.mp c
      rw [Int32.le_iff_toInt_le, h] at this
      exact this
    by_cases c2 : 0 ≤ lg_cmp v 0
    · rw [if_pos c2]
      rw [lg_cmp_ge, Int64.le_iff_toInt_le] at c2
      have : v = 0 := Int64.toInt_inj.mp (Int.le_antisymm c1 c2)
      rw [this]
      rfl
    · rw [if_neg c2]
      rfl
theorem in_int {p a b : Int32} (h : P_in p a b) : a.toInt ≤ p.toInt ∧ p.toInt ≤ b.toInt := ⟨Int32.le_iff_toInt_le.mp h.1, Int32.le_iff_toInt_le.mp h.2⟩
theorem mul_bd {a b A B : Int} (h1 : 0 ≤ a) (h2 : a ≤ A) (h3 : 0 ≤ b) (h4 : b ≤ B) : 0 ≤ a * b ∧ a * b ≤ A * B :=
  ⟨Int.mul_nonneg h1 h3, Int.mul_le_mul h2 h4 h3 (Int.le_trans h1 h2)⟩
theorem cost_eq {X : CX} {S : CT} {r d b m k : Int32} (hr : P_in r 0 50000) (hd : P_in d 1 30) (hb : P_in b 0 d) (hm : P_in m 0 (2 * d)) : k_allowance r d b m X S + k.toInt64 * 30 = f_costOf r d b m k := by
  have r1 := in_int hr
  have d1 := in_int hd
  have b1 := in_int hb
  have m1 := in_int hm
  rw [show (0 : Int32).toInt = 0 from by decide, show (50000 : Int32).toInt = 50000 from by decide] at r1
  rw [show (1 : Int32).toInt = 1 from by decide, show (30 : Int32).toInt = 30 from by decide] at d1
  rw [show (0 : Int32).toInt = 0 from by decide] at b1
  rw [show (0 : Int32).toInt = 0 from by decide, w_m32 (a := 2) (b := d.toInt) (by decide) rfl (by omega) (by omega)] at m1
  have e2 := w_d32 (x := r) (y := 2) (a := r.toInt) (b := 2) rfl (by decide) (by omega) (by omega) (by omega)
  have e20 := w_d32 (x := r * 20) (y := 100) (a := r.toInt * 20) (b := 100) (w_m32 rfl (by decide) (by omega) (by omega)) (by decide) (by omega) (by omega) (by omega)
  have e40 := w_d32 (x := r * 40) (y := 100) (a := r.toInt * 40) (b := 100) (w_m32 rfl (by decide) (by omega) (by omega)) (by decide) (by omega) (by omega) (by omega)
  have q1 := mul_bd (a := b.toInt) (b := r.toInt * 20 / 100) (A := 30) (B := 10000) (by omega) (by omega) (by omega) (by omega)
  have q2 := mul_bd (a := m.toInt) (b := r.toInt * 40 / 100) (A := 60) (B := 20000) (by omega) (by omega) (by omega) (by omega)
  have f1 := w_m32 (x := b) (y := r * 20 / 100) rfl e20 (by omega) (by omega)
  have f2 := w_m32 (x := m) (y := r * 40 / 100) rfl e40 (by omega) (by omega)
  have f3 := w_a32 f1 f2 (by omega) (by omega)
  have g1 := w_m64 (x := b.toInt64) (y := (r * 20 / 100).toInt64) (Int32.toInt_toInt64 b) ((Int32.toInt_toInt64 _).trans e20) (by omega) (by omega)
  have g2 := w_m64 (x := m.toInt64) (y := (r * 40 / 100).toInt64) (Int32.toInt_toInt64 m) ((Int32.toInt_toInt64 _).trans e40) (by omega) (by omega)
  have g3 := w_a64 g1 g2 (by omega) (by omega)
  unfold k_allowance f_costOf
  by_cases c : d = 1
  · rw [if_pos c, if_pos c]
    refine cost_w ?_
    rw [w_s32 e2 f3 (by omega) (by omega), w_s64 ((Int32.toInt_toInt64 _).trans e2) g3 (by omega) (by omega)]
  · have hd2 : 2 ≤ d.toInt := by
      have : d.toInt ≠ 1 := fun z => c (Int32.toInt_inj.mp (z.trans (by decide)))
      omega
    have s1 := w_s32 (x := d) (y := 2) (a := d.toInt) (b := 2) rfl (by decide) (by omega) (by omega)
    have q3 := mul_bd (a := d.toInt - 2) (b := r.toInt) (A := 28) (B := 50000) (by omega) (by omega) (by omega) (by omega)
    have s2 := w_m32 (y := r) s1 rfl (by omega) (by omega)
    have s3 := w_m32 (x := 2) (a := 2) (by decide) e2 (by omega) (by omega)
    have s4 := w_a32 s2 s3 (by omega) (by omega)
    have t2 := w_m64 (x := (d - 2).toInt64) (y := r.toInt64) ((Int32.toInt_toInt64 _).trans s1) (Int32.toInt_toInt64 _) (by omega) (by omega)
    have t4 := w_a64 t2 ((Int32.toInt_toInt64 (2 * (r / 2))).trans s3) (by omega) (by omega)
    rw [if_neg c, if_neg c]
    refine cost_w ?_
    rw [w_s32 s4 f3 (by omega) (by omega), w_s64 t4 g3 (by omega) (by omega)]
