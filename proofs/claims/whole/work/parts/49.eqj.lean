theorem w_a32 {x y : Int32} {a b : Int} (hx : x.toInt = a) (hy : y.toInt = b) (l : -2147483648 ≤ a + b) (u : a + b < 2147483648) : (x + y).toInt = a + b := by
  rw [Int32.toInt_add, hx, hy]
  generalize a + b = c at l u ⊢
  exact Int.bmod_eq_of_le (by omega) (by omega)
theorem w_s32 {x y : Int32} {a b : Int} (hx : x.toInt = a) (hy : y.toInt = b) (l : -2147483648 ≤ a - b) (u : a - b < 2147483648) : (x - y).toInt = a - b := by
  rw [Int32.toInt_sub, hx, hy]
  generalize a - b = c at l u ⊢
  exact Int.bmod_eq_of_le (by omega) (by omega)
theorem w_m32 {x y : Int32} {a b : Int} (hx : x.toInt = a) (hy : y.toInt = b) (l : -2147483648 ≤ a * b) (u : a * b < 2147483648) : (x * y).toInt = a * b := by
  rw [Int32.toInt_mul, hx, hy]
  generalize a * b = c at l u ⊢
  exact Int.bmod_eq_of_le (by omega) (by omega)
theorem w_a64 {x y : Int64} {a b : Int} (hx : x.toInt = a) (hy : y.toInt = b) (l : -9223372036854775808 ≤ a + b) (u : a + b < 9223372036854775808) : (x + y).toInt = a + b := by
  rw [Int64.toInt_add, hx, hy]
  generalize a + b = c at l u ⊢
  exact Int.bmod_eq_of_le (by omega) (by omega)
theorem w_s64 {x y : Int64} {a b : Int} (hx : x.toInt = a) (hy : y.toInt = b) (l : -9223372036854775808 ≤ a - b) (u : a - b < 9223372036854775808) : (x - y).toInt = a - b := by
  rw [Int64.toInt_sub, hx, hy]
  generalize a - b = c at l u ⊢
  exact Int.bmod_eq_of_le (by omega) (by omega)
theorem w_m64 {x y : Int64} {a b : Int} (hx : x.toInt = a) (hy : y.toInt = b) (l : -9223372036854775808 ≤ a * b) (u : a * b < 9223372036854775808) : (x * y).toInt = a * b := by
  rw [Int64.toInt_mul, hx, hy]
  generalize a * b = c at l u ⊢
  exact Int.bmod_eq_of_le (by omega) (by omega)
theorem w_d32 {x y : Int32} {a b : Int} (hx : x.toInt = a) (hy : y.toInt = b) (ha : 0 ≤ a) (l : 0 ≤ a / b) (u : a / b < 2147483648) : (x / y).toInt = a / b := by
  rw [Int32.toInt_div, hx, hy, Int.tdiv_eq_ediv_of_nonneg ha]
  exact Int.bmod_eq_of_le (by omega) (by omega)
theorem cost_w {w : Int32} {v : Int64} {k : Int32} (h : w.toInt = v.toInt) : (if 0 < w then w else 0).toInt64 + k.toInt64 * 30 = if 0 ≤ lg_cmp v 0 then v + 30 * k.toInt64 else 0 + 30 * k.toInt64 := by
  have e : w.toInt64 = v := Int64.toInt_inj.mp (by rw [Int32.toInt_toInt64, h])
  rw [Int64.mul_comm]
  by_cases c : 0 < w
  · have c2 : 0 ≤ lg_cmp v 0 := by
      rw [lg_cmp_ge, Int64.le_iff_toInt_le]
      have := Int32.lt_iff_toInt_lt.mp c
      rw [h] at this
      exact Int.le_of_lt this
    rw [if_pos c, if_pos c2, e]
  · rw [if_neg c]
    have c1 : v.toInt ≤ 0 := by
      have := Int32.not_lt.mp c
      rw [Int32.le_iff_toInt_le, h] at this
      exact this
    by_cases c2 : 0 ≤ lg_cmp v 0
    · rw [if_pos c2]
      rw [lg_cmp_ge, Int64.le_iff_toInt_le] at c2
      have : v = 0 := Int64.toInt_inj.mp (Int.le_antisymm c1 c2)
      rw [this]
      rfl
    · rw [if_neg c2]
      rfl
theorem in_int {p a b : Int32} (h : P_in p a b) : a.toInt ≤ p.toInt ∧ p.toInt ≤ b.toInt := ⟨Int32.le_iff_toInt_le.mp h.1, Int32.le_iff_toInt_le.mp h.2⟩
theorem mul_bd {a b A B : Int} (h1 : 0 ≤ a) (h2 : a ≤ A) (h3 : 0 ≤ b) (h4 : b ≤ B) : 0 ≤ a * b ∧ a * b ≤ A * B :=
  ⟨Int.mul_nonneg h1 h3, Int.mul_le_mul h2 h4 h3 (Int.le_trans h1 h2)⟩
theorem cost_eq {X : CX} {S : CT} {r d b m k : Int32} (hr : P_in r 0 50000) (hd : P_in d 1 30) (hb : P_in b 0 d) (hm : P_in m 0 (2 * d)) : k_allowance r d b m X S + k.toInt64 * 30 = f_costOf r d b m k := by
  have r1 := in_int hr
  have d1 := in_int hd
  have b1 := in_int hb
  have m1 := in_int hm
  rw [show (0 : Int32).toInt = 0 from by decide, show (50000 : Int32).toInt = 50000 from by decide] at r1
  rw [show (1 : Int32).toInt = 1 from by decide, show (30 : Int32).toInt = 30 from by decide] at d1
  rw [show (0 : Int32).toInt = 0 from by decide] at b1
  rw [show (0 : Int32).toInt = 0 from by decide, w_m32 (a := 2) (b := d.toInt) (by decide) rfl (by omega) (by omega)] at m1
  have e2 := w_d32 (x := r) (y := 2) (a := r.toInt) (b := 2) rfl (by decide) (by omega) (by omega) (by omega)
  have e20 := w_d32 (x := r * 20) (y := 100) (a := r.toInt * 20) (b := 100) (w_m32 rfl (by decide) (by omega) (by omega)) (by decide) (by omega) (by omega) (by omega)
  have e40 := w_d32 (x := r * 40) (y := 100) (a := r.toInt * 40) (b := 100) (w_m32 rfl (by decide) (by omega) (by omega)) (by decide) (by omega) (by omega) (by omega)
  have q1 := mul_bd (a := b.toInt) (b := r.toInt * 20 / 100) (A := 30) (B := 10000) (by omega) (by omega) (by omega) (by omega)
  have q2 := mul_bd (a := m.toInt) (b := r.toInt * 40 / 100) (A := 60) (B := 20000) (by omega) (by omega) (by omega) (by omega)
  have f1 := w_m32 (x := b) (y := r * 20 / 100) rfl e20 (by omega) (by omega)
  have f2 := w_m32 (x := m) (y := r * 40 / 100) rfl e40 (by omega) (by omega)
  have f3 := w_a32 f1 f2 (by omega) (by omega)
  have g1 := w_m64 (x := b.toInt64) (y := (r * 20 / 100).toInt64) (Int32.toInt_toInt64 b) ((Int32.toInt_toInt64 _).trans e20) (by omega) (by omega)
  have g2 := w_m64 (x := m.toInt64) (y := (r * 40 / 100).toInt64) (Int32.toInt_toInt64 m) ((Int32.toInt_toInt64 _).trans e40) (by omega) (by omega)
  have g3 := w_a64 g1 g2 (by omega) (by omega)
  unfold k_allowance f_costOf
  by_cases c : d = 1
  · rw [if_pos c, if_pos c]
    refine cost_w ?_
    rw [w_s32 e2 f3 (by omega) (by omega), w_s64 ((Int32.toInt_toInt64 _).trans e2) g3 (by omega) (by omega)]
  · have hd2 : 2 ≤ d.toInt := by
      have : d.toInt ≠ 1 := fun z => c (Int32.toInt_inj.mp (z.trans (by decide)))
      omega
    have s1 := w_s32 (x := d) (y := 2) (a := d.toInt) (b := 2) rfl (by decide) (by omega) (by omega)
    have q3 := mul_bd (a := d.toInt - 2) (b := r.toInt) (A := 28) (B := 50000) (by omega) (by omega) (by omega) (by omega)
    have s2 := w_m32 (y := r) s1 rfl (by omega) (by omega)
    have s3 := w_m32 (x := 2) (a := 2) (by decide) e2 (by omega) (by omega)
    have s4 := w_a32 s2 s3 (by omega) (by omega)
    have t2 := w_m64 (x := (d - 2).toInt64) (y := r.toInt64) ((Int32.toInt_toInt64 _).trans s1) (Int32.toInt_toInt64 _) (by omega) (by omega)
    have t4 := w_a64 t2 ((Int32.toInt_toInt64 (2 * (r / 2))).trans s3) (by omega) (by omega)
    rw [if_neg c, if_neg c]
    refine cost_w ?_
    rw [w_s32 s4 f3 (by omega) (by omega), w_s64 t4 g3 (by omega) (by omega)]
theorem RR.ntrip {X X2 : CX} {S : CT} {M : MS} {v : Int64} (h : RR X S M) (hL : LVX X) (hlt : xSz X 26 0 < 30) (hN : NX (y_trip X v) X2 26 0) : RR X2 S (sI (rJ M 58 (mI M 57) v) 57 (mI M 57 + 1)) := by
  have en : mI M 57 = nI (xSz X 26 0) := h.z57.symm
  have hb := hL.2.2.1
  have cl : (mI M 57).toNatClampNeg = xSz X 26 0 := by rw [en, nI_clamp (by omega)]
  have hY : xFi X2 = xFi (y_trip X v) := hN.2.2.1
  have hYj : xFj X2 = xFj (y_trip X v) := hN.2.2.2.1
  refine RR_new (c := 3) (n := xSz X 26 0) h ⟨by decide, by decide⟩ (fun c9 i hi => ?_) ?_ (fun f i _ _ => rfl) (fun f i _ => rfl) (fun f i y => ?_) (fun f i y => ?_) (fun j i _ => rfl) (fun j i y => ?_) (fun j _ _ _ _ _ => ?_) rfl (fun t ht e9 => ?_) (fun t ht e9 => ?_) (fun t ht e9 => ?_) (fun t ht e9 => ?_) (fun z => absurd z (by decide)) ?_ ?_ (fun z => absurd z (by decide)) (fun z => absurd z (by decide)) (fun i => rfl) (fun i _ => Or.inr (by decide))
  · by_cases e9 : c9 = 3
    · subst e9
      have h8 : i < ((mI M 57) + 1).toNatClampNeg := hi
      rw [en, nI_1, nI_clamp (by omega)] at h8
      by_cases e8 : i = xSz X 26 0
      · exact Or.inr ⟨rfl, e8⟩
      · refine Or.inl ?_
        show i < cnt M 57
        rw [h.c57 hL]
        omega
    · exact Or.inl (dm_rJ.mp ((dm_s57 e9).mp hi))
  · show ¬ xSz X 26 0 < cnt M 57
    rw [h.c57 hL]
    omega
  · rw [hY]; rfl
  · rw [hYj]
    show xFj (fjX X 320 (xSz X 26 0) v) f i = xFj X f i
    rw [fj_o (fun z => y ⟨by rw [z.1]; decide, z.2⟩)]
  · show gl (rJ M 58 (mI M 57) v) j i = gl M j i
    rw [gl_rJ, if_neg (fun z => y ⟨by rw [z.1]; decide, by rw [z.2, cl]⟩)]
  · show (if j = 57 then _ else _) = _
    rw [if_neg (by assumption)]
    rfl
  · have h9 : ∀ t ∈ TI, t.2.2 ≠ 3 := by decide
    exact absurd e9 (h9 t ht)
  · have h9 : ∀ t ∈ TJ, t.2.2 ≠ 3 := by decide
    exact absurd e9 (h9 t ht)
  · have h9 : ∀ t ∈ TF, t.2.2 ≠ 3 := by decide
    exact absurd e9 (h9 t ht)
  · have h9 : ∀ t ∈ TG, t.2.2 = 3 → t = (320, 58, 3) := by decide
    rcases h9 t ht e9 with rfl
    show xFj X2 320 (xSz X 26 0) = gl (rJ M 58 (mI M 57) v) 58 (xSz X 26 0)
    rw [hYj, gl_rJ, if_pos ⟨rfl, cl.symm⟩]
    exact fj_ss
  · have hs : ∀ L j, ¬ (L = 26 ∧ j = 0) → xSz X2 L j = xSz X L j := fun L j y => by
      rw [hN.2.2.2.2]
      exact if_neg y
    have hs1 : xSz X2 26 0 = xSz X 26 0 + 1 := by rw [hN.2.2.2.2]; exact if_pos ⟨rfl, rfl⟩
    refine ⟨⟨by rw [hs 20 0 (by omega)]; exact h.z3.symm, by rw [hs 24 0 (by omega)]; exact h.z14.symm, by rw [hs 25 0 (by omega)]; exact h.z39.symm, by rw [hs1]; show mI M 57 + 1 = _; rw [en, nI_1], by rw [hs 27 0 (by omega)]; exact h.z59.symm⟩, fun r hr => ?_⟩
    rw [hs 24 0 (by omega)] at hr
    rw [hs 29 r (by omega)]
    exact h.2.2.2.1.2 r hr
  · exact h.2.2.2.2.1.1
theorem RR.cost {X : CX} {S : CT} {M : MS} (h : RR X S M) (hR : ∀ i, i < 4 → P_in (gn M 56 i) 0 50000) {p3 p4 p5 p6 p7 : Int32} (h3 : P_in p3 0 3) (h4 : P_in p4 1 30) (h5 : P_in p5 0 p4) (h6 : P_in p6 0 (2 * p4)) : k_allowance (ci S 1280 p3) p4 p5 p6 X S + p7.toInt64 * 30 = f_costOf (gI M 56 p3) p4 p5 p6 p7 := by
  have hd := Nat.lt_succ_of_le (in_toNat (n := 3) (by decide) h3)
  rw [h.rdI (f := 1280) (j := 56) (c := 7) (x := p3) rfl hd]
  exact cost_eq (hR _ hd) h4 h5 h6
theorem eq_trip {X : CX} {S : CT} {M : MS} {p1 : Int32} {p2 : Int32} {p3 : Int32} {p4 : Int32} {p5 : Int32} {p6 : Int32} {p7 : Int32} (hX : XOK X) (hL : LVX X) (h : RR X S M) (hY : P_isYear (f_yearNow M)) (hR : ∀ i, i < 4 → P_in (gn M 56 i) 0 50000) : EQa X S xcIAS (y_trip X ((k_allowance (ci S 1280 p3) p4 p5 p6 X S) + ((p7.toInt64) * 30))) 26 0 (k_trip p1 p2 p3 p4 p5 p6 p7 X S) (f_trip p1 p2 p3 p4 p5 p6 p7 M) := by
  unfold k_trip f_trip
  by_cases c1 : P_isPerson p1 M
  · by_cases c2 : P_isCentre p2
    · by_cases c3 : p3 < 0
      · rw [if_pos ((h.n3 hL).mpr c1), if_pos ((num_cent hL).mpr c2), if_pos c3, if_pos c1, if_pos c2, if_neg (fun z => (in03.mp z).1 c3)]
        exact ⟨mI_sIs.trans xIAS_I.symm, h.thr⟩
      · by_cases c4 : p3 < 4
        · by_cases c5 : P_in p4 1 30
          · by_cases c6 : P_in p5 0 p4
            · by_cases c7 : P_in p6 0 (2 * p4)
              · by_cases c8 : P_in p7 0 5000
                · by_cases c9 : (mI M 57) = 30
                  · rw [if_pos ((h.n3 hL).mpr c1), if_pos ((num_cent hL).mpr c2), if_neg c3, if_pos c4, if_pos c5, if_pos c6, if_pos c7, if_pos c8, if_neg (fun z => ((h.l57 hL).mp z) c9), if_pos c1, if_pos c2, if_pos (in03.mpr ⟨c3, c4⟩), if_pos c5, if_pos c6, if_pos c7, if_pos c8, if_pos c9]
                    exact ⟨mI_sIs.trans xIAS_S.symm, h.thr⟩
                  · by_cases c10 : P_may p2 (f_yearNow M) (f_costOf (gI M 56 p3) p4 p5 p6 p7) M
                    · rw [if_pos ((h.n3 hL).mpr c1), if_pos ((num_cent hL).mpr c2), if_neg c3, if_pos c4, if_pos c5, if_pos c6, if_pos c7, if_pos c8, if_pos ((h.l57 hL).mpr c9), if_pos ((may_keep h c2 hY (h.cost hR (in03.mpr ⟨c3, c4⟩) c5 c6 c7)).mpr c10), if_pos c1, if_pos c2, if_pos (in03.mpr ⟨c3, c4⟩), if_pos c5, if_pos c6, if_pos c7, if_pos c8, if_neg c9, if_pos c10]
                      have ec := h.cost hR (p7 := p7) (in03.mpr ⟨c3, c4⟩) c5 c6 c7
                      rw [ec, h.rdJ (f := 197) (j := 8) (c := 0) (x := p1) rfl (h.d3 hL c1)]
                      have hlt : xSz X 26 0 < 30 := by
                        have h9 := (h.l57 hL).mpr c9
                        exact (nI_ltI (by have := hL.2.2.1; omega) (by omega)).mp (show nI (xSz X 26 0) < nI 30 from h9)
                      generalize f_costOf (gI M 56 p3) p4 p5 p6 p7 = v
                      refine ⟨rfl, ?_, fun X2 hN => ?_⟩
                      · show nI (xSz X 26 0 + 1) - 1 = mI M 57 + 1 - 1
                        rw [show mI M 57 = nI (xSz X 26 0) from h.z57.symm, nI_1]
                      have r0 := (h.thr (v := 0)).ntrip hL (v := v) hlt hN
                      have r1 := r0.spend (c := p2) (v := v) c2 hY
                      have r2 := r1.pJ (f := 197) (j := 8) (x := p1) (v := gJ M 8 p1 + v) rfl
                      have r3 := r2.postV (a := 0) (v := v) (z := gJ M 2 0 + v) (by decide) (by rw [gJ_rJn rfl, gJ_rJn rfl]; rfl)
                      have r4 := r3.postN (a := 8) (v := v) (z := gJ M 2 8 - v) (by decide) (by rw [gJ_rJc (by decide), gJ_rJn rfl, gJ_rJn rfl]; rfl)
                      exact r4
                    · rw [if_pos ((h.n3 hL).mpr c1), if_pos ((num_cent hL).mpr c2), if_neg c3, if_pos c4, if_pos c5, if_pos c6, if_pos c7, if_pos c8, if_pos ((h.l57 hL).mpr c9), if_neg (fun z => c10 ((may_keep h c2 hY (h.cost hR (in03.mpr ⟨c3, c4⟩) c5 c6 c7)).mp z)), if_pos c1, if_pos c2, if_pos (in03.mpr ⟨c3, c4⟩), if_pos c5, if_pos c6, if_pos c7, if_pos c8, if_neg c9, if_neg c10]
                      exact ⟨mI_sIs.trans xIAS_S.symm, h.thr⟩
                · rw [if_pos ((h.n3 hL).mpr c1), if_pos ((num_cent hL).mpr c2), if_neg c3, if_pos c4, if_pos c5, if_pos c6, if_pos c7, if_neg c8, if_pos c1, if_pos c2, if_pos (in03.mpr ⟨c3, c4⟩), if_pos c5, if_pos c6, if_pos c7, if_neg c8]
                  exact ⟨mI_sIs.trans xIAS_A.symm, h.thr⟩
              · rw [if_pos ((h.n3 hL).mpr c1), if_pos ((num_cent hL).mpr c2), if_neg c3, if_pos c4, if_pos c5, if_pos c6, if_neg c7, if_pos c1, if_pos c2, if_pos (in03.mpr ⟨c3, c4⟩), if_pos c5, if_pos c6, if_neg c7]
                exact ⟨mI_sIs.trans xIAS_A.symm, h.thr⟩
            · rw [if_pos ((h.n3 hL).mpr c1), if_pos ((num_cent hL).mpr c2), if_neg c3, if_pos c4, if_pos c5, if_neg c6, if_pos c1, if_pos c2, if_pos (in03.mpr ⟨c3, c4⟩), if_pos c5, if_neg c6]
              exact ⟨mI_sIs.trans xIAS_A.symm, h.thr⟩
          · rw [if_pos ((h.n3 hL).mpr c1), if_pos ((num_cent hL).mpr c2), if_neg c3, if_pos c4, if_neg c5, if_pos c1, if_pos c2, if_pos (in03.mpr ⟨c3, c4⟩), if_neg c5]
            exact ⟨mI_sIs.trans xIAS_A.symm, h.thr⟩
        · rw [if_pos ((h.n3 hL).mpr c1), if_pos ((num_cent hL).mpr c2), if_neg c3, if_neg c4, if_pos c1, if_pos c2, if_neg (fun z => c4 (in03.mp z).2)]
          exact ⟨mI_sIs.trans xIAS_I.symm, h.thr⟩
    · rw [if_pos ((h.n3 hL).mpr c1), if_neg (fun z => c2 ((num_cent hL).mp z)), if_pos c1, if_neg c2]
      exact ⟨mI_sIs.trans xIAS_I.symm, h.thr⟩
  · rw [if_neg (fun z => c1 ((h.n3 hL).mp z)), if_neg c1]
    exact ⟨mI_sIs.trans xIAS_I.symm, h.thr⟩
