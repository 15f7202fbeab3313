theorem w_a32 {x y : Int32} {a b : Int} (hx : x.toInt = a) (hy : y.toInt = b) (l : -2147483648 ≤ a + b) (u : a + b < 2147483648) : (x + y).toInt = a + b := by
  rw [Int32.toInt_add, hx, hy]
  generalize a + b = c at l u ⊢
  exact Int.bmod_eq_of_le (by omega) (by omega)
theorem w_s32 {x y : Int32} {a b : Int} (hx : x.toInt = a) (hy : y.toInt = b) (l : -2147483648 ≤ a - b) (u : a - b < 2147483648) : (x - y).toInt = a - b := by
  rw [Int32.toInt_sub, hx, hy]
  generalize a - b = c at l u ⊢
  exact Int.bmod_eq_of_le (by omega) (by omega)
theorem w_m32 {x y : Int32} {a b : Int} (hx : x.toInt = a) (hy : y.toInt = b) (l : -2147483648 ≤ a * b) (u : a * b < 2147483648) : (x * y).toInt = a * b := by
  rw [Int32.toInt_mul, hx, hy]
  generalize a * b = c at l u ⊢
  exact Int.bmod_eq_of_le (by omega) (by omega)
theorem w_a64 {x y : Int64} {a b : Int} (hx : x.toInt = a) (hy : y.toInt = b) (l : -9223372036854775808 ≤ a + b) (u : a + b < 9223372036854775808) : (x + y).toInt = a + b := by
  rw [Int64.toInt_add, hx, hy]
  generalize a + b = c at l u ⊢
  exact Int.bmod_eq_of_le (by omega) (by omega)
theorem w_s64 {x y : Int64} {a b : Int} (hx : x.toInt = a) (hy : y.toInt = b) (l : -9223372036854775808 ≤ a - b) (u : a - b < 9223372036854775808) : (x - y).toInt = a - b := by
  rw [Int64.toInt_sub, hx, hy]
  generalize a - b = c at l u ⊢
  exact Int.bmod_eq_of_le (by omega) (by omega)
theorem w_m64 {x y : Int64} {a b : Int} (hx : x.toInt = a) (hy : y.toInt = b) (l : -9223372036854775808 ≤ a * b) (u : a * b < 9223372036854775808) : (x * y).toInt = a * b := by
  rw [Int64.toInt_mul, hx, hy]
  generalize a * b = c at l u ⊢
  exact Int.bmod_eq_of_le (by omega) (by omega)
theorem w_d32 {x y : Int32} {a b : Int} (hx : x.toInt = a) (hy : y.toInt = b) (ha : 0 ≤ a) (l : 0 ≤ a / b) (u : a / b < 2147483648) : (x / y).toInt = a / b := by
  rw [Int32.toInt_div, hx, hy, Int.tdiv_eq_ediv_of_nonneg ha]
  exact Int.bmod_eq_of_le (by omega) (by omega)
theorem cost_w {w : Int32} {v : Int64} {k : Int32} (h : w.toInt = v.toInt) : (if 0 < w then w else 0).toInt64 + k.toInt64 * 30 = if 0 ≤ lg_cmp v 0 then v + 30 * k.toInt64 else 0 + 30 * k.toInt64 := by
  have e : w.toInt64 = v := Int64.toInt_inj.mp (by rw [Int32.toInt_toInt64, h])
  rw [Int64.mul_comm]
  by_cases c : 0 < w
  · have c2 : 0 ≤ lg_cmp v 0 := by
      rw [lg_cmp_ge, Int64.le_iff_toInt_le]
      have := Int32.lt_iff_toInt_lt.mp c
      rw [h] at this
      exact Int.le_of_lt this
    rw [if_pos c, if_pos c2, e]
  · rw [if_neg c]
    have c1 : v.toInt ≤ 0 := by
      have := Int32.not_lt.mp c
      rw [Int32.le_iff_toInt_le, h] at this
      exact this
    by_cases c2 : 0 ≤ lg_cmp v 0
    · rw [if_pos c2]
      rw [lg_cmp_ge, Int64.le_iff_toInt_le] at c2
      have : v = 0 := Int64.toInt_inj.mp (Int.le_antisymm c1 c2)
      rw [this]
      rfl
    · rw [if_neg c2]
      rfl
theorem in_int {p a b : Int32} (h : P_in p a b) : a.toInt ≤ p.toInt ∧ p.toInt ≤ b.toInt := ⟨Int32.le_iff_toInt_le.mp h.1, Int32.le_iff_toInt_le.mp h.2⟩
theorem mul_bd {a b A B : Int} (h1 : 0 ≤ a) (h2 : a ≤ A) (h3 : 0 ≤ b) (h4 : b ≤ B) : 0 ≤ a * b ∧ a * b ≤ A * B :=
  ⟨Int.mul_nonneg h1 h3, Int.mul_le_mul h2 h4 h3 (Int.le_trans h1 h2)⟩
theorem cost_eq {X : CX} {S : CT} {r d b m k : Int32} (hr : P_in r 0 50000) (hd : P_in d 1 30) (hb : P_in b 0 d) (hm : P_in m 0 (2 * d)) : k_allowance r d b m X S + k.toInt64 * 30 = f_costOf r d b m k := by
  have r1 := in_int hr
  have d1 := in_int hd
  have b1 := in_int hb
  have m1 := in_int hm
  rw [show (0 : Int32).toInt = 0 from by decide, show (50000 : Int32).toInt = 50000 from by decide] at r1
  rw [show (1 : Int32).toInt = 1 from by decide, show (30 : Int32).toInt = 30 from by decide] at d1
  rw [show (0 : Int32).toInt = 0 from by decide] at b1
  rw [show (0 : Int32).toInt = 0 from by decide, w_m32 (a := 2) (b := d.toInt) (by decide) rfl (by omega) (by omega)] at m1
  have e2 := w_d32 (x := r) (y := 2) (a := r.toInt) (b := 2) rfl (by decide) (by omega) (by omega) (by omega)
  have e20 := w_d32 (x := r * 20) (y := 100) (a := r.toInt * 20) (b := 100) (w_m32 rfl (by decide) (by omega) (by omega)) (by decide) (by omega) (by omega) (by omega)
  have e40 := w_d32 (x := r * 40) (y := 100) (a := r.toInt * 40) (b := 100) (w_m32 rfl (by decide) (by omega) (by omega)) (by decide) (by omega) (by omega) (by omega)
  have q1 := mul_bd (a := b.toInt) (b := r.toInt * 20 / 100) (A := 30) (B := 10000) (by omega) (by omega) (by omega) (by omega)
  have q2 := mul_bd (a := m.toInt) (b := r.toInt * 40 / 100) (A := 60) (B := 20000) (by omega) (by omega) (by omega) (by omega)
  have f1 := w_m32 (x := b) (y := r * 20 / 100) rfl e20 (by omega) (by omega)
  have f2 := w_m32 (x := m) (y := r * 40 / 100) rfl e40 (by omega) (by omega)
  have f3 := w_a32 f1 f2 (by omega) (by omega)
  have g1 := w_m64 (x := b.toInt64) (y := (r * 20 / 100).toInt64) (Int32.toInt_toInt64 b) ((Int32.toInt_toInt64 _).trans e20) (by omega) (by omega)
  have g2 := w_m64 (x := m.toInt64) (y := (r * 40 / 100).toInt64) (Int32.toInt_toInt64 m) ((Int32.toInt_toInt64 _).trans e40) (by omega) (by omega)
  have g3 := w_a64 g1 g2 (by omega) (by omega)
  unfold k_allowance f_costOf
  by_cases c : d = 1
  · rw [if_pos c, if_pos c]
    refine cost_w ?_
    rw [w_s32 e2 f3 (by omega) (by omega), w_s64 ((Int32.toInt_toInt64 _).trans e2) g3 (by omega) (by omega)]
  · have hd2 : 2 ≤ d.toInt := by
      have : d.toInt ≠ 1 := fun z => c (Int32.toInt_inj.mp (z.trans (by decide)))
      omega
    have s1 := w_s32 (x := d) (y := 2) (a := d.toInt) (b := 2) rfl (by decide) (by omega) (by omega)
    have q3 := mul_bd (a := d.toInt - 2) (b := r.toInt) (A := 28) (B := 50000) (by omega) (by omega) (by omega) (by omega)
    have s2 := w_m32 (y := r) s1 rfl (by omega) (by omega)
    have s3 := w_m32 (x := 2) (a := 2) (by decide) e2 (by omega) (by omega)
    have s4 := w_a32 s2 s3 (by omega) (by omega)
    have t2 := w_m64 (x := (d - 2).toInt64) (y := r.toInt64) ((Int32.toInt_toInt64 _).trans s1) (Int32.toInt_toInt64 _) (by omega) (by omega)
    have t4 := w_a64 t2 ((Int32.toInt_toInt64 (2 * (r / 2))).trans s3) (by omega) (by omega)
    rw [if_neg c, if_neg c]
    refine cost_w ?_
    rw [w_s32 s4 f3 (by omega) (by omega), w_s64 t4 g3 (by omega) (by omega)]
theorem RR.ntrip {X X2 : CX} {S : CT} {M : MS} {v : Int64} (h : RR X S M) (hL : LVX X) (hlt : xSz X 26 0 < 30) (hN : NX (y_trip X v) X2 26 0) : RR X2 S (sI (rJ M 58 (mI M 57) v) 57 (mI M 57 + 1)) := by
  have en : mI M 57 = nI (xSz X 26 0) := h.z57.symm
  have hb := hL.2.2.1
  have cl : (mI M 57).toNatClampNeg = xSz X 26 0 := by rw [en, nI_clamp (by omega)]
  have hY : xFi X2 = xFi (y_trip X v) := hN.2.2.1
  have hYj : xFj X2 = xFj (y_trip X v) := hN.2.2.2.1
  refine RR_new (c := 3) (n := xSz X 26 0) h ⟨by decide, by decide⟩ (fun c9 i hi => ?_) ?_ (fun f i _ _ => rfl) (fun f i _ => rfl) (fun f i y => ?_) (fun f i y => ?_) (fun j i _ => rfl) (fun j i y => ?_) (fun j _ _ _ _ _ => ?_) rfl (fun t ht e9 => ?_) (fun t ht e9 => ?_) (fun t ht e9 => ?_) (fun t ht e9 => ?_) (fun z => absurd z (by decide)) ?_ ?_ (fun z => absurd z (by decide)) (fun z => absurd z (by decide)) (fun i => rfl) (fun i _ => Or.inr (by decide))
  · by_cases e9 : c9 = 3
    · subst e9
      have h8 : i < ((mI M 57) + 1).toNatClampNeg := hi
      rw [en, nI_1, nI_clamp (by omega)] at h8
      by_cases e8 : i = xSz X 26 0
      · exact Or.inr ⟨rfl, e8⟩
      · refine Or.inl ?_
        show i < cnt M 57
        rw [h.c57 hL]
        omega
    · exact Or.inl (dm_rJ.mp ((dm_s57 e9).mp hi))
  · show ¬ xSz X 26 0 < cnt M 57
    rw [h.c57 hL]
    omega
  · rw [hY]; rfl
  · rw [hYj]
    show xFj (fjX X 320 (xSz X 26 0) v) f i = xFj X f i
    rw [fj_o (fun z => y ⟨by rw [z.1]; decide, z.2⟩)]
  · show gl (rJ M 58 (mI M 57) v) j i = gl M j i
    rw [gl_rJ, if_neg (fun z => y ⟨by rw [z.1]; decide, by rw [z.2, cl]⟩)]
  · show (if j = 57 then _ else _) = _
    rw [if_neg (by assumption)]
    rfl
  · have h9 : ∀ t ∈ TI, t.2.2 ≠ 3 := by decide
    exact absurd e9 (h9 t ht)
  · have h9 : ∀ t ∈ TJ, t.2.2 ≠ 3 := by decide
    exact absurd e9 (h9 t ht)
  · have h9 : ∀ t ∈ TF, t.2.2 ≠ 3 := by decide
    exact absurd e9 (h9 t ht)
  · have h9 : ∀ t ∈ TG, t.2.2 = 3 → t = (320, 58, 3) := by decide
    rcases h9 t ht e9 with rfl
    show xFj X2 320 (xSz X 26 0) = gl (rJ M 58 (mI M 57) v) 58 (xSz X 26 0)
    rw [hYj, gl_rJ, if_pos ⟨rfl, cl.symm⟩]
    exact fj_ss
  · have hs : ∀ L j, ¬ (L = 26 ∧ j = 0) → xSz X2 L j = xSz X L j := fun L j y => by
      rw [hN.2.2.2.2.1]
      exact if_neg y
    have hs1 : xSz X2 26 0 = xSz X 26 0 + 1 := by rw [hN.2.2.2.2.1]; exact if_pos ⟨rfl, rfl⟩
    refine ⟨⟨by rw [hs 20 0 (by omega)]; exact h.z3.symm, by rw [hs 24 0 (by omega)]; exact h.z14.symm, by rw [hs 25 0 (by omega)]; exact h.z39.symm, by rw [hs1]; show mI M 57 + 1 = _; rw [en, nI_1], by rw [hs 27 0 (by omega)]; exact h.z59.symm⟩, fun r hr => ?_⟩
    rw [hs 24 0 (by omega)] at hr
    rw [hs 29 r (by omega)]
    exact h.2.2.2.1.2 r hr
  · exact h.2.2.2.2.1.1
theorem RR.cost {X : CX} {S : CT} {M : MS} (h : RR X S M) (hR : ∀ i, i < 4 → P_in (gn M 56 i) 0 50000) {p3 p4 p5 p6 p7 : Int32} (h3 : P_in p3 0 3) (h4 : P_in p4 1 30) (h5 : P_in p5 0 p4) (h6 : P_in p6 0 (2 * p4)) : k_allowance (ci S 1280 p3) p4 p5 p6 X S + p7.toInt64 * 30 = f_costOf (gI M 56 p3) p4 p5 p6 p7 := by
  have hd := Nat.lt_succ_of_le (in_toNat (n := 3) (by decide) h3)
  rw [h.rdI (f := 1280) (j := 56) (c := 7) (x := p3) rfl hd]
  exact cost_eq (hR _ hd) h4 h5 h6
theorem eq_trip {X : CX} {S : CT} {M : MS} {p1 : Int32} {p2 : Int32} {p3 : Int32} {p4 : Int32} {p5 : Int32} {p6 : Int32} {p7 : Int32} (hX : XOK X) (hL : LVX X) (h : RR X S M) (hY : P_isYear (f_yearNow M)) (hR : ∀ i, i < 4 → P_in (gn M 56 i) 0 50000) : EQa X S xcIAS (y_trip X ((k_allowance (ci S 1280 p3) p4 p5 p6 X S) + ((p7.toInt64) * 30))) 26 0 (k_trip p1 p2 p3 p4 p5 p6 p7 X S) (f_trip p1 p2 p3 p4 p5 p6 p7 M) := by
  unfold k_trip f_trip
  by_cases c1 : P_isPerson p1 M
  · by_cases c2 : P_isCentre p2
    · by_cases c3 : p3 < 0
      · rw [if_pos ((h.n3 hL).mpr c1), if_pos ((num_cent hL).mpr c2), if_pos c3, if_pos c1, if_pos c2, if_neg (fun z => (in03.mp z).1 c3)]
        exact ⟨mI_sIs.trans xIAS_I.symm, h.thr⟩
      · by_cases c4 : p3 < 4
        · by_cases c5 : P_in p4 1 30
          · by_cases c6 : P_in p5 0 p4
            · by_cases c7 : P_in p6 0 (2 * p4)
              · by_cases c8 : P_in p7 0 5000
                · by_cases c9 : (mI M 57) = 30
                  · rw [if_pos ((h.n3 hL).mpr c1), if_pos ((num_cent hL).mpr c2), if_neg c3, if_pos c4, if_pos c5, if_pos c6, if_pos c7, if_pos c8, if_neg (fun z => ((h.l57 hL).mp z) c9), if_pos c1, if_pos c2, if_pos (in03.mpr ⟨c3, c4⟩), if_pos c5, if_pos c6, if_pos c7, if_pos c8, if_pos c9]
                    exact ⟨mI_sIs.trans xIAS_S.symm, h.thr⟩
                  · by_cases c10 : P_may p2 (f_yearNow M) (f_costOf (gI M 56 p3) p4 p5 p6 p7) M
                    · rw [if_pos ((h.n3 hL).mpr c1), if_pos ((num_cent hL).mpr c2), if_neg c3, if_pos c4, if_pos c5, if_pos c6, if_pos c7, if_pos c8, if_pos ((h.l57 hL).mpr c9), if_pos ((may_keep h c2 hY (h.cost hR (in03.mpr ⟨c3, c4⟩) c5 c6 c7)).mpr c10), if_pos c1, if_pos c2, if_pos (in03.mpr ⟨c3, c4⟩), if_pos c5, if_pos c6, if_pos c7, if_pos c8, if_neg c9, if_pos c10]
                      have ec := h.cost hR (p7 := p7) (in03.mpr ⟨c3, c4⟩) c5 c6 c7
                      rw [ec, h.rdJ (f := 197) (j := 8) (c := 0) (x := p1) rfl (h.d3 hL c1)]
                      have hlt : xSz X 26 0 < 30 := by
                        have h9 := (h.l57 hL).mpr c9
                        exact (nI_ltI (by have := hL.2.2.1; omega) (by omega)).mp (show nI (xSz X 26 0) < nI 30 from h9)
                      generalize f_costOf (gI M 56 p3) p4 p5 p6 p7 = v
                      refine ⟨rfl, ?_, fun X2 hN => ?_⟩
                      · show nI (xSz X 26 0 + 1) - 1 = mI M 57 + 1 - 1
                        rw [show mI M 57 = nI (xSz X 26 0) from h.z57.symm, nI_1]
                      have r0 := (h.thr (v := 0)).ntrip hL (v := v) hlt hN
                      have r1 := r0.spend (c := p2) (v := v) c2 hY
                      have r2 := r1.pJ (f := 197) (j := 8) (x := p1) (v := gJ M 8 p1 + v) rfl
                      have r3 := r2.postV (a := 0) (v := v) (z := gJ M 2 0 + v) (by decide) (by rw [gJ_rJn rfl, gJ_rJn rfl]; rfl)
                      have r4 := r3.postN (a := 8) (v := v) (z := gJ M 2 8 - v) (by decide) (by rw [gJ_rJc (by decide), gJ_rJn rfl, gJ_rJn rfl]; rfl)
                      exact r4
                    · rw [if_pos ((h.n3 hL).mpr c1), if_pos ((num_cent hL).mpr c2), if_neg c3, if_pos c4, if_pos c5, if_pos c6, if_pos c7, if_pos c8, if_pos ((h.l57 hL).mpr c9), if_neg (fun z => c10 ((may_keep h c2 hY (h.cost hR (in03.mpr ⟨c3, c4⟩) c5 c6 c7)).mp z)), if_pos c1, if_pos c2, if_pos (in03.mpr ⟨c3, c4⟩), if_pos c5, if_pos c6, if_pos c7, if_pos c8, if_neg c9, if_neg c10]
                      exact ⟨mI_sIs.trans xIAS_S.symm, h.thr⟩
                · rw [if_pos ((h.n3 hL).mpr c1), if_pos ((num_cent hL).mpr c2), if_neg c3, if_pos c4, if_pos c5, if_pos c6, if_pos c7, if_neg c8, if_pos c1, if_pos c2, if_pos (in03.mpr ⟨c3, c4⟩), if_pos c5, if_pos c6, if_pos c7, if_neg c8]
                  exact ⟨mI_sIs.trans xIAS_A.symm, h.thr⟩
              · rw [if_pos ((h.n3 hL).mpr c1), if_pos ((num_cent hL).mpr c2), if_neg c3, if_pos c4, if_pos c5, if_pos c6, if_neg c7, if_pos c1, if_pos c2, if_pos (in03.mpr ⟨c3, c4⟩), if_pos c5, if_pos c6, if_neg c7]
                exact ⟨mI_sIs.trans xIAS_A.symm, h.thr⟩
            · rw [if_pos ((h.n3 hL).mpr c1), if_pos ((num_cent hL).mpr c2), if_neg c3, if_pos c4, if_pos c5, if_neg c6, if_pos c1, if_pos c2, if_pos (in03.mpr ⟨c3, c4⟩), if_pos c5, if_neg c6]
              exact ⟨mI_sIs.trans xIAS_A.symm, h.thr⟩
          · rw [if_pos ((h.n3 hL).mpr c1), if_pos ((num_cent hL).mpr c2), if_neg c3, if_pos c4, if_neg c5, if_pos c1, if_pos c2, if_pos (in03.mpr ⟨c3, c4⟩), if_neg c5]
            exact ⟨mI_sIs.trans xIAS_A.symm, h.thr⟩
        · rw [if_pos ((h.n3 hL).mpr c1), if_pos ((num_cent hL).mpr c2), if_neg c3, if_neg c4, if_pos c1, if_pos c2, if_neg (fun z => c4 (in03.mp z).2)]
          exact ⟨mI_sIs.trans xIAS_I.symm, h.thr⟩
    · rw [if_pos ((h.n3 hL).mpr c1), if_neg (fun z => c2 ((num_cent hL).mp z)), if_pos c1, if_neg c2]
      exact ⟨mI_sIs.trans xIAS_I.symm, h.thr⟩
  · rw [if_neg (fun z => c1 ((h.n3 hL).mp z)), if_neg c1]
    exact ⟨mI_sIs.trans xIAS_I.symm, h.thr⟩
theorem fb_none {M : MS} {q : Int32} (h39 : cnt M 39 ≤ 60) (h : ∀ i, i < cnt M 39 → ¬ gn M 40 i = q) : f_bookedPieces q M = 0 ∧ f_heldPieces q M = 0 := by
  have hb : ∀ n, n ≤ cnt M 39 → it_bookedPieces q M n = 0 ∧ it_heldPieces q M n = 0 := fun n => by
    induction n with
    | zero => exact fun _ => ⟨rfl, rfl⟩
    | succ n ih =>
      intro hn
      obtain ⟨i1, i2⟩ := ih (by omega)
      have e : ¬ gI M 40 (nI n) = q := by
        rw [gI_n, nI_clamp (by omega)]
        exact h n (by omega)
      unfold it_bookedPieces it_heldPieces st_bookedPieces st_heldPieces
      rw [if_neg e, if_neg e, i1, i2]
      exact ⟨rfl, rfl⟩
  exact hb _ (Nat.le_refl _)
theorem RR.nline {X X2 : CX} {S : CT} {M : MS} {r : Nat} {p2 p3 p4 : Int32} (h : RR X S M) (hL : LVX X) (hr : r < xSz X 24 0) (hlt : xSz X 29 r < 4) (hN : NX (y_line X r p2 p3 p4) X2 29 r) (h30 : gn M 30 (4 * r + xSz X 29 r) = 0) (hI : ∀ i, i < cnt M 39 → ¬ gn M 40 i = nI (4 * r + xSz X 29 r)) : RR X2 (s_line X S r p2 p3 p4) (rI (rI (rI (rI M 27 (nI (4 * r + xSz X 29 r)) p2) 28 (nI (4 * r + xSz X 29 r)) p3) 29 (nI (4 * r + xSz X 29 r)) p4) 18 (nI r) (nI (xSz X 29 r) + 1)) := by
  have hb := hL.2.2.1
  have h18 : gn M 18 r = nI (xSz X 29 r) := h.2.2.2.1.2 r hr
  have hnd : ¬ dm M 9 (4 * r + xSz X 29 r) := fun z => by
    have h9 : (4 * r + xSz X 29 r) % 4 < (gn M 18 ((4 * r + xSz X 29 r) / 4)).toNatClampNeg := z.2
    rw [show (4 * r + xSz X 29 r) / 4 = r by omega, h18, nI_clamp (by omega)] at h9
    omega
  have h39 : cnt M 39 ≤ 60 := by rw [h.c39 hL]; exact hb.2.2.2.2.2.1
  have hY : xFi X2 = xFi (y_line X r p2 p3 p4) := hN.2.2.1
  have hYj : xFj X2 = xFj (y_line X r p2 p3 p4) := hN.2.2.2.1
  have hsz : xSz X2 = fun L j => if L = 29 ∧ j = r then xSz X 29 r + 1 else xSz X L j := hN.2.2.2.2.1
  obtain ⟨l, el⟩ : ∃ l, l = xSz X 29 r := ⟨_, rfl⟩
  rw [← el] at hlt h30 hI h18 hnd hsz ⊢
  obtain ⟨n, en⟩ : ∃ n, n = 4 * r + l := ⟨_, rfl⟩
  have hc : (nI (4 * r + l)).toNatClampNeg = n := by rw [nI_clamp (by omega), en]
  have hYf : ∀ f i, xFi X2 f i = xFi (fiX (fiX X 128 n p2) 129 n p4) f i := fun f i => by rw [hY, en, el]; rfl
  have hSf : s_line X S r p2 p3 p4 = si (si (si (si S 130 (nI n) p3) 131 (nI n) 0) 132 (nI n) 0) 133 (nI n) 0 := by rw [en, el]; rfl
  have hcn : (nI n).toNatClampNeg = n := by rw [nI_clamp (by omega)]
  rw [hSf]
  rw [← en] at h30 hI hnd ⊢
  generalize eN : rI (rI (rI (rI M 27 (nI n) p2) 28 (nI n) p3) 29 (nI n) p4) 18 (nI r) (nI l + 1) = N
  generalize eT : si (si (si (si S 130 (nI n) p3) 131 (nI n) 0) 132 (nI n) 0) 133 (nI n) 0 = T
  have hm : mI N = mI M := by rw [← eN]; rfl
  have hmj : mJ N = mJ M := by rw [← eN]; rfl
  have hl : ∀ a i, gl N a i = gl M a i := fun a i => by rw [← eN]; rfl
  have hcr : (nI r).toNatClampNeg = r := by rw [nI_clamp (by omega)]
  have hg : ∀ j i, ¬ ((j = 27 ∨ j = 28 ∨ j = 29) ∧ i = n) → ¬ (j = 18 ∧ i = r) → gn N j i = gn M j i := fun j i z1 z2 => by
    rw [← eN, gn_rI, hcr, if_neg z2, gn_rI, hcn, if_neg (fun y => z1 ⟨by omega, y.2⟩), gn_rI, hcn, if_neg (fun y => z1 ⟨by omega, y.2⟩), gn_rI, hcn, if_neg (fun y => z1 ⟨by omega, y.2⟩)]
  have g18 : gn N 18 r = nI (l + 1) := by rw [← eN, gn_rI, hcr, if_pos ⟨rfl, rfl⟩, nI_1]
  have g29 : gn N 29 n = p4 := by rw [← eN, gn_rIn (by decide), gn_rI, hcn, if_pos ⟨rfl, rfl⟩]
  have g28 : gn N 28 n = p3 := by rw [← eN, gn_rIn (by decide), gn_rIn (by decide), gn_rI, hcn, if_pos ⟨rfl, rfl⟩]
  have g27 : gn N 27 n = p2 := by rw [← eN, gn_rIn (by decide), gn_rIn (by decide), gn_rIn (by decide), gn_rI, hcn, if_pos ⟨rfl, rfl⟩]
  have g30 : gn N 30 n = 0 := by rw [hg 30 n (by omega) (by omega)]; exact h30
  have hS1 : ∀ f i, ¬ (f / 32 = 4 ∧ i = n) → T.1 f i = S.1 f i := fun f i z => by
    rw [← eT, s1_si, hcn, if_neg (fun y => z ⟨by omega, y.2⟩), s1_si, hcn, if_neg (fun y => z ⟨by omega, y.2⟩), s1_si, hcn, if_neg (fun y => z ⟨by omega, y.2⟩), s1_si, hcn, if_neg (fun y => z ⟨by omega, y.2⟩)]
  have hS2 : ∀ f i, T.2 f i = S.2 f i := fun f i => by rw [← eT]; rfl
  have k133 : T.1 133 n = 0 := by rw [← eT, s1_si, hcn, if_pos ⟨rfl, rfl⟩]
  have k132 : T.1 132 n = 0 := by rw [← eT, s1_sn (by decide), s1_si, hcn, if_pos ⟨rfl, rfl⟩]
  have k131 : T.1 131 n = 0 := by rw [← eT, s1_sn (by decide), s1_sn (by decide), s1_si, hcn, if_pos ⟨rfl, rfl⟩]
  have k130 : T.1 130 n = p3 := by rw [← eT, s1_sn (by decide), s1_sn (by decide), s1_sn (by decide), s1_si, hcn, if_pos ⟨rfl, rfl⟩]
  have hX1 : ∀ f i, ¬ (f / 32 = 4 ∧ i = n) → xFi X2 f i = xFi X f i := fun f i z => by
    rw [hYf, fi_o (fun y => z ⟨by rw [y.1], y.2⟩), fi_o (fun y => z ⟨by rw [y.1], y.2⟩)]
  have hd : ∀ c i, dm N c i ↔ dm M c i ∨ (c = 9 ∧ i = n) := by
    have hcn3 : ∀ j, cnt N j = cnt M j := fun j => by unfold cnt; rw [hm]
    intro c i
    by_cases e : c = 9
    · subst e
      show (i / 4 < cnt N 14 ∧ i % 4 < (gn N 18 (i / 4)).toNatClampNeg) ↔ (i / 4 < cnt M 14 ∧ i % 4 < (gn M 18 (i / 4)).toNatClampNeg) ∨ (9 = 9 ∧ i = n)
      rw [hcn3]
      by_cases e2 : i / 4 = r
      · rw [e2, g18, h18, nI_clamp (by omega), nI_clamp (by omega), h.c14 hL]
        omega
      · rw [hg 18 (i / 4) (by omega) (fun y => e2 y.2)]
        constructor
        · exact Or.inl
        · exact fun z => z.resolve_right (fun y => e2 (by omega))
    · refine Iff.trans ?_ (Iff.symm (or_iff_left (fun z => e z.1)))
      unfold dm
      simp only [hcn3]
      split <;> first | exact Iff.rfl | exact absurd rfl e
  have hne : ∀ i, dm M 9 i → i ≠ n := fun i z e => hnd (e ▸ z)
  obtain ⟨⟨r1, r2⟩, ⟨r3, r4, r5, r6, r7⟩, ⟨r8, r9⟩, ⟨r10, r11⟩, ⟨r12, r13⟩, r14, r15, r16, r17⟩ := h
  refine ⟨⟨fun t ht i hi => ?_, fun t ht i hi => ?_⟩, ⟨fun t ht i hi => ?_, fun t ht i hi => ?_, fun i hi => ?_, fun i hi => ?_, fun i hi => ?_⟩, ⟨fun t ht => ?_, ?_⟩, ⟨?_, fun q hq => ?_⟩, ⟨?_, fun i hi => ?_⟩, fun q hq => ?_, fun q hq => ?_, fun i hi => ?_, fun q u' hq hu z hz => ?_⟩
  · have h9 : ∀ t ∈ TI, (t.1 / 32 = 4 → t.2.2 = 9) ∧ ((t.2.1 = 27 ∨ t.2.1 = 28 ∨ t.2.1 = 29) → t.2.2 = 9) ∧ t.2.1 ≠ 18 := by decide
    obtain ⟨a1, a2, a3⟩ := h9 t ht
    rcases (hd _ _).mp hi with z | ⟨z1, z2⟩
    · rw [hS1 _ _ (fun y => hne i (a1 y.1 ▸ z) y.2), hg _ _ (fun y => hne i (a2 y.1 ▸ z) y.2) (fun y => a3 y.1)]
      exact r1 t ht i z
    · have h9 : ∀ t ∈ TI, t.2.2 = 9 → t = (130, 28, 9) ∨ t = (131, 30, 9) := by decide
      rw [z2]
      rcases h9 t ht z1 with rfl | rfl
      · exact k130.trans g28.symm
      · exact k131.trans g30.symm
  · have h9 : ∀ t ∈ TJ, t.2.2 ≠ 9 := by decide
    rw [hS2, hl]
    exact r2 t ht i (((hd _ _).mp hi).resolve_right (fun z => h9 t ht z.1))
  · have h9 : ∀ t ∈ TF, (t.1 / 32 = 4 → t.2.2 = 9) ∧ ((t.2.1 = 27 ∨ t.2.1 = 28 ∨ t.2.1 = 29) → t.2.2 = 9) ∧ t.2.1 ≠ 18 := by decide
    obtain ⟨a1, a2, a3⟩ := h9 t ht
    rcases (hd _ _).mp hi with z | ⟨z1, z2⟩
    · rw [hX1 _ _ (fun y => hne i (a1 y.1 ▸ z) y.2), hg _ _ (fun y => hne i (a2 y.1 ▸ z) y.2) (fun y => a3 y.1)]
      exact r3 t ht i z
    · have h9 : ∀ t ∈ TF, t.2.2 = 9 → t = (128, 27, 9) ∨ t = (129, 29, 9) := by decide
      rw [z2]
      rcases h9 t ht z1 with rfl | rfl
      · rw [hYf, g27, fi_sn rfl, fi_ss]
      · rw [hYf, g29, fi_ss]
  · have h9 : ∀ t ∈ TG, t.2.2 ≠ 9 := by decide
    rw [hYj, hl]
    exact r4 t ht i (((hd _ _).mp hi).resolve_right (fun z => h9 t ht z.1))
  · rw [hX1 _ _ (by omega)]
    exact r5 i (((hd 0 i).mp hi).resolve_right (by omega))
  · rw [hX1 _ _ (by omega)]
    exact r6 i hi
  · rw [hX1 _ _ (by omega), hX1 _ _ (by omega), hg 40 _ (by omega) (by omega), hg 21 _ (by omega) (by omega)]
    exact r7 i (((hd 2 i).mp hi).resolve_right (by omega))
  · have h9 : ∀ t ∈ T0, t.1 / 32 ≠ 4 := by decide
    rw [hS1 _ _ (fun y => h9 t ht y.1), hm]
    exact r8 t ht
  · rw [hS2, hmj]
    exact r9
  · have hs : ∀ L j, L ≠ 29 → xSz X2 L j = xSz X L j := fun L j z => by
      rw [hsz]
      exact if_neg (fun y => z y.1)
    rw [hm, hs _ _ (by decide), hs _ _ (by decide), hs _ _ (by decide), hs _ _ (by decide), hs _ _ (by decide)]
    exact r10
  · rw [hsz] at hq ⊢
    have hq2 : q < xSz X 24 0 := by
      have h9 : q < if (24 : Nat) = 29 ∧ (0 : Nat) = r then l + 1 else xSz X 24 0 := hq
      rw [if_neg (by omega)] at h9
      exact h9
    by_cases e : q = r
    · rw [e, g18]
      exact congrArg nI (if_pos ⟨rfl, rfl⟩).symm
    · rw [hg 18 q (by omega) (fun y => e y.2), r11 q hq2]
      exact congrArg nI (if_neg (fun y => e y.2)).symm
  · unfold RC
    rw [hS1 _ _ (by omega), hm]
    exact r12
  · rw [hg 6 _ (by omega) (by omega), hg 7 _ (by omega) (by omega), hS1 _ _ (by omega)]
    exact r13 i (((hd 0 i).mp hi).resolve_right (by omega))
  · rw [hS1 _ _ (by omega), hg 24 _ (by omega) (by omega), hg 25 _ (by omega) (by omega), gI_n, hg 23 _ (by omega) (by omega)]
    exact r14 q (((hd 1 q).mp hq).resolve_right (by omega))
  · have h9 := fb_cg (M := M) (M' := N) (q := nI q) (congrFun hm 39) (fun i => hg 40 _ (by omega) (by omega)) (fun i => hg 41 _ (by omega) (by omega)) (fun i => hg 44 _ (by omega) (by omega))
    rw [h9.1, h9.2]
    rcases (hd _ _).mp hq with z | ⟨_, z2⟩
    · rw [hS1 _ _ (fun y => hne q z y.2), hS1 _ _ (fun y => hne q z y.2)]
      exact r15 q z
    · have h8 := fb_none (M := M) (q := nI n) h39 hI
      rw [z2, k132, k133, h8.1, h8.2]
      exact ⟨rfl, rfl⟩
  · rw [hS1 _ _ (by omega), hS1 _ _ (by omega), hS1 _ _ (by omega), hS2, hl, hg 44 _ (by omega) (by omega), hg 52 _ (by omega) (by omega), hg 49 _ (by omega) (by omega), hg 50 _ (by omega) (by omega)]
    exact r16 i (((hd 2 i).mp hi).resolve_right (by omega))
  · rw [hS2, hl]
    exact r17 q u' hq hu z hz
theorem RR.l29 {X : CX} {S : CT} {M : MS} (h : RR X S M) (hL : LVX X) {p : Int32} (hp : P_isRequest p M) : nS X 29 p < 4 ↔ ¬ gI M 18 p = 4 := by
  obtain ⟨r, hr, h40, rfl, e, h4⟩ := h.rq hL hp
  have e1 : nS X 29 (nI r) = nI (xSz X 29 r) := by unfold nS; rw [nI_clamp (by omega)]
  rw [e1, gI_n, nI_clamp (by omega), e]
  exact lt_ne (n := xSz X 29 r) (N := 4) rfl rfl h4 (by decide)
theorem eq_line {X : CX} {S : CT} {M : MS} {p1 : Int32} {p2 : Int32} {p3 : Int32} {p4 : Int32} (hX : XOK X) (hL : LVX X) (h : RR X S M) (h30 : ∀ r, r < xSz X 24 0 → xSz X 29 r < 4 → gn M 30 (4 * r + xSz X 29 r) = 0) (hI : ∀ r, r < xSz X 24 0 → xSz X 29 r < 4 → ∀ i, i < cnt M 39 → ¬ gn M 40 i = nI (4 * r + xSz X 29 r)) : EQa X S xcIAS (y_line X p1.toNatClampNeg p2 p3 p4) 29 p1.toNatClampNeg (k_line p1 p2 p3 p4 X S) (f_line p1 p2 p3 p4 M) := by
  unfold k_line f_line
  by_cases c1 : P_isRequest p1 M
  · by_cases c2 : P_in p3 1 99
    · by_cases c3 : P_in p4 1 100000
      · by_cases c4 : (gI M 17 p1) = 0
        · by_cases c5 : (gI M 18 p1) = 4
          · rw [if_pos ((h.n14 hL).mpr c1), if_pos c2, if_pos c3, if_pos ((eq_keep (h.rdI (f := 259) (j := 17) (c := 1) (x := p1) rfl (h.d14 hL c1))).mpr c4), if_neg (fun z => ((h.l29 hL c1).mp z) c5), if_pos c1, if_pos c2, if_pos c3, if_pos c4, if_pos c5]
            exact ⟨mI_sIs.trans xIAS_S.symm, h.thr⟩
          · rw [if_pos ((h.n14 hL).mpr c1), if_pos c2, if_pos c3, if_pos ((eq_keep (h.rdI (f := 259) (j := 17) (c := 1) (x := p1) rfl (h.d14 hL c1))).mpr c4), if_pos ((h.l29 hL c1).mpr c5), if_pos c1, if_pos c2, if_pos c3, if_pos c4, if_neg c5]
            have hlt9 := (h.l29 hL c1).mpr c5
            obtain ⟨r, hr, h40, rfl, e, h4⟩ := h.rq hL c1
            have hcr : (nI r).toNatClampNeg = r := nI_clamp (by omega)
            have e1 : nS X 29 (nI r) = nI (xSz X 29 r) := by unfold nS; rw [hcr]
            have e18 : gI M 18 (nI r) = nI (xSz X 29 r) := by rw [gI_n, hcr, e]
            rw [e1] at hlt9
            have hlt : xSz X 29 r < 4 := (nI_ltI (by omega) (by omega)).mp (show nI (xSz X 29 r) < nI 4 from hlt9)
            have ex : 4 * nI r + gI M 18 (nI r) = nI (4 * r + xSz X 29 r) := by rw [e18, show (4 : Int32) = nI 4 from rfl, pk_mul, nI_add]
            rw [ex, e18, hcr]
            refine ⟨rfl, ?_, fun X2 hN => ?_⟩
            · show nI (xSz X 29 r + 1) = nI (xSz X 29 r) + 1
              rw [nI_1]
            exact (h.thr (v := 0)).nline hL hr hlt hN (h30 r hr hlt) (fun i hi => hI r hr hlt i hi)
        · rw [if_pos ((h.n14 hL).mpr c1), if_pos c2, if_pos c3, if_neg (fun z => c4 ((eq_keep (h.rdI (f := 259) (j := 17) (c := 1) (x := p1) rfl (h.d14 hL c1))).mp z)), if_pos c1, if_pos c2, if_pos c3, if_neg c4]
          exact ⟨mI_sIs.trans xIAS_S.symm, h.thr⟩
      · rw [if_pos ((h.n14 hL).mpr c1), if_pos c2, if_neg c3, if_pos c1, if_pos c2, if_neg c3]
        exact ⟨mI_sIs.trans xIAS_A.symm, h.thr⟩
    · rw [if_pos ((h.n14 hL).mpr c1), if_neg c2, if_pos c1, if_neg c2]
      exact ⟨mI_sIs.trans xIAS_A.symm, h.thr⟩
  · by_cases c6 : P_in p3 1 99
    · by_cases c7 : P_in p4 1 100000
      · rw [if_neg (fun z => c1 ((h.n14 hL).mp z)), if_neg c1, if_pos c6, if_pos c7]
        exact ⟨mI_sIs.trans xIAS_I.symm, h.thr⟩
      · rw [if_neg (fun z => c1 ((h.n14 hL).mp z)), if_neg c1, if_pos c6, if_neg c7]
        exact ⟨mI_sIs.trans xIAS_I.symm, h.thr⟩
    · rw [if_neg (fun z => c1 ((h.n14 hL).mp z)), if_neg c1, if_neg c6]
      exact ⟨mI_sIs.trans xIAS_I.symm, h.thr⟩
