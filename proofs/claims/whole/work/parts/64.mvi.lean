set_option maxRecDepth 10000 in
theorem mv_dayO {M : MS}  (h : MV M) : MV (f_day  M).2 := by
  unfold f_day
  exact h.thr
set_option maxRecDepth 10000 in
theorem mv_centre {M : MS} {p1 : Int32} {p2 : Int32} {p3 : Int32} (h : MV M) : MV (f_centre p1 p2 p3 M).2 := by
  unfold f_centre
  by_cases c1 : P_isCentre p1
  · rw [if_pos c1]
    by_cases c2 : P_isYear p2
    · rw [if_pos c2]
      by_cases c3 : P_in p3 0 3
      · rw [if_pos c3]
        by_cases c4 : p3 = 3
        · rw [if_pos c4]
          exact h.thr
        · rw [if_neg c4]
          exact h.thr
      · rw [if_neg c3]
        exact h.thr
    · rw [if_neg c2]
      exact h.thr
  · rw [if_neg c1]
    exact h.thr
set_option maxRecDepth 10000 in
theorem mv_requestOf {M : MS} {p1 : Int32} {p2 : Int32} (h : MV M) : MV (f_requestOf p1 p2 M).2 := by
  unfold f_requestOf
  by_cases c1 : P_isRequest p1 M
  · rw [if_pos c1]
    by_cases c2 : P_in p2 0 5
    · rw [if_pos c2]
      by_cases c3 : 3 ≤ p2
      · rw [if_pos c3]
        by_cases c4 : p2 = 3
        · rw [if_pos c4]
          exact h.thr
        · rw [if_neg c4]
          by_cases c5 : p2 = 5
          · rw [if_pos c5]
            exact h.thr
          · rw [if_neg c5]
            by_cases c6 : (gI M 17 p1) = 1
            · rw [if_pos c6]
              exact h.thr
            · rw [if_neg c6]
              exact h.thr
      · rw [if_neg c3]
        by_cases c7 : p2 = 0
        · rw [if_pos c7]
          exact h.thr
        · rw [if_neg c7]
          by_cases c8 : p2 = 1
          · rw [if_pos c8]
            exact h.thr
          · rw [if_neg c8]
            exact h.thr
    · rw [if_neg c2]
      exact h.thr
  · rw [if_neg c1]
    exact h.thr
set_option maxRecDepth 10000 in
theorem mv_next {M : MS} {p1 : Int32} (h : MV M) : MV (f_next p1 M).2 := by
  unfold f_next
  by_cases c1 : P_isRequest p1 M
  · rw [if_pos c1]
    by_cases c2 : (gI M 17 p1) = 1
    · rw [if_pos c2]
      rw [if_pos c2]
      by_cases c3 : (f_byTurn p1 (sI M 0 0)) = (-1)
      · rw [if_pos c3]
        exact h.thr
      · rw [if_neg c3]
        exact h.thr
    · rw [if_neg c2]
      rw [if_neg c2]
      exact h.thr
  · rw [if_neg c1]
    exact h.thr
set_option maxRecDepth 10000 in
theorem mv_lineOf {M : MS} {p1 : Int32} {p2 : Int32} {p3 : Int32} (h : MV M) : MV (f_lineOf p1 p2 p3 M).2 := by
  unfold f_lineOf
  by_cases c1 : P_isLine p1 p2 M
  · rw [if_pos c1]
    by_cases c2 : P_in p3 0 4
    · rw [if_pos c2]
      by_cases c3 : 2 ≤ p3
      · rw [if_pos c3]
        by_cases c4 : p3 = 2
        · rw [if_pos c4]
          exact h.thr
        · rw [if_neg c4]
          by_cases c5 : p3 = 3
          · rw [if_pos c5]
            exact h.thr
          · rw [if_neg c5]
            exact h.thr
      · rw [if_neg c3]
        by_cases c6 : p3 = 0
        · rw [if_pos c6]
          exact h.thr
        · rw [if_neg c6]
          exact h.thr
    · rw [if_neg c2]
      exact h.thr
  · rw [if_neg c1]
    exact h.thr
set_option maxRecDepth 10000 in
theorem mv_invoiceOf {M : MS} {p1 : Int32} {p2 : Int32} (h : MV M) : MV (f_invoiceOf p1 p2 M).2 := by
  unfold f_invoiceOf
  by_cases c1 : P_isInvoice p1 M
  · rw [if_pos c1]
    by_cases c2 : P_in p2 0 7
    · rw [if_pos c2]
      by_cases c3 : (gI M 44 p1) = 0
      · rw [if_pos c3]
        by_cases c4 : 3 ≤ p2
        · rw [if_pos c4]
          by_cases c5 : 6 ≤ p2
          · rw [if_pos c5]
            by_cases c6 : p2 = 6
            · rw [if_pos c6]
              exact h.thr
            · rw [if_neg c6]
              by_cases c7 : (gI M 53 p1) = 0
              · rw [if_pos c7]
                exact h.thr
              · rw [if_neg c7]
                exact h.thr
          · rw [if_neg c5]
            by_cases c8 : p2 = 3
            · rw [if_pos c8]
              exact h.thr
            · rw [if_neg c8]
              by_cases c9 : p2 = 4
              · rw [if_pos c9]
                exact h.thr
              · rw [if_neg c9]
                by_cases c10 : (gI M 44 p1) = 1
                · rw [if_pos c10]
                  exact h.thr
                · rw [if_neg c10]
                  exact h.thr
        · rw [if_neg c4]
          by_cases c11 : p2 = 0
          · rw [if_pos c11]
            exact h.thr
          · rw [if_neg c11]
            by_cases c12 : p2 = 2
            · rw [if_pos c12]
              exact h.thr
            · rw [if_neg c12]
              exact h.thr
      · rw [if_neg c3]
        by_cases c13 : 3 ≤ p2
        · rw [if_pos c13]
          by_cases c14 : 6 ≤ p2
          · rw [if_pos c14]
            by_cases c15 : p2 = 6
            · rw [if_pos c15]
              exact h.thr
            · rw [if_neg c15]
              by_cases c16 : (gI M 53 p1) = 0
              · rw [if_pos c16]
                exact h.thr
              · rw [if_neg c16]
                exact h.thr
          · rw [if_neg c14]
            by_cases c17 : p2 = 3
            · rw [if_pos c17]
              exact h.thr
            · rw [if_neg c17]
              by_cases c18 : p2 = 4
              · rw [if_pos c18]
                exact h.thr
              · rw [if_neg c18]
                by_cases c19 : (gI M 44 p1) = 1
                · rw [if_pos c19]
                  exact h.thr
                · rw [if_neg c19]
                  exact h.thr
        · rw [if_neg c13]
          by_cases c20 : p2 = 0
          · rw [if_pos c20]
            exact h.thr
          · rw [if_neg c20]
            by_cases c21 : p2 = 2
            · rw [if_pos c21]
              exact h.thr
            · rw [if_neg c21]
              exact h.thr
    · rw [if_neg c2]
      exact h.thr
  · rw [if_neg c1]
    exact h.thr
set_option maxRecDepth 10000 in
theorem mv_staff {M : MS} {p1 : Int32} {p2 : Int32} (h : MV M) : MV (f_staff p1 p2 M).2 := by
  unfold f_staff
  by_cases c1 : P_isPerson p1 M
  · rw [if_pos c1]
    by_cases c2 : P_in p2 0 1
    · rw [if_pos c2]
      by_cases c3 : p2 = 0
      · rw [if_pos c3]
        exact h.thr
      · rw [if_neg c3]
        exact h.thr
    · rw [if_neg c2]
      exact h.thr
  · rw [if_neg c1]
    exact h.thr
set_option maxRecDepth 10000 in
theorem mv_tripCost {M : MS} {p1 : Int32} (h : MV M) : MV (f_tripCost p1 M).2 := by
  unfold f_tripCost
  by_cases c1 : P_in p1 0 ((mI M 57) - 1)
  · rw [if_pos c1]
    exact h.thr
  · rw [if_neg c1]
    exact h.thr
set_option maxRecDepth 10000 in
theorem mv_isTold {M : MS} {p1 : Int32} (h : MV M) : MV (f_isTold p1 M).2 := by
  unfold f_isTold
  by_cases c1 : P_in p1 0 ((mI M 59) - 1)
  · rw [if_pos c1]
    by_cases c2 : (gI M 62 p1) = 0
    · rw [if_pos c2]
      exact h.thr
    · rw [if_neg c2]
      exact h.thr
  · rw [if_neg c1]
    exact h.thr
set_option maxRecDepth 10000 in
theorem mv_account {M : MS} {p1 : Int32} (h : MV M) : MV (f_account p1 M).2 := by
  unfold f_account
  by_cases c1 : P_in p1 0 8
  · rw [if_pos c1]
    exact h.thr
  · rw [if_neg c1]
    exact h.thr
set_option maxRecDepth 10000 in
theorem mv_isSampled {M : MS} {p1 : Int32} {p2 : Int32} (h : MV M) : MV (f_isSampled p1 p2 M).2 := by
  unfold f_isSampled
  by_cases c1 : P_in p1 0 2
  · rw [if_pos c1]
    by_cases c2 : p1 = 0
    · rw [if_pos c2]
      by_cases c3 : P_in p2 0 ((mI M 39) - 1)
      · rw [if_pos c3]
        by_cases c4 : (f_isIn p1 p2 (sI M 0 0)) = 0
        · rw [if_pos c4]
          exact h.thr
        · rw [if_neg c4]
          exact h.thr
      · rw [if_neg c3]
        exact h.thr
    · rw [if_neg c2]
      by_cases c5 : p1 = 1
      · rw [if_pos c5]
        by_cases c6 : P_in p2 0 ((mI M 57) - 1)
        · rw [if_pos c6]
          by_cases c7 : (f_isIn p1 p2 (sI M 0 0)) = 0
          · rw [if_pos c7]
            exact h.thr
          · rw [if_neg c7]
            exact h.thr
        · rw [if_neg c6]
          exact h.thr
      · rw [if_neg c5]
        by_cases c8 : P_in p2 0 ((mI M 59) - 1)
        · rw [if_pos c8]
          by_cases c9 : (f_isIn p1 p2 (sI M 0 0)) = 0
          · rw [if_pos c9]
            exact h.thr
          · rw [if_neg c9]
            exact h.thr
        · rw [if_neg c8]
          exact h.thr
  · rw [if_neg c1]
    by_cases c10 : p1 = 0
    · rw [if_pos c10]
      exact h.thr
    · rw [if_neg c10]
      by_cases c11 : p1 = 1
      · rw [if_pos c11]
        exact h.thr
      · rw [if_neg c11]
        exact h.thr
section HD
variable {M : MS}
theorem MV.le3 (h : MV M) : LE (mI M 3) 12 := ⟨_, h.2.1.1.1, h.2.1.1.2⟩
theorem MV.le14 (h : MV M) : LE (mI M 14) 40 := ⟨_, h.2.2.2.2.2.2.1.1.1, h.2.2.2.2.2.2.1.1.2⟩
theorem MV.le39 (h : MV M) : LE (mI M 39) 60 := ⟨_, h.2.2.2.2.2.2.2.2.1.1, h.2.2.2.2.2.2.2.2.1.2⟩
theorem MV.le57 (h : MV M) : LE (mI M 57) 30 := ⟨_, h.2.2.2.2.2.1.1, h.2.2.2.2.2.1.2⟩
theorem MV.le59 (h : MV M) : LE (mI M 59) 40 := ⟨_, h.2.2.2.2.1.1.1, h.2.2.2.2.1.1.2⟩
theorem MV.yr (h : MV M) : P_isYear (f_yearNow M) := h.1.yr
theorem MV.d0 (h : MV M) : ¬ mI M 1 < 0 := by
  obtain ⟨d, hd, e⟩ := h.1
  rw [e]
  exact Int32.not_lt.mpr (nI_pos' (by omega))
theorem MV.d1079 (h : MV M) : P_in (mI M 1) 0 1079 := by
  obtain ⟨d, hd, e⟩ := h.1
  rw [e]
  exact ⟨nI_pos' (by omega), show nI d ≤ nI 1079 from nI_le (by omega) (by decide)⟩
theorem MV.ek (h : MV M) {p : Int32} (hp : P_isRequest p M) : EK M p := by
  obtain ⟨r, hr, e⟩ := rq_of h.2.2.2.2.2.2.1.1 hp
  rw [e]
  exact h.2.2.2.2.2.2.1.2.1 r hr
theorem MV.qk (h : MV M) : ∀ p, P_isRequest p M → QK M p := fun p hp => (h.ek hp).1
theorem MV.in12 (h : MV M) {b : Int32} (hb : P_isPerson b M) : vp_in b 12 := by
  obtain ⟨i, hi, e⟩ := per_of h.2.1.1 hb
  have h12 := h.2.1.1.1
  rw [e]
  exact vp_in_nI (by omega) (by decide)
theorem in_vp {x : Int32} {n : Nat} (hn : n < 2 ^ 30) (h : P_in x 0 (nI n)) : vp_in x (n + 1) := by
  obtain ⟨j, hj, e⟩ := in_cases hn h
  rw [e]
  exact vp_in_nI (by omega) (by omega)
theorem MV.rq (h : MV M) : ∀ r, P_isRequest r M → RqOK M r := fun p hp => by
  obtain ⟨r, hr, e⟩ := rq_of h.2.2.2.2.2.2.1.1 hp
  have h40 := h.2.2.2.2.2.2.1.1.1
  obtain ⟨⟨g1, g2, g3, g4, ⟨t, n, a, hn, ha, e24, e25, hj⟩, g6, g7, g8, g9⟩, q1, ⟨l, hl, e18⟩, q3⟩ := h.ek hp
  refine ⟨by rw [e]; exact vp_in_nI (by omega) (by decide), h.in12 g2, g1, ⟨l, hl, e18⟩, g3.2, fun z => ?_, fun z => h.in12 (g4.resolve_left z)⟩
  rw [e24, e25] at z
  have han : a < n := by
    rcases Nat.lt_or_ge a n with y | y
    · exact y
    · exact absurd (nI_le y (by omega)) z
  have h9 := h.in12 (hj a han).1
  rw [e25]
  refine ⟨?_, h9⟩
  rw [e, show (12 : Int32) = nI 12 from rfl, pk_mul, nI_add]
  exact vp_in_nI (by omega) (by decide)
theorem MV.hbs (h : MV M) {p : Int32} (hp : P_isRequest p M) : ∀ j, j < 12 → gI M 4 (nI j) = -1 ∨ ∃ j2, j2 < j ∧ gI M 4 (nI j) = nI j2 := fun j hj => by
  obtain ⟨i, hi, -⟩ := per_of h.2.1.1 (h.qk p hp).2.1
  rw [gI_n, nI_clamp (by omega)]
  by_cases c : j < cnt M 3
  · exact h.2.1.2.2.2.1 j c
  · exact Or.inr ⟨0, by omega, (h.2.1.2.2.2.2.2 j (by omega)).1⟩
theorem MV.gk (h : MV M) {v : Int32} (hv : P_isInvoice v M) : ∃ i, i < cnt M 39 ∧ v = nI i ∧ GK M i := by
  obtain ⟨i, hi, e⟩ := iv_of h.2.2.2.2.2.2.2.2.1 hv
  exact ⟨i, hi, e, h.2.2.2.2.2.2.2.2.2.1 i hi⟩
theorem MV.vv (h : MV M) : VV M := fun v hv => by
  obtain ⟨i, hi, e, ⟨g1, g1'⟩, g2, g3⟩ := h.gk hv
  have h60 := h.2.2.2.2.2.2.2.2.1.1
  have h40 := h.2.2.2.2.2.2.1.1
  rw [e, gI_n, nI_clamp (by omega)]
  refine ⟨⟨g1, g1'⟩, ?_⟩
  have hq : (gn M 40 i).toNatClampNeg / 4 < cnt M 14 := g1.1
  have hr := req_n h40.1 h40.2 hq
  have e4 : gn M 40 i / 4 = nI ((gn M 40 i).toNatClampNeg / 4) := by
    rw [← g1', nI_clamp (by omega)]
    exact q4_nI (by omega)
  rw [e4]
  refine (h.qk _ hr).2.2.2.2.2.2.1 ?_
  rw [gI_n, nI_clamp (by omega)]
  exact g2
theorem MV.hc (h : MV M) : ∀ i, i < 6 → P_in (gn M 32 i) 0 2 := fun i hi => (h.2.2.2.1.1 i hi).2.1
theorem MV.iv (h : MV M) : HV M := fun v hv => by
  obtain ⟨i, hi, e, ⟨g1, g1'⟩, g2, g3⟩ := h.gk hv
  have h60 := h.2.2.2.2.2.2.2.2.1.1
  have h40 := h.2.2.2.2.2.2.1.1
  have h9 := h.vv v hv
  have hq : (gn M 40 i).toNatClampNeg / 4 < cnt M 14 := g1.1
  have e40 : gI M 40 v = nI (gn M 40 i).toNatClampNeg := by rw [e, gI_n, nI_clamp (by omega)]; exact g1'.symm
  have e4 : gI M 40 v / 4 = nI ((gn M 40 i).toNatClampNeg / 4) := by rw [e40]; exact q4_nI (by omega)
  have hr := req_n h40.1 h40.2 hq
  have h21 := h9.2
  obtain ⟨s, hs, es⟩ := in_cases (n := 5) (by decide) h21
  refine ⟨by rw [e]; exact vp_in_nI (by omega) (by decide), by rw [e40]; exact vp_in_nI (by omega) (by decide), by rw [e4]; exact vp_in_nI (by omega) (by decide), by rw [e4]; exact h.rq _ hr, in_vp (n := 5) (by decide) h21, ?_⟩
  rw [es, gI_n, nI_clamp (by omega)]
  exact in_vp (n := 2) (by decide) (h.hc s (by omega))
theorem MV.u (h : MV M) : ∀ b, P_isPerson b M → gI M 6 b = 0 ∨ P_isPerson (gI M 7 b) M := fun b hb => Or.inr (h.2.1.2.2.2.2.1 b hb)
theorem MV.s21 (h : MV M) : ∀ p, P_isRequest p M → gI M 21 p = -1 ∨ P_in (gI M 21 p) 0 5 := fun p hp => (h.ek hp).2.1
theorem MV.hn (h : MV M) : ∀ p, P_isRequest p M → gI M 17 p = 2 → ∀ i, dm M 2 i → (gn M 40 i).toNatClampNeg / 4 ≠ p.toNatClampNeg := fun p hp h2 i hi e => by
  have h9 := (h.2.2.2.2.2.2.2.2.2.1 i hi).2.1
  rw [e] at h9
  change gI M 17 p = 4 ∨ gI M 17 p = 5 at h9
  rw [h2] at h9
  exact absurd h9 (by decide)
theorem MV.he (h : MV M) : ∀ e, P_in e 0 (mI M 59 - 1) → P_isPerson (gI M 60 e) M ∧ P_in (gI M 61 e) 1 1000000 := fun e he => by
  obtain ⟨i, hi, ei⟩ := cn_of h.2.2.2.2.1.1 (by decide) he
  have h40 := h.2.2.2.2.1.1.1
  have h9 := h.2.2.2.2.1.2.1 i hi
  rw [ei, gI_n, gI_n, nI_clamp (by omega)]
  exact ⟨h9.1, h9.2.1⟩
theorem MV.h62 (h : MV M) : ∀ e, P_in e 0 (mI M 59 - 1) → gI M 62 e = 0 ∨ gI M 62 e = 1 := fun e he => by
  obtain ⟨i, hi, ei⟩ := cn_of h.2.2.2.2.1.1 (by decide) he
  have h40 := h.2.2.2.2.1.1.1
  rw [ei, gI_n, nI_clamp (by omega)]
  exact (h.2.2.2.2.1.2.1 i hi).2.2
theorem MV.h53 (h : MV M) : ∀ v, P_isInvoice v M → gI M 53 v = 0 ∨ gI M 53 v = 1 := fun v hv => by
  obtain ⟨i, hi, e, g⟩ := h.gk hv
  have h60 := h.2.2.2.2.2.2.2.2.1.1
  rw [e, gI_n, nI_clamp (by omega)]
  exact g.2.2.2.1
theorem MV.h41 (h : MV M) : ∀ v, P_isInvoice v M → P_in (gI M 41 v) 1 99 := i41_of h.to0.2.2.2.2.2.2.2.2
theorem MV.h49 (h : MV M) : ∀ v, P_isInvoice v M → gI M 44 v = 1 → P_in (gI M 49 v) 0 1079 := fun v hv h1 => by
  obtain ⟨i, hi, e, g⟩ := h.gk hv
  have h60 := h.2.2.2.2.2.2.2.2.1.1
  rw [e, gI_n, nI_clamp (by omega)] at h1 ⊢
  exact g.2.2.2.2 (by rw [h1]; decide)
theorem MV.hw (h : MV M) : ∀ v, P_isInvoice v M → gI M 44 v = 0 → ¬ f_why v M = 0 := fun v hv h0 => by
  obtain ⟨i, hi, e, g⟩ := h.gk hv
  have h60 := h.2.2.2.2.2.2.2.2.1.1
  rw [e]
  refine h.2.2.2.2.2.2.2.2.2.2.2 i hi ?_
  rw [e, gI_n, nI_clamp (by omega)] at h0
  exact h0
theorem MV.h30 (h : MV M) : ∀ q : Int32, dm M 9 q.toNatClampNeg → P_in (gI M 30 q) 0 99 := fun q hq => (h.2.2.2.2.2.2.2.1.1 _ hq).2.2
theorem MV.hln (h : MV M) : ∀ q : Int32, dm M 9 q.toNatClampNeg → P_in (gI M 28 q) 1 99 ∧ P_in (gI M 29 q) 1 100000 := fun q hq => ⟨(h.2.2.2.2.2.2.2.1.1 _ hq).1, (h.2.2.2.2.2.2.2.1.1 _ hq).2.1⟩
theorem MV.ht (h : MV M) : ∀ p, P_isRequest p M → gJ M 19 p ≤ 1000000000 := fun p hp => by
  obtain ⟨r, hr, e⟩ := rq_of h.2.2.2.2.2.2.1.1 hp
  have h40 := h.2.2.2.2.2.2.1.1.1
  have hk := h.2.2.2.2.2.2.1.2.1 r hr
  have tb := tot_bd h.2.2.2.2.2.2.2.1 hr h40 (hk.e18 (by omega))
  rw [← e] at hk tb
  rw [Int64.le_iff_toInt_le, show (1000000000 : Int64).toInt = 1000000000 from by decide]
  rcases hk.2.2.2 with z | z
  · have := z.2.2
    omega
  · rw [z.2]; decide
theorem MV.hr (h : MV M) : ∀ i, i < 4 → P_in (gn M 56 i) 0 50000 := h.2.2.2.1.2
theorem MV.h35 (h : MV M) : ∀ i, i < 6 → P_in (gn M 35 i) 0 30 := fun i hi => (h.2.2.2.1.1 i hi).2.2
theorem nar_01 {v : Int32} (h : v = 0 ∨ v = 1) : narrow .boolean (.int v) = .int v := by
  rcases h with rfl | rfl <;> decide
theorem MV.soft (h : MV M) {p : Int32} (hp : P_isCentre p) : gI M 12 p = 0 ∨ gI M 12 p = 1 := by
  obtain ⟨q, hq, e⟩ := cent_of hp
  rw [e, gI_n, nI_clamp (by omega)]
  exact (h.2.2.2.1.1 q hq).1
end HD
/-- class, reference and what always holds of both -/
def IN (X : CX) (S : CT) (M : MS) : Prop := XOK X ∧ LVX X ∧ RR X S M ∧ MV M
section HI9
variable {X : CX} {S : CT} {M : MS}
theorem lvX (hL : LVX X) {kd i : Nat} : lv X kd i ↔ lvb X kd i := hL.1 kd i
theorem lI_of (hL : LVX X) {kd : Nat} {x : Int32} (h : lI X kd x) : ∃ n, n < 2 ^ 30 ∧ x = nI n ∧ lvb X kd n := by
  obtain ⟨n, hn, e, hl⟩ := h
  exact ⟨n, hn, e, (lvX hL).mp hl⟩
theorem of_lI (hL : LVX X) {kd n : Nat} (hn : n < 2 ^ 30) (h : lvb X kd n) : lI X kd (nI n) := ⟨n, hn, rfl, (lvX hL).mpr h⟩
theorem IN.lP (h : IN X S M) {b : Int32} (hb : P_isPerson b M) : lI X 6 b := by
  obtain ⟨i, hi, e⟩ := per_of h.2.2.2.2.1.1 hb
  have h12 := h.2.2.2.2.1.1.1
  rw [e]
  exact of_lI h.2.1 (by omega) (show i < xSz X 20 0 by rw [← h.2.2.1.c3 h.2.1]; exact hi)
theorem IN.pl (h : IN X S M) {b : Int32} (hb : lI X 6 b) : P_isPerson b M := by
  obtain ⟨i, hi, e, hl⟩ := lI_of h.2.1 hb
  have hl' : i < xSz X 20 0 := hl
  rw [← h.2.2.1.c3 h.2.1] at hl'
  rw [e]
  exact of_cn h.2.2.2.2.1.1 (by decide) hl'
theorem IN.rl (h : IN X S M) {r : Int32} (hr : lI X 8 r) : P_isRequest r M := by
  obtain ⟨i, hi, e, hl⟩ := lI_of h.2.1 hr
  have hl' : i < xSz X 24 0 := hl
  rw [← h.2.2.1.c14 h.2.1] at hl'
  rw [e]
  exact req_n h.2.2.2.2.2.2.2.2.2.1.1.1 h.2.2.2.2.2.2.2.2.2.1.1.2 hl'
theorem IN.ts (h : IN X S M) : TS X S := by
  obtain ⟨hX, hL, hR, hM⟩ := h
  have hI : IN X S M := ⟨hX, hL, hR, hM⟩
  refine ⟨?_, fun x hx => ?_, fun x hx => ?_, fun x hx => ?_⟩
  · have h9 : S.1 362 0 = _ := hR.2.2.2.2.1.1
    by_cases c : mI M 3 = 0
    · rw [if_pos c] at h9
      exact Or.inl h9
    · rw [if_neg c] at h9
      exact Or.inr (by rw [show ci S 362 0 = mI M 10 from h9]; exact hI.lP (hM.2.1.2.2.1 c))
  · have hp := hI.pl hx
    have hd := hR.d3 hL hp
    have h9 := hR.2.2.2.2.1.2 _ hd
    rcases h9 with z | z
    · exact Or.inl z.2
    · exact Or.inr (by rw [show ci S 196 x = gI M 7 x from z]; exact hI.lP (hM.2.1.2.2.2.2.1 x hp))
  · obtain ⟨i, hi, e, hl⟩ := lI_of hL hx
    have hl' : i < 6 := hl
    have e9 : ci S 289 x = gI M 32 x := hR.rdI (f := 289) (j := 32) (c := 5) rfl (by rw [e, nI_clamp (by omega)]; exact hl')
    rw [e9, e, gI_n, nI_clamp (by omega)]
    obtain ⟨j, hj, ej⟩ := in_cases (n := 2) (by decide) (hM.hc i hl')
    rw [ej]
    exact of_lI hL (by omega) (show j < 3 by omega)
  · have hp := hI.rl hx
    have hd := hR.d14 hL hp
    have hk := hM.ek hp
    refine ⟨?_, ?_, ?_⟩
    · have h9 := hR.2.2.2.2.2.1 _ hd
      obtain ⟨r, hr, e⟩ := rq_of hM.2.2.2.2.2.2.1.1 hp
      have h40 := hM.2.2.2.2.2.2.1.1.1
      have cl : x.toNatClampNeg = r := by rw [e, nI_clamp (by omega)]
      obtain ⟨t, n, a, hn, ha, e24, e25, hj⟩ := hk.1.2.2.2.2.1
      rw [show gn M 24 x.toNatClampNeg = nI n from e24, show gn M 25 x.toNatClampNeg = nI a from e25] at h9
      by_cases c : nI n ≤ nI a
      · rw [if_pos c] at h9
        exact Or.inl h9
      · rw [if_neg c] at h9
        have han : a < n := by
          rcases Nat.lt_or_ge a n with y | y
          · exact y
          · exact absurd (nI_le y (by omega)) c
        refine Or.inr ?_
        rw [show ci S 262 x = gI M 23 (12 * nI x.toNatClampNeg + nI a) from h9, show nI x.toNatClampNeg = x by rw [cl, e]]
        exact hI.lP (hj a han).1
    · rw [hR.rdI (f := 263) (j := 26) (c := 1) (x := x) rfl hd]
      exact hk.1.2.2.2.1.imp id (fun z => hI.lP z)
    · rw [hR.rdI (f := 264) (j := 21) (c := 1) (x := x) rfl hd]
      refine hk.2.1.imp id (fun z => ?_)
      obtain ⟨j, hj, ej⟩ := in_cases (n := 5) (by decide) z
      rw [ej]
      exact of_lI hL (by omega) (show j < 6 by omega)
theorem IN.bs (h : IN X S M) : BS X := fun j hj => by
  obtain ⟨hX, hL, hR, hM⟩ := h
  have hl : j < xSz X 20 0 := (lvX hL).mp hj
  rw [← hR.c3 hL] at hl
  have h12 := hM.2.1.1.1
  refine ⟨by omega, ?_⟩
  have e : xi X 193 (nI j) = gn M 4 j := (hR.rdF (f := 193) (j := 4) (c := 0) (x := nI j) rfl (by rw [nI_clamp (by omega)]; exact hl)).trans (by rw [gI_n, nI_clamp (by omega)])
  rw [e]
  exact hM.2.1.2.2.2.1 j hl
theorem yr_num {u : Int32} (h : P_isYear u) : P_num u (nI 3) := by
  obtain ⟨q, hq, e⟩ := year_of h
  rw [e]
  exact ⟨nI_pos' (by omega), nI_lt hq (by decide)⟩
theorem s28 (hL : LVX X) {x : Int32} (hx : lI X 1 x) : nS X 28 x = nI 3 := by
  obtain ⟨i, hi, e, hl⟩ := lI_of hL hx
  have hl' : i < 6 := hl
  unfold nS
  rw [e, nI_clamp (by omega), hL.2.2.2.1 i hl']
theorem s28c (hL : LVX X) {x : Int32} (hx : P_isCentre x) : nS X 28 x = nI 3 := by
  obtain ⟨q, hq, e⟩ := cent_of hx
  exact s28 hL (by rw [e]; exact of_lI hL (by omega) (show q < 6 from hq))
theorem IN.lc (h : IN X S M) : LC X S := by
  obtain ⟨hX, hL, hR, hM⟩ := h
  have hI : IN X S M := ⟨hX, hL, hR, hM⟩
  refine ⟨fun x hx => ?_, fun r hr h0 => ?_⟩
  · rw [s28 hL hx, hR.year]
    exact yr_num hM.yr
  · have hp := hI.rl hr
    have hd := hR.d14 hL hp
    have hk := (hM.ek hp).1
    rw [hR.rdJ (f := 261) (j := 19) (c := 1) rfl hd] at h0
    rw [hR.rdI (f := 260) (j := 20) (c := 1) rfl hd, hR.rdF (f := 257) (j := 16) (c := 1) rfl hd, s28c hL hk.1]
    exact yr_num (hk.2.2.1.2 h0)
theorem IN.yrx (h : IN X S M) : YR X S := fun r hr h4 => by
  obtain ⟨hX, hL, hR, hM⟩ := h
  have hI : IN X S M := ⟨hX, hL, hR, hM⟩
  have hp := hI.rl hr
  have hd := hR.d14 hL hp
  have hk := (hM.ek hp).1
  rw [hR.rdI (f := 259) (j := 17) (c := 1) rfl hd] at h4
  rw [hR.rdI (f := 260) (j := 20) (c := 1) rfl hd, hR.rdF (f := 257) (j := 16) (c := 1) rfl hd, s28c hL hk.1]
  exact yr_num (hk.2.2.2.2.2.2.2.1 h4)
theorem IN.clo (h : IN X S M) {p1 : Int32} (c1 : P_in p1 1 360) (c2 : ci S 363 0 + p1 ≤ 1079) (c3 : ¬ k_thisYear X (si S 363 0 (ci S 363 0 + p1)) ≤ k_thisYear X S) : ∀ x, lI X 1 x → P_num (k_thisYear X S) (nS X 28 x) ∧ P_num (k_thisYear X S + 1) (nS X 28 x) := fun x hx => by
  obtain ⟨hX, hL, hR, hM⟩ := h
  obtain ⟨d, hd, e1⟩ := hM.1
  obtain ⟨p, hp, rfl⟩ : ∃ p, p ≤ 360 ∧ p1 = nI p := in_cases (n := 360) (by decide) ⟨Int32.le_trans (by decide : (0 : Int32) ≤ 1) c1.1, c1.2⟩
  have e363 : ci S 363 0 = nI d := (hR.i0 (f := 363) (j := 1) rfl).trans e1
  have hdp : d + p ≤ 1079 := by
    rw [e363, nI_add] at c2
    have h9 := mt (nI_ltI (a := 1079) (b := d + p) (by omega) (by omega)).mpr (Int32.not_lt.mpr (show nI (d + p) ≤ nI 1079 from c2))
    omega
  have ey : k_thisYear X S = nI (d / 360) := by
    unfold k_thisYear
    rw [e363]
    exact pk_div (by omega) (by decide) (by decide)
  have ey2 : k_thisYear X (si S 363 0 (ci S 363 0 + nI p)) = nI ((d + p) / 360) := by
    unfold k_thisYear
    rw [ci_ss, e363, nI_add]
    exact pk_div (by omega) (by decide) (by decide)
  rw [ey, ey2] at c3
  have h9 : ¬ (d + p) / 360 ≤ d / 360 := fun z => c3 (nI_le z (by omega))
  rw [s28 hL hx, ey, nI_1]
  exact ⟨⟨nI_pos' (by omega), nI_lt (by omega) (by decide)⟩, ⟨nI_pos' (by omega), nI_lt (by omega) (by decide)⟩⟩
theorem IN.s66 (h : IN X S M) {p : Int32} (hp : P_in p 0 (mI M 59 - 1)) : narrow .boolean (.int (ci S 66 p)) = .int (ci S 66 p) := by
  obtain ⟨hX, hL, hR, hM⟩ := h
  obtain ⟨i, hi, ei⟩ := cn_of hM.2.2.2.2.1.1 (by decide) hp
  have h40 := hM.2.2.2.2.1.1.1
  rw [hR.rdI (f := 66) (j := 62) (c := 4) (x := p) rfl (by rw [ei, nI_clamp (by omega)]; exact hi)]
  exact nar_01 (hM.h62 p hp)
end HI9
