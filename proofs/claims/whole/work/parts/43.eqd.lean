section HE
variable {X : CX} {S : CT} {M : MS}
theorem RR.year (h : RR X S M) : k_thisYear X S = f_yearNow M := by
  unfold k_thisYear f_yearNow
  rw [h.i0 (f := 363) (j := 1) rfl]
theorem RR.rq (h : RR X S M) (hL : LVX X) {p : Int32} (hp : P_isRequest p M) : ∃ r, r < xSz X 24 0 ∧ xSz X 24 0 ≤ 40 ∧ p = nI r ∧ gn M 18 r = nI (xSz X 29 r) ∧ xSz X 29 r ≤ 4 := by
  have hb := hL.2.2.1
  obtain ⟨r, hr, e⟩ := P_num_nI (n := xSz X 24 0) ((h.n14 hL).mpr hp) (by omega)
  exact ⟨r, hr, by omega, e, h.2.2.2.1.2 r hr, hL.2.2.2.2 r hr⟩
theorem RR.lnN (h : RR X S M) (hL : LVX X) {p l : Int32} (hp : P_isRequest p M) : P_num l (nS X 29 p) ↔ P_in l 0 (gI M 18 p - 1) := by
  obtain ⟨r, hr, h40, rfl, e, h4⟩ := h.rq hL hp
  have e1 : nS X 29 (nI r) = nI (xSz X 29 r) := by unfold nS; rw [nI_clamp (by omega)]
  rw [e1, gI_n, nI_clamp (by omega), e]
  exact num_in (n := xSz X 29 r) (by omega)
theorem RR.dln (h : RR X S M) (hL : LVX X) {p l : Int32} (hp : P_isRequest p M) (hl : P_in l 0 (gI M 18 p - 1)) : dm M 9 (4 * p + l).toNatClampNeg := by
  have h2 := (h.lnN hL hp).mpr hl
  obtain ⟨r, hr, h40, rfl, e, h4⟩ := h.rq hL hp
  have e1 : nS X 29 (nI r) = nI (xSz X 29 r) := by unfold nS; rw [nI_clamp (by omega)]
  rw [e1] at h2
  obtain ⟨j, hj, rfl⟩ := P_num_nI h2 (by omega)
  rw [show (4 : Int32) = nI 4 from rfl, pk_mul, nI_add, nI_clamp (by omega)]
  show (4 * r + j) / 4 < cnt M 14 ∧ (4 * r + j) % 4 < (gn M 18 ((4 * r + j) / 4)).toNatClampNeg
  rw [show (4 * r + j) / 4 = r by omega, show (4 * r + j) % 4 = j by omega, h.c14 hL, e, nI_clamp (by omega)]
  exact ⟨hr, hj⟩
theorem RR.total (h : RR X S M) (hL : LVX X) {p : Int32} (hp : P_isRequest p M) : k_total p X S = f_total p M := by
  obtain ⟨r, hr, h40, rfl, e, h4⟩ := h.rq hL hp
  unfold k_total f_total
  rw [gI_n, nI_clamp (by omega), e, nI_clamp (by omega)]
  have key : ∀ i, i ≤ xSz X 29 r → kit_total (nI r) X S i = it_total (nI r) M i := fun i => by
    induction i with
    | zero => exact fun _ => rfl
    | succ i ih =>
      intro hi
      have hd : dm M 9 (4 * nI r + nI i).toNatClampNeg := by
        rw [show (4 : Int32) = nI 4 from rfl, pk_mul, nI_add, nI_clamp (by omega)]
        show (4 * r + i) / 4 < cnt M 14 ∧ (4 * r + i) % 4 < (gn M 18 ((4 * r + i) / 4)).toNatClampNeg
        rw [show (4 * r + i) / 4 = r by omega, show (4 * r + i) % 4 = i by omega, h.c14 hL, e, nI_clamp (by omega)]
        exact ⟨hr, by omega⟩
      show kst_total (nI r) X S (nI i) (kit_total (nI r) X S i) = st_total (nI r) M (4 * nI r + nI i) (it_total (nI r) M i)
      unfold kst_total st_total
      rw [ih (by omega), h.rdI (f := 130) (j := 28) (c := 9) rfl hd, h.rdF (f := 129) (j := 29) (c := 9) rfl hd]
  exact key _ (Nat.le_refl _)
theorem RR.may (h : RR X S M) {c y : Int32} {v : Int64} (h1 : P_isCentre c) (h2 : P_isYear y) : (¬ ci S 33 c = 0 ∨ v ≤ k_free (3 * c + y) X S) ↔ P_may c y v M := by
  rw [h.free h1 h2, h.rdI (f := 33) (j := 12) (c := 10) (x := c) rfl (cent_lt h1)]
theorem RR.spend (h : RR X S M) {c : Int32} {v : Int64} (h1 : P_isCentre c) (h2 : P_isYear (f_yearNow M)) : RR X (k_spend c v X S) (rJ M 11 (f_at c (f_yearNow M) 2) (gJ M 11 (f_at c (f_yearNow M) 2) + v)) := by
  unfold k_spend
  rw [h.year]
  obtain ⟨q, hq, e1⟩ := cent_of h1
  obtain ⟨u, hu, e2⟩ := year_of h2
  rw [e1, e2, pur_ix, show f_at (nI q) (nI u) 2 = _ from at_ix (z := 2), h.pur (z := 2) hq hu (by decide)]
  exact h.wpur (z := 2) hq hu (by decide)
theorem sj_comm {S : CT} {f g : Nat} {x y : Int32} {v u : Int64} (h : f ≠ g) : sj (sj S f x v) g y u = sj (sj S g y u) f x v := by
  refine Prod.ext rfl (funext fun a => funext fun i => ?_)
  rw [s2_sj, s2_sj, s2_sj, s2_sj]
  by_cases e1 : a = f ∧ i = x.toNatClampNeg
  · rw [if_pos e1, if_pos e1, if_neg (fun z => h (e1.1.symm.trans z.1))]
  · rw [if_neg e1, if_neg e1]
theorem RR.commits (h : RR X S M) (hL : LVX X) {p : Int32} {v : Int64} (hp : P_isRequest p M) (h1 : P_isCentre (gI M 16 p)) (h2 : P_isYear (gI M 20 p)) : RR X (k_commit p v X S) (f_commits p v M) := by
  have hd := h.d14 hL hp
  unfold k_commit f_commits
  rw [h.rdI (f := 260) (j := 20) (c := 1) rfl hd, h.rdF (f := 257) (j := 16) (c := 1) rfl hd, h.rdJ (f := 261) (j := 19) (c := 1) rfl hd, sj_comm (by decide)]
  have h9 := h.pJ (f := 261) (j := 19) (x := p) (v := gJ M 19 p + v) rfl
  obtain ⟨q, hq, e1⟩ := cent_of h1
  obtain ⟨u, hu, e2⟩ := year_of h2
  rw [e1, e2, pur_ix, show f_at (nI q) (nI u) 1 = _ from at_ix (z := 1), h.pur (z := 1) hq hu (by decide)]
  exact h9.wpur (z := 1) hq hu (by decide)
theorem RR.frees (h : RR X S M) (hL : LVX X) {p : Int32} {v : Int64} (hp : P_isRequest p M) (h1 : P_isCentre (gI M 16 p)) (h2 : 0 < gJ M 19 p → P_isYear (gI M 20 p)) : RR X (k_release p v X S).2 (f_frees p v M).2 ∧ ((f_frees p v M).1 = (k_release p v X S).1 ∨ (f_frees p v M).1 ≤ 0 ∧ (k_release p v X S).1 = 0) := by
  have hd := h.d14 hL hp
  unfold k_release f_frees
  rw [h.rdJ (f := 261) (j := 19) (c := 1) rfl hd]
  by_cases a : gJ M 19 p < v
  · have a1 : 0 ≤ lg_cmp v (gJ M 19 p) := by rw [lg_cmp_ge]; exact Int64.le_of_lt a
    rw [if_pos a, if_pos a1]
    by_cases b : lg_cmp (gJ M 19 p) 0 ≤ 0
    · rw [if_neg (Int32.not_lt.mpr b), if_pos b]
      exact ⟨h, Or.inr ⟨by rw [lg_cmp_le] at b; exact b, rfl⟩⟩
    · rw [if_pos (Int32.not_le.mp b), if_neg b]
      exact ⟨h.commits hL hp h1 (h2 (by rw [lg_cmp_le] at b; exact Int64.not_le.mp b)), Or.inl rfl⟩
  · rw [if_neg a]
    by_cases a1 : 0 ≤ lg_cmp v (gJ M 19 p)
    · have e : v = gJ M 19 p := Int64.le_antisymm (Int64.not_lt.mp a) (by rw [lg_cmp_ge] at a1; exact a1)
      rw [if_pos a1, e]
      by_cases b : lg_cmp (gJ M 19 p) 0 ≤ 0
      · rw [if_neg (Int32.not_lt.mpr b), if_pos b]
        exact ⟨h, Or.inr ⟨by rw [lg_cmp_le] at b; exact b, rfl⟩⟩
      · rw [if_pos (Int32.not_le.mp b), if_neg b]
        exact ⟨h.commits hL hp h1 (h2 (by rw [lg_cmp_le] at b; exact Int64.not_le.mp b)), Or.inl rfl⟩
    · rw [if_neg a1]
      by_cases b : lg_cmp v 0 ≤ 0
      · rw [if_neg (Int32.not_lt.mpr b), if_pos b]
        exact ⟨h, Or.inr ⟨by rw [lg_cmp_le] at b; exact b, rfl⟩⟩
      · rw [if_pos (Int32.not_le.mp b), if_neg b]
        refine ⟨h.commits hL hp h1 (h2 ?_), Or.inl rfl⟩
        rw [lg_cmp_le] at b
        exact Int64.lt_of_lt_of_le (Int64.not_le.mp b) (Int64.not_lt.mp a)
theorem RR.appr (h : RR X S M) (hL : LVX X) {p b : Int32} (hp : P_isRequest p M) (hb : b = -1 ∨ P_isPerson b M) (hd0 : ¬ mI M 1 < 0) : k_approverFor p b X S = if b = -1 then -1 else f_approver b p M := by
  unfold k_approverFor f_approver
  by_cases e : b = -1
  · rw [if_pos e, if_pos e, e]
  · have hb1 := hb.resolve_left e
    have hd := h.d3 hL hb1
    rw [if_neg e, if_neg e, h.i0 (f := 363) (j := 1) rfl, h.rdI (f := 195) (j := 6) (c := 0) rfl hd, h.rdF (f := 256) (j := 15) (c := 1) rfl (h.d14 hL hp)]
    by_cases c : mI M 1 < gI M 6 b
    · rw [if_pos c, if_neg (Int32.not_le.mpr c)]
      have h9 := h.2.2.2.2.1.2 _ hd
      have hne : ¬ gn M 6 b.toNatClampNeg = 0 := fun z => hd0 (by
        have c2 : mI M 1 < gn M 6 b.toNatClampNeg := c
        rwa [z] at c2)
      have e7 : ci S 196 b = gI M 7 b := h9.resolve_left (fun z => hne z.1)
      rw [e7]
    · rw [if_neg c, if_pos (Int32.not_lt.mp c)]
end HE
theorem eq_payCard {X : CX} {S : CT} {M : MS} (h : RR X S M) : (k_payCard X S).1 = (f_payCard M).1 ∧ RR X (k_payCard X S).2 (f_payCard M).2 := by
  unfold k_payCard f_payCard
  rw [h.j0]
  refine ⟨rfl, ?_⟩
  have r1 := ((h.thr (v := 0)).card (v := 0)).postV (a := 7) (v := mJ M 63) (z := gJ M 2 7 + mJ M 63) (by decide) rfl
  exact r1.postN (a := 2) (v := mJ M 63) (z := gJ M 2 2 - mJ M 63) (by decide) (by rw [gJ_rJc (by decide), gJ_sJ, gJ_sI])
theorem neg_l {x : Int32} (h : P_in x 1 1000000) : (-x).toInt64 = -(x.toInt64) := by
  obtain ⟨j, hj, rfl⟩ := nI_of2 (M := nI 1000000) (n := 1000000) (nI_toInt (by decide)) (Int32.not_lt.mpr (Int32.le_trans (by decide) h.1)) h.2
  rw [← Int64.toInt_inj, Int32.toInt_toInt64, nI_l (by omega)]
  rw [Int32.toInt_neg, Int64.toInt_neg, nI_toInt (by omega), lN_toInt (by omega)]
  rw [show ((-(j : Int)).bmod (2 ^ 32)) = -(j : Int) from Int.bmod_eq_of_le (by omega) (by omega), show ((-(j : Int)).bmod (2 ^ 64)) = -(j : Int) from Int.bmod_eq_of_le (by omega) (by omega)]
theorem eq_advance {X : CX} {S : CT} {M : MS} {p1 : Int32} {p2 : Int32} (hX : XOK X) (hL : LVX X) (h : RR X S M) : EQl X S xcIA (k_advance p1 p2 X S) (f_advance p1 p2 M) := by
  unfold k_advance f_advance
  by_cases c1 : P_isPerson p1 M
  · by_cases c2 : P_in p2 1 1000000
    · rw [if_pos ((h.n3 hL).mpr c1), if_pos c2, if_pos c1, if_pos c2]
      have e2 := h.rdJ (f := 198) (j := 9) (c := 0) (x := p1) rfl (h.d3 hL c1)
      rw [e2, neg_l c2]
      have r0 := (h.thr (v := 0)).pJ (f := 198) (j := 9) (x := p1) (v := gJ M 9 p1 + p2.toInt64) rfl
      have r1 := r0.postV (a := 6) (v := p2.toInt64) (z := gJ M 2 6 + p2.toInt64) (by decide) (by rw [gJ_rJn rfl, gJ_sI])
      have r2 := r1.postN (a := 2) (v := p2.toInt64) (z := gJ M 2 2 - p2.toInt64) (by decide) (by rw [gJ_rJc (by decide), gJ_rJn rfl, gJ_sI])
      exact ⟨rfl, rfl, r2⟩
    · rw [if_pos ((h.n3 hL).mpr c1), if_neg c2, if_pos c1, if_neg c2]
      exact ⟨mI_sIs.trans xIA_A.symm, h.thr⟩
  · rw [if_neg (fun z => c1 ((h.n3 hL).mp z)), if_neg c1]
    exact ⟨mI_sIs.trans xIA_I.symm, h.thr⟩
theorem cmp_flip {a b c : Int64} (e : a = b) : lg_cmp c a ≤ 0 ↔ 0 ≤ lg_cmp b c := by rw [e, lg_cmp_le, lg_cmp_ge]
theorem tr_ix {p q z : Int32} (h1 : P_isCentre p) (h2 : P_isCentre q) (h3 : P_isYear z) : 3 * p + z = 3 * q + z ↔ p = q := by
  obtain ⟨a, ha, rfl⟩ := cent_of h1
  obtain ⟨b, hb, rfl⟩ := cent_of h2
  obtain ⟨u, hu, rfl⟩ := year_of h3
  rw [pur_ix, pur_ix, nI_eq (by omega) (by omega), nI_eq (by omega) (by omega)]
  omega
theorem eq_transfer {X : CX} {S : CT} {M : MS} {p1 : Int32} {p2 : Int32} {p3 : Int32} {p4 : Int32} (hX : XOK X) (hL : LVX X) (h : RR X S M) : EQl X S xcIAS (k_transfer p1 p2 p3 p4 X S) (f_transfer p1 p2 p3 p4 M) := by
  unfold k_transfer f_transfer
  by_cases c1 : P_isCentre p1
  · by_cases c2 : P_isYear p3
    · by_cases c3 : P_isCentre p2
      · by_cases c4 : P_in p4 1 100000000
        · by_cases c5 : p1 = p2
          · rw [if_pos ((num_purse hL).mpr ⟨c1, c2⟩), if_pos ((num_purse hL).mpr ⟨c3, c2⟩), if_pos c4, if_pos ((tr_ix c1 c3 c2).mpr c5), if_pos c1, if_pos c3, if_pos c2, if_pos c5]
            exact ⟨mI_sIs.trans xIAS_A.symm, h.thr⟩
          · by_cases c6 : 0 ≤ (lg_cmp (f_free p1 p3 M) (p4.toInt64))
            · rw [if_pos ((num_purse hL).mpr ⟨c1, c2⟩), if_pos ((num_purse hL).mpr ⟨c3, c2⟩), if_pos c4, if_neg (fun z => c5 ((tr_ix c1 c3 c2).mp z)), if_pos ((cmp_flip (h.free c1 c2)).mpr c6), if_pos c1, if_pos c3, if_pos c2, if_neg c5, if_pos c4, if_pos c6]
              have h1 := h.thr (v := 0)
              obtain ⟨a, ha, rfl⟩ := cent_of c1
              obtain ⟨b, hb, rfl⟩ := cent_of c3
              obtain ⟨u, hu, rfl⟩ := year_of c2
              rw [show f_at (nI a) (nI u) 0 = _ from at_ix (z := 0), show f_at (nI b) (nI u) 0 = _ from at_ix (z := 0), pur_ix, pur_ix, show cj S 224 (nI (3 * a + u)) = _ from h.pur (z := 0) ha hu (by decide)]
              have r1 := h1.wpur (z := 0) (v := gJ M 11 (nI (9 * a + 3 * u + 0)) - p4.toInt64) ha hu (by decide)
              have e1 := r1.pur (z := 0) hb hu (by decide)
              have r2 := r1.wpur (z := 0) (v := gJ (rJ (sI M 0 0) 11 (nI (9 * a + 3 * u + 0)) (gJ M 11 (nI (9 * a + 3 * u + 0)) - p4.toInt64)) 11 (nI (9 * b + 3 * u + 0)) + p4.toInt64) hb hu (by decide)
              have e2 := r2.free c3 c2
              rw [pur_ix] at e2
              rw [show cj (sj S 224 (nI (3 * a + u)) (gJ M 11 (nI (9 * a + 3 * u + 0)) - p4.toInt64)) 224 (nI (3 * b + u)) = _ from e1]
              exact ⟨rfl, e2, r2⟩
            · rw [if_pos ((num_purse hL).mpr ⟨c1, c2⟩), if_pos ((num_purse hL).mpr ⟨c3, c2⟩), if_pos c4, if_neg (fun z => c5 ((tr_ix c1 c3 c2).mp z)), if_neg (fun z => c6 ((cmp_flip (h.free c1 c2)).mp z)), if_pos c1, if_pos c3, if_pos c2, if_neg c5, if_pos c4, if_neg c6]
              exact ⟨mI_sIs.trans xIAS_S.symm, h.thr⟩
        · by_cases c7 : p1 = p2
          · rw [if_pos ((num_purse hL).mpr ⟨c1, c2⟩), if_pos ((num_purse hL).mpr ⟨c3, c2⟩), if_neg c4, if_pos c1, if_pos c3, if_pos c2, if_pos c7]
            exact ⟨mI_sIs.trans xIAS_A.symm, h.thr⟩
          · rw [if_pos ((num_purse hL).mpr ⟨c1, c2⟩), if_pos ((num_purse hL).mpr ⟨c3, c2⟩), if_neg c4, if_pos c1, if_pos c3, if_pos c2, if_neg c7, if_neg c4]
            exact ⟨mI_sIs.trans xIAS_A.symm, h.thr⟩
      · rw [if_pos ((num_purse hL).mpr ⟨c1, c2⟩), if_neg (fun z => c3 ((num_purse hL).mp z).1), if_pos c1, if_neg c3]
        exact ⟨mI_sIs.trans xIAS_I.symm, h.thr⟩
    · by_cases c8 : P_isCentre p2
      · rw [if_neg (fun z => c2 ((num_purse hL).mp z).2), if_pos c1, if_pos c8, if_neg c2]
        exact ⟨mI_sIs.trans xIAS_I.symm, h.thr⟩
      · rw [if_neg (fun z => c2 ((num_purse hL).mp z).2), if_pos c1, if_neg c8]
        exact ⟨mI_sIs.trans xIAS_I.symm, h.thr⟩
  · rw [if_neg (fun z => c1 ((num_purse hL).mp z).1), if_neg c1]
    exact ⟨mI_sIs.trans xIAS_I.symm, h.thr⟩
theorem eq_lineOf {X : CX} {S : CT} {M : MS} {p1 : Int32} {p2 : Int32} {p3 : Int32} (hX : XOK X) (hL : LVX X) (h : RR X S M) : EQi X S xcIA (k_lineOf p1 p2 p3 X S) (f_lineOf p1 p2 p3 M) := by
  unfold k_lineOf f_lineOf
  by_cases c1 : P_isRequest p1 M
  · by_cases c2 : P_in p2 0 (gI M 18 p1 - 1)
    · by_cases c3 : p3 = 0
      · have c4 : P_in p3 0 4 := (by rw [c3]; decide)
        have c5 : ¬ (2 ≤ p3) := (by rw [c3]; decide)
        rw [if_pos ((h.n14 hL).mpr c1), if_pos ((h.lnN hL c1).mpr c2), if_pos c3, if_pos (Iff.rfl.mpr ⟨c1, c2⟩), if_pos c4, if_neg c5, if_pos c3]
        exact ⟨rfl, h.rdI (c := 9) rfl (h.dln hL c1 c2), h.thr⟩
      · by_cases c6 : p3 = 1
        · have c7 : P_in p3 0 4 := (by rw [c6]; decide)
          have c8 : ¬ (2 ≤ p3) := (by rw [c6]; decide)
          rw [if_pos ((h.n14 hL).mpr c1), if_pos ((h.lnN hL c1).mpr c2), if_neg c3, if_pos c6, if_pos (Iff.rfl.mpr ⟨c1, c2⟩), if_pos c7, if_neg c8, if_neg c3]
          exact ⟨rfl, h.rdF (c := 9) rfl (h.dln hL c1 c2), h.thr⟩
        · by_cases c9 : p3 = 2
          · have c10 : P_in p3 0 4 := (by rw [c9]; decide)
            have c11 : 2 ≤ p3 := (by rw [c9]; decide)
            rw [if_pos ((h.n14 hL).mpr c1), if_pos ((h.lnN hL c1).mpr c2), if_neg c3, if_neg c6, if_pos c9, if_pos (Iff.rfl.mpr ⟨c1, c2⟩), if_pos c10, if_pos c11, if_pos c9]
            exact ⟨rfl, h.rdI (c := 9) rfl (h.dln hL c1 c2), h.thr⟩
          · by_cases c12 : p3 = 3
            · have c13 : P_in p3 0 4 := (by rw [c12]; decide)
              have c14 : 2 ≤ p3 := (by rw [c12]; decide)
              rw [if_pos ((h.n14 hL).mpr c1), if_pos ((h.lnN hL c1).mpr c2), if_neg c3, if_neg c6, if_neg c9, if_pos c12, if_pos (Iff.rfl.mpr ⟨c1, c2⟩), if_pos c13, if_pos c14, if_neg c9, if_pos c12]
              have hb := (h.thr (v := 0)).2.2.2.2.2.2.1 _ (h.dln hL c1 c2)
              obtain ⟨r, hr, h40, e, e2, h4⟩ := h.rq hL c1
              have hp2 := (h.lnN hL c1).mpr c2
              have e3 : nI (4 * p1 + p2).toNatClampNeg = 4 * p1 + p2 := by
                rw [e] at hp2 ⊢
                have e1 : nS X 29 (nI r) = nI (xSz X 29 r) := by unfold nS; rw [nI_clamp (by omega)]
                rw [e1] at hp2
                obtain ⟨j, hj, rfl⟩ := P_num_nI hp2 (by omega)
                rw [show (4 : Int32) = nI 4 from rfl, pk_mul, nI_add, nI_clamp (by omega)]
              rw [e3] at hb
              exact ⟨rfl, hb.1, h.thr⟩
            · by_cases c15 : p3 = 4
              · have c16 : P_in p3 0 4 := (by rw [c15]; decide)
                have c17 : 2 ≤ p3 := (by rw [c15]; decide)
                rw [if_pos ((h.n14 hL).mpr c1), if_pos ((h.lnN hL c1).mpr c2), if_neg c3, if_neg c6, if_neg c9, if_neg c12, if_pos c15, if_pos (Iff.rfl.mpr ⟨c1, c2⟩), if_pos c16, if_pos c17, if_neg c9, if_neg c12]
                have hb := (h.thr (v := 0)).2.2.2.2.2.2.1 _ (h.dln hL c1 c2)
                obtain ⟨r, hr, h40, e, e2, h4⟩ := h.rq hL c1
                have hp2 := (h.lnN hL c1).mpr c2
                have e3 : nI (4 * p1 + p2).toNatClampNeg = 4 * p1 + p2 := by
                  rw [e] at hp2 ⊢
                  have e1 : nS X 29 (nI r) = nI (xSz X 29 r) := by unfold nS; rw [nI_clamp (by omega)]
                  rw [e1] at hp2
                  obtain ⟨j, hj, rfl⟩ := P_num_nI hp2 (by omega)
                  rw [show (4 : Int32) = nI 4 from rfl, pk_mul, nI_add, nI_clamp (by omega)]
                rw [e3] at hb
                exact ⟨rfl, hb.2, h.thr⟩
              · have c18 : ¬ (P_in p3 0 4) := (fun z => by
    obtain ⟨j, hj, e⟩ := in_cases (n := 4) (by decide) z
    have hh : j = 0 ∨ j = 1 ∨ j = 2 ∨ j = 3 ∨ j = 4 := by omega
    rcases hh with rfl | rfl | rfl | rfl | rfl
    · exact c3 e
    · exact c6 e
    · exact c9 e
    · exact c12 e
    · exact c15 e)
                rw [if_pos ((h.n14 hL).mpr c1), if_pos ((h.lnN hL c1).mpr c2), if_neg c3, if_neg c6, if_neg c9, if_neg c12, if_neg c15, if_pos (Iff.rfl.mpr ⟨c1, c2⟩), if_neg c18]
                exact ⟨mI_sIs.trans xIA_A.symm, h.thr⟩
    · rw [if_pos ((h.n14 hL).mpr c1), if_neg (fun z => c2 ((h.lnN hL c1).mp z)), if_neg (fun z => c2 (Iff.rfl.mp z).2)]
      exact ⟨mI_sIs.trans xIA_I.symm, h.thr⟩
  · rw [if_neg (fun z => c1 ((h.n14 hL).mp z)), if_neg (fun z => c1 (Iff.rfl.mp z).1)]
    exact ⟨mI_sIs.trans xIA_I.symm, h.thr⟩
