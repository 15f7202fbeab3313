section SW
variable {X : CX} {S : CT} {M : MS}
theorem cent_lt {p : Int32} (h : P_isCentre p) : p.toNatClampNeg < 6 := by
  obtain ⟨q, hq, rfl⟩ := cent_of h
  rw [nI_clamp (by omega)]
  exact hq
theorem in12 {p : Int32} : P_in p 1 2 ↔ P_in p 0 2 ∧ ¬ p = 0 := by
  constructor
  · intro h
    refine ⟨⟨Int32.le_trans (by decide) h.1, h.2⟩, fun e => ?_⟩
    have h1 := h.1
    rw [e] at h1
    exact absurd h1 (by decide)
  · rintro ⟨h, hne⟩
    obtain ⟨j, hj, rfl⟩ := nI_of2 (M := nI 2) (n := 2) (nI_toInt (by decide)) (Int32.not_lt.mpr h.1) h.2
    have : j = 1 ∨ j = 2 := by
      have : j ≠ 0 := fun e => hne (by rw [e]; rfl)
      omega
    rcases this with rfl | rfl <;> exact ⟨by decide, by decide⟩
theorem in_lt {p : Int32} {n : Nat} (hn : n + 1 < 2 ^ 30) : P_in p 0 (nI (n + 1) - 1) ↔ ¬ p < 0 ∧ p < nI (n + 1) := by
  rw [← num_in (n := n + 1) (by omega)]
  exact ⟨fun h => ⟨Int32.not_lt.mpr h.1, h.2⟩, fun h => ⟨Int32.not_lt.mp h.1, h.2⟩⟩
theorem in03 {p : Int32} : P_in p 0 3 ↔ ¬ p < 0 ∧ p < 4 := in_lt (p := p) (n := 3) (by decide)
theorem in08 {p : Int32} : P_in p 0 8 ↔ ¬ p < 0 ∧ p < 9 := in_lt (p := p) (n := 8) (by decide)
theorem num3 {p : Int32} : P_num p 3 ↔ P_in p 0 2 := num_in (p := p) (n := 3) (by decide)
theorem in_cases {p : Int32} {n : Nat} (hn : n < 2 ^ 30) (h : P_in p 0 (nI n)) : ∃ j, j ≤ n ∧ p = nI j := by
  obtain ⟨j, hj, e⟩ := nI_of2 (M := nI n) (n := n) (nI_toInt (by omega)) (Int32.not_lt.mpr h.1) h.2
  exact ⟨j, hj, e⟩
theorem RR.free (h : RR X S M) {c y : Int32} (h1 : P_isCentre c) (h2 : P_isYear y) : k_free (3 * c + y) X S = f_free c y M := by
  obtain ⟨q, hq, rfl⟩ := cent_of h1
  obtain ⟨u, hu, rfl⟩ := year_of h2
  unfold k_free f_free
  rw [pur_ix, h.pur (z := 0) hq hu (by decide), h.pur (z := 1) hq hu (by decide), h.pur (z := 2) hq hu (by decide)]
  rw [show f_at (nI q) (nI u) 0 = _ from at_ix (z := 0), show f_at (nI q) (nI u) 1 = _ from at_ix (z := 1), show f_at (nI q) (nI u) 2 = _ from at_ix (z := 2)]
theorem RR.postV (h : RR X S M) {a : Int32} {v z : Int64} (ha : a.toNatClampNeg < 9) (e : gJ M 2 a + v = z) : RR X (k_post a v X S) (rJ M 2 a z) := by
  unfold k_post
  rw [h.rdJ (f := 1312) (j := 2) (c := 8) rfl ha, e]
  exact h.pJ rfl
theorem RR.postN (h : RR X S M) {a : Int32} {v z : Int64} (ha : a.toNatClampNeg < 9) (e : gJ M 2 a - v = z) : RR X (k_post a (-v) X S) (rJ M 2 a z) := h.postV ha ((Int64.sub_eq_add_neg _ _).symm.trans e)
theorem RR.wctl (h : RR X S M) {p : Int32} (hp : ¬ mI M 3 = 0) : RR X (si S 362 0 p) (sI M 10 p) := by
  have hd : ∀ c i, dm (sI M 10 p) c i ↔ dm M c i := fun c i => dm_sI (by decide)
  have hm : ∀ r, r ≠ 10 → mI (sI M 10 p) r = mI M r := fun r z => if_neg z
  have hS : ∀ r i, r ≠ 362 → (si S 362 0 p).1 r i = S.1 r i := fun r i z => s1_sn z
  obtain ⟨⟨r1, r2⟩, ⟨r3, r4, r5, r6, r7⟩, ⟨r8, r9⟩, ⟨⟨y1, y2, y3, y4, y5⟩, r11⟩, ⟨r12, r13⟩, r14, r15, r16, r17⟩ := h
  refine ⟨⟨fun t ht i hi => ?_, fun t ht i hi => r2 t ht i ((hd _ _).mp hi)⟩, ⟨fun t ht i hi => r3 t ht i ((hd _ _).mp hi), fun t ht i hi => r4 t ht i ((hd _ _).mp hi), fun i hi => r5 i ((hd 0 i).mp hi), r6, fun i hi => r7 i ((hd 2 i).mp hi)⟩, ⟨fun t ht => ?_, r9⟩, ⟨⟨y1, y2, y3, y4, y5⟩, r11⟩, ⟨?_, fun i hi => ?_⟩, fun r hr => r14 r ((hd 1 r).mp hr), fun q hq => ?_, fun i hi => r16 i ((hd 2 i).mp hi), r17⟩
  · have h9 : ∀ t ∈ TI, t.1 ≠ 362 := by decide
    rw [hS _ _ (h9 t ht)]
    exact r1 t ht i ((hd _ _).mp hi)
  · have h9 : ∀ t ∈ T0, t.1 ≠ 362 ∧ t.2 ≠ 10 := by decide
    rw [hS _ _ (h9 t ht).1, hm _ (h9 t ht).2]
    exact r8 t ht
  · unfold RC
    rw [hm 3 (by decide), if_neg hp, s1_si, if_pos ⟨rfl, by decide⟩]
    exact mI_sIs.symm
  · rw [hS _ _ (by decide)]
    exact r13 i ((hd 0 i).mp hi)
  · have h9 := fb_cg (M := M) (M' := sI M 10 p) (q := nI q) rfl (fun i => rfl) (fun i => rfl) (fun i => rfl)
    rw [h9.1, h9.2]
    exact r15 q ((hd 9 q).mp hq)
theorem RR.wabs (h : RR X S M) {p u v : Int32} : RR X (si (si S 195 p u) 196 p v) (rI (rI M 6 p u) 7 p v) := by
  have hd : ∀ c i, dm (rI (rI M 6 p u) 7 p v) c i ↔ dm M c i := fun c i => (dm_rI (by decide)).trans (dm_rI (by decide))
  have hg : ∀ r i, r ≠ 6 ∧ r ≠ 7 → gn (rI (rI M 6 p u) 7 p v) r i = gn M r i := fun r i z => (gn_rIn z.2).trans (gn_rIn z.1)
  have hS : ∀ r i, r ≠ 195 ∧ r ≠ 196 → (si (si S 195 p u) 196 p v).1 r i = S.1 r i := fun r i z => (s1_sn z.2).trans (s1_sn z.1)
  obtain ⟨⟨r1, r2⟩, ⟨r3, r4, r5, r6, r7⟩, ⟨r8, r9⟩, ⟨r10, r11⟩, ⟨r12, r13⟩, r14, r15, r16, r17⟩ := h
  refine ⟨⟨fun t ht i hi => ?_, fun t ht i hi => r2 t ht i ((hd _ _).mp hi)⟩, ⟨fun t ht i hi => ?_, fun t ht i hi => r4 t ht i ((hd _ _).mp hi), fun i hi => r5 i ((hd 0 i).mp hi), r6, fun i hi => ?_⟩, ⟨fun t ht => ?_, r9⟩, ⟨r10, fun r hr => ?_⟩, ⟨?_, fun i hi => ?_⟩, fun r hr => ?_, fun q hq => ?_, fun i hi => ?_, r17⟩
  · have h9 : ∀ t ∈ TI, t.1 ≠ 196 ∧ t.2.1 ≠ 7 ∧ (t.1 = 195 ↔ t.2.1 = 6) := by decide
    obtain ⟨g1, g2, g3⟩ := h9 t ht
    rw [s1_sn g1, gn_rIn g2, s1_si, gn_rI]
    by_cases z : t.1 = 195 ∧ i = p.toNatClampNeg
    · rw [if_pos z, if_pos ⟨g3.mp z.1, z.2⟩]
    · rw [if_neg z, if_neg (fun y => z ⟨g3.mpr y.1, y.2⟩)]
      exact r1 t ht i ((hd _ _).mp hi)
  · have h9 : ∀ t ∈ TF, t.2.1 ≠ 6 ∧ t.2.1 ≠ 7 := by decide
    rw [hg _ _ (h9 t ht)]
    exact r3 t ht i ((hd _ _).mp hi)
  · rw [hg _ _ (by decide), hg _ _ (by decide)]
    exact r7 i ((hd 2 i).mp hi)
  · have h9 : ∀ t ∈ T0, t.1 ≠ 195 ∧ t.1 ≠ 196 := by decide
    rw [hS _ _ (h9 t ht)]
    exact r8 t ht
  · rw [hg _ _ (by decide)]
    exact r11 r hr
  · unfold RC
    rw [hS _ _ (by decide)]
    exact r12
  · by_cases z : i = p.toNatClampNeg
    · right
      rw [s1_si, if_pos ⟨rfl, z⟩, gn_rI, if_pos ⟨rfl, z⟩]
    · have e6 : gn (rI (rI M 6 p u) 7 p v) 6 i = gn M 6 i := (gn_rIn (by decide)).trans (by rw [gn_rI, if_neg (fun y => z y.2)])
      have e7 : gn (rI (rI M 6 p u) 7 p v) 7 i = gn M 7 i := by rw [gn_rI, if_neg (fun y => z y.2), gn_rIn (by decide)]
      have e1 : (si (si S 195 p u) 196 p v).1 196 i = S.1 196 i := by rw [s1_si, if_neg (fun y => z y.2), s1_sn (by decide)]
      rw [e6, e7, e1]
      exact r13 i ((hd 0 i).mp hi)
  · rw [hS _ _ (by decide), hg _ _ (by decide), hg _ _ (by decide), gI_n, hg _ _ (by decide)]
    exact r14 r ((hd 1 r).mp hr)
  · have h9 := fb_cg (M := M) (M' := rI (rI M 6 p u) 7 p v) (q := nI q) rfl (fun i => hg _ _ (by decide)) (fun i => hg _ _ (by decide)) (fun i => hg _ _ (by decide))
    rw [hS _ _ (by decide), hS _ _ (by decide), h9.1, h9.2]
    exact r15 q ((hd 9 q).mp hq)
  · rw [hS _ _ (by decide), hS _ _ (by decide), hS _ _ (by decide), hg _ _ (by decide), hg _ _ (by decide), hg _ _ (by decide), hg _ _ (by decide)]
    exact r16 i ((hd 2 i).mp hi)
end SW
theorem eq_carried {X : CX} {S : CT} {M : MS} {p1 : Int32} (hX : XOK X) (hL : LVX X) (h : RR X S M) : EQi X S xcA (k_carried p1 X S) (f_carried p1 M) := by
  unfold k_carried f_carried
  by_cases c1 : P_in p1 0 100
  · rw [if_pos c1, if_pos c1]
    exact ⟨rfl, h.i0 rfl, h.thr.p0 rfl⟩
  · rw [if_neg c1, if_neg c1]
    exact ⟨mI_sIs.trans xA_A.symm, h.thr⟩
theorem eq_taxes {X : CX} {S : CT} {M : MS} {p1 : Int32} {p2 : Int32} (hX : XOK X) (hL : LVX X) (h : RR X S M) : EQv X S xcA (k_taxes p1 p2 X S) (f_taxes p1 p2 M) := by
  unfold k_taxes f_taxes
  by_cases c1 : P_in p1 0 30
  · by_cases c2 : P_in p2 0 100
    · rw [if_pos c1, if_pos c2, if_pos c1, if_pos c2]
      exact ⟨rfl, (h.thr.p0 rfl).p0 rfl⟩
    · rw [if_pos c1, if_neg c2, if_pos c1, if_neg c2]
      exact ⟨mI_sIs.trans xA_A.symm, h.thr⟩
  · rw [if_neg c1, if_neg c1]
    exact ⟨mI_sIs.trans xA_A.symm, h.thr⟩
theorem eq_sample {X : CX} {S : CT} {M : MS} {p1 : Int32} {p2 : Int32} (hX : XOK X) (hL : LVX X) (h : RR X S M) : EQv X S xcA (k_sample p1 p2 X S) (f_sample p1 p2 M) := by
  unfold k_sample f_sample
  by_cases c1 : P_in p2 0 100
  · rw [if_pos c1, if_pos c1]
    exact ⟨rfl, (h.thr.p0 rfl).p0 rfl⟩
  · rw [if_neg c1, if_neg c1]
    exact ⟨mI_sIs.trans xA_A.symm, h.thr⟩
theorem eq_soft {X : CX} {S : CT} {M : MS} {p1 : Int32} {p2 : Int32} (hX : XOK X) (hL : LVX X) (h : RR X S M) : EQi X S xcI (k_soft p1 p2 X S) (f_soft p1 p2 M) := by
  unfold k_soft f_soft
  by_cases c1 : P_isCentre p1
  · rw [if_pos ((num_cent hL).mpr c1), if_pos c1]
    exact ⟨rfl, h.rdI (c := 10) rfl (cent_lt c1), h.thr.pI rfl⟩
  · rw [if_neg (fun z => c1 ((num_cent hL).mp z)), if_neg c1]
    exact ⟨mI_sIs.trans xI_I.symm, h.thr⟩
theorem eq_rate {X : CX} {S : CT} {M : MS} {p1 : Int32} {p2 : Int32} (hX : XOK X) (hL : LVX X) (h : RR X S M) : EQi X S xcIA (k_rate p1 p2 X S) (f_rate p1 p2 M) := by
  unfold k_rate f_rate
  by_cases c1 : P_in p1 0 2
  · by_cases c2 : p1 = 0
    · rw [if_pos ((num_mon hL).mpr c1), if_pos c2, if_neg (fun z => (in12.mp z).2 c2)]
      exact ⟨mI_sIs.trans xIA_I.symm, h.thr⟩
    · by_cases c3 : P_in p2 100 10000
      · rw [if_pos ((num_mon hL).mpr c1), if_neg c2, if_pos c3, if_pos (in12.mpr ⟨c1, c2⟩), if_pos c3]
        exact ⟨rfl, h.rdI (c := 6) rfl (Nat.lt_succ_of_le (in_toNat (n := 2) (by decide) c1)), h.thr.pI rfl⟩
      · rw [if_pos ((num_mon hL).mpr c1), if_neg c2, if_neg c3, if_pos (in12.mpr ⟨c1, c2⟩), if_neg c3]
        exact ⟨mI_sIs.trans xIA_A.symm, h.thr⟩
  · rw [if_neg (fun z => c1 ((num_mon hL).mp z)), if_neg (fun z => c1 (in12.mp z).1)]
    exact ⟨mI_sIs.trans xIA_I.symm, h.thr⟩
theorem eq_place {X : CX} {S : CT} {M : MS} {p1 : Int32} {p2 : Int32} (hX : XOK X) (hL : LVX X) (h : RR X S M) : EQi X S xcIA (k_place p1 p2 X S) (f_place p1 p2 M) := by
  unfold k_place f_place
  by_cases c1 : p1 < 0
  · rw [if_pos c1, if_neg (fun z => (in03.mp z).1 c1)]
    exact ⟨mI_sIs.trans xIA_I.symm, h.thr⟩
  · by_cases c2 : p1 < 4
    · by_cases c3 : P_in p2 0 50000
      · rw [if_neg c1, if_pos c2, if_pos c3, if_pos (in03.mpr ⟨c1, c2⟩), if_pos c3]
        exact ⟨rfl, h.rdI (c := 7) rfl (Nat.lt_succ_of_le (in_toNat (n := 3) (by decide) (in03.mpr ⟨c1, c2⟩))), h.thr.pI rfl⟩
      · rw [if_neg c1, if_pos c2, if_neg c3, if_pos (in03.mpr ⟨c1, c2⟩), if_neg c3]
        exact ⟨mI_sIs.trans xIA_A.symm, h.thr⟩
    · rw [if_neg c1, if_neg c2, if_neg (fun z => c2 (in03.mp z).2)]
      exact ⟨mI_sIs.trans xIA_I.symm, h.thr⟩
theorem eq_account {X : CX} {S : CT} {M : MS} {p1 : Int32} (hX : XOK X) (hL : LVX X) (h : RR X S M) : EQl X S xcI (k_account p1 X S) (f_account p1 M) := by
  unfold k_account f_account
  by_cases c1 : p1 < 0
  · rw [if_pos c1, if_neg (fun z => (in08.mp z).1 c1)]
    exact ⟨mI_sIs.trans xI_I.symm, h.thr⟩
  · by_cases c2 : p1 < 9
    · rw [if_neg c1, if_pos c2, if_pos (in08.mpr ⟨c1, c2⟩)]
      exact ⟨rfl, h.rdJ (c := 8) rfl (Nat.lt_succ_of_le (in_toNat (n := 8) (by decide) (in08.mpr ⟨c1, c2⟩))), h.thr⟩
    · rw [if_neg c1, if_neg c2, if_neg (fun z => c2 (in08.mp z).2)]
      exact ⟨mI_sIs.trans xI_I.symm, h.thr⟩
theorem eq_budget {X : CX} {S : CT} {M : MS} {p1 : Int32} {p2 : Int32} {p3 : Int32} (hX : XOK X) (hL : LVX X) (h : RR X S M) : EQl X S xcIA (k_budget p1 p2 p3 X S) (f_budget p1 p2 p3 M) := by
  unfold k_budget f_budget
  by_cases c1 : P_isCentre p1
  · by_cases c2 : P_isYear p2
    · by_cases c3 : P_in p3 0 100000000
      · rw [if_pos ((num_purse hL).mpr ⟨c1, c2⟩), if_pos c3, if_pos c1, if_pos c2, if_pos c3]
        obtain ⟨q, hq, rfl⟩ := cent_of c1
        obtain ⟨u, hu, rfl⟩ := year_of c2
        rw [pur_ix, show f_at (nI q) (nI u) 0 = _ from at_ix (z := 0)]
        exact ⟨rfl, h.pur (z := 0) hq hu (by decide), h.thr.wpur (z := 0) hq hu (by decide)⟩
      · rw [if_pos ((num_purse hL).mpr ⟨c1, c2⟩), if_neg c3, if_pos c1, if_pos c2, if_neg c3]
        exact ⟨mI_sIs.trans xIA_A.symm, h.thr⟩
    · rw [if_neg (fun z => c2 ((num_purse hL).mp z).2), if_pos c1, if_neg c2]
      exact ⟨mI_sIs.trans xIA_I.symm, h.thr⟩
  · rw [if_neg (fun z => c1 ((num_purse hL).mp z).1), if_neg c1]
    exact ⟨mI_sIs.trans xIA_I.symm, h.thr⟩
theorem eq_centre {X : CX} {S : CT} {M : MS} {p1 : Int32} {p2 : Int32} {p3 : Int32} (hX : XOK X) (hL : LVX X) (h : RR X S M) : EQl X S xcIA (k_centre p1 p2 p3 X S) (f_centre p1 p2 p3 M) := by
  unfold k_centre f_centre
  by_cases c1 : P_isCentre p1
  · by_cases c2 : P_isYear p2
    · by_cases c3 : p3 = 0
      · have c4 : P_in p3 0 3 := (by rw [c3]; decide)
        have c5 : ¬ (p3 = 3) := (by rw [c3]; decide)
        rw [if_pos ((num_purse hL).mpr ⟨c1, c2⟩), if_pos c3, if_pos c1, if_pos c2, if_pos c4, if_neg c5]
        obtain ⟨q, hq, rfl⟩ := cent_of c1
        obtain ⟨u, hu, rfl⟩ := year_of c2
        rw [pur_ix, c3, show f_at (nI q) (nI u) 0 = _ from at_ix (z := 0)]
        exact ⟨rfl, h.pur (z := 0) hq hu (by decide), h.thr⟩
      · by_cases c6 : p3 = 1
        · have c7 : P_in p3 0 3 := (by rw [c6]; decide)
          have c8 : ¬ (p3 = 3) := (by rw [c6]; decide)
          rw [if_pos ((num_purse hL).mpr ⟨c1, c2⟩), if_neg c3, if_pos c6, if_pos c1, if_pos c2, if_pos c7, if_neg c8]
          obtain ⟨q, hq, rfl⟩ := cent_of c1
          obtain ⟨u, hu, rfl⟩ := year_of c2
          rw [pur_ix, c6, show f_at (nI q) (nI u) 1 = _ from at_ix (z := 1)]
          exact ⟨rfl, h.pur (z := 1) hq hu (by decide), h.thr⟩
        · by_cases c9 : p3 = 2
          · have c10 : P_in p3 0 3 := (by rw [c9]; decide)
            have c11 : ¬ (p3 = 3) := (by rw [c9]; decide)
            rw [if_pos ((num_purse hL).mpr ⟨c1, c2⟩), if_neg c3, if_neg c6, if_pos c9, if_pos c1, if_pos c2, if_pos c10, if_neg c11]
            obtain ⟨q, hq, rfl⟩ := cent_of c1
            obtain ⟨u, hu, rfl⟩ := year_of c2
            rw [pur_ix, c9, show f_at (nI q) (nI u) 2 = _ from at_ix (z := 2)]
            exact ⟨rfl, h.pur (z := 2) hq hu (by decide), h.thr⟩
          · by_cases c12 : p3 = 3
            · have c13 : P_in p3 0 3 := (by rw [c12]; decide)
              rw [if_pos ((num_purse hL).mpr ⟨c1, c2⟩), if_neg c3, if_neg c6, if_neg c9, if_pos c12, if_pos c1, if_pos c2, if_pos c13, if_pos c12]
              exact ⟨rfl, h.thr.free c1 c2, h.thr⟩
            · have c14 : ¬ (P_in p3 0 3) := (fun z => by
    obtain ⟨j, hj, e⟩ := in_cases (n := 3) (by decide) z
    have hh : j = 0 ∨ j = 1 ∨ j = 2 ∨ j = 3 := by omega
    rcases hh with rfl | rfl | rfl | rfl
    · exact c3 e
    · exact c6 e
    · exact c9 e
    · exact c12 e)
              rw [if_pos ((num_purse hL).mpr ⟨c1, c2⟩), if_neg c3, if_neg c6, if_neg c9, if_neg c12, if_pos c1, if_pos c2, if_neg c14]
              exact ⟨mI_sIs.trans xIA_A.symm, h.thr⟩
    · rw [if_neg (fun z => c2 ((num_purse hL).mp z).2), if_pos c1, if_neg c2]
      exact ⟨mI_sIs.trans xIA_I.symm, h.thr⟩
  · rw [if_neg (fun z => c1 ((num_purse hL).mp z).1), if_neg c1]
    exact ⟨mI_sIs.trans xIA_I.symm, h.thr⟩
theorem eq_staff {X : CX} {S : CT} {M : MS} {p1 : Int32} {p2 : Int32} (hX : XOK X) (hL : LVX X) (h : RR X S M) : EQl X S xcIA (k_staff p1 p2 X S) (f_staff p1 p2 M) := by
  unfold k_staff f_staff
  by_cases c1 : P_isPerson p1 M
  · by_cases c2 : P_in p2 0 1
    · by_cases c3 : p2 = 0
      · rw [if_pos ((h.n3 hL).mpr c1), if_pos c2, if_pos c3, if_pos c1, if_pos c2, if_pos c3]
        exact ⟨rfl, h.rdJ (c := 0) rfl (h.d3 hL c1), h.thr⟩
      · rw [if_pos ((h.n3 hL).mpr c1), if_pos c2, if_neg c3, if_pos c1, if_pos c2, if_neg c3]
        exact ⟨rfl, h.rdJ (c := 0) rfl (h.d3 hL c1), h.thr⟩
    · rw [if_pos ((h.n3 hL).mpr c1), if_neg c2, if_pos c1, if_neg c2]
      exact ⟨mI_sIs.trans xIA_A.symm, h.thr⟩
  · rw [if_neg (fun z => c1 ((h.n3 hL).mp z)), if_neg c1]
    exact ⟨mI_sIs.trans xIA_I.symm, h.thr⟩
theorem eq_tripCost {X : CX} {S : CT} {M : MS} {p1 : Int32} (hX : XOK X) (hL : LVX X) (h : RR X S M) : EQl X S xcI (k_tripCost p1 X S) (f_tripCost p1 M) := by
  unfold k_tripCost f_tripCost
  by_cases c1 : P_in p1 0 ((mI M 57) - 1)
  · rw [if_pos ((h.n57 hL).mpr c1), if_pos c1]
    exact ⟨rfl, h.rdG (c := 3) rfl (h.d57 hL c1), h.thr⟩
  · rw [if_neg (fun z => c1 ((h.n57 hL).mp z)), if_neg c1]
    exact ⟨mI_sIs.trans xI_I.symm, h.thr⟩
theorem eq_isTold {X : CX} {S : CT} {M : MS} {p1 : Int32} (hX : XOK X) (hL : LVX X) (h : RR X S M) (hz : ∀ x, P_in x 0 (mI M 59 - 1) → gI M 62 x = 0 ∨ gI M 62 x = 1) : EQi X S xcI (k_isTold p1 X S) (f_isTold p1 M) := by
  unfold k_isTold f_isTold
  by_cases c1 : P_in p1 0 ((mI M 59) - 1)
  · by_cases c2 : (gI M 62 p1) = 0
    · rw [if_pos ((h.n59 hL).mpr c1), if_pos c1, if_pos c2]
      exact ⟨rfl, (h.rdI (f := 66) (j := 62) (c := 4) rfl (h.d59 hL c1)).trans c2, h.thr⟩
    · rw [if_pos ((h.n59 hL).mpr c1), if_pos c1, if_neg c2]
      exact ⟨rfl, (h.rdI (f := 66) (j := 62) (c := 4) rfl (h.d59 hL c1)).trans ((hz _ c1).resolve_left c2), h.thr⟩
  · rw [if_neg (fun z => c1 ((h.n59 hL).mp z)), if_neg c1]
    exact ⟨mI_sIs.trans xI_I.symm, h.thr⟩
theorem eq_supplier {X : CX} {S : CT} {M : MS} {p1 : Int32} {p2 : Int32} {p3 : Int32} {p4 : Int32} {p5 : Int32} {p6 : Int32} (hX : XOK X) (hL : LVX X) (h : RR X S M) : EQv X S xcIA (k_supplier p1 p2 p3 p4 p5 p6 X S) (f_supplier p1 p2 p3 p4 p5 p6 M) := by
  unfold k_supplier f_supplier
  by_cases c1 : P_in p1 0 5
  · by_cases c2 : P_in p2 0 2
    · by_cases c3 : P_in p3 0 2
      · by_cases c4 : P_in p4 0 90
        · by_cases c5 : P_in p5 0 10
          · by_cases c6 : P_in p6 0 30
            · rw [if_pos ((num_sup hL).mpr c1), if_pos (num3.mpr c2), if_pos ((num_mon hL).mpr c3), if_pos c4, if_pos c5, if_pos c6, if_pos c1, if_pos c2, if_pos c3, if_pos c4, if_pos c5, if_pos c6]
              exact ⟨rfl, ((((h.thr.pI rfl).pI rfl).pI rfl).pI rfl).pI rfl⟩
            · rw [if_pos ((num_sup hL).mpr c1), if_pos (num3.mpr c2), if_pos ((num_mon hL).mpr c3), if_pos c4, if_pos c5, if_neg c6, if_pos c1, if_pos c2, if_pos c3, if_pos c4, if_pos c5, if_neg c6]
              exact ⟨mI_sIs.trans xIA_A.symm, h.thr⟩
          · rw [if_pos ((num_sup hL).mpr c1), if_pos (num3.mpr c2), if_pos ((num_mon hL).mpr c3), if_pos c4, if_neg c5, if_pos c1, if_pos c2, if_pos c3, if_pos c4, if_neg c5]
            exact ⟨mI_sIs.trans xIA_A.symm, h.thr⟩
        · rw [if_pos ((num_sup hL).mpr c1), if_pos (num3.mpr c2), if_pos ((num_mon hL).mpr c3), if_neg c4, if_pos c1, if_pos c2, if_pos c3, if_neg c4]
          exact ⟨mI_sIs.trans xIA_A.symm, h.thr⟩
      · rw [if_pos ((num_sup hL).mpr c1), if_pos (num3.mpr c2), if_neg (fun z => c3 ((num_mon hL).mp z)), if_pos c1, if_pos c2, if_neg c3]
        exact ⟨mI_sIs.trans xIA_I.symm, h.thr⟩
    · rw [if_pos ((num_sup hL).mpr c1), if_neg (fun z => c2 (num3.mp z)), if_pos c1, if_neg c2]
      exact ⟨mI_sIs.trans xIA_I.symm, h.thr⟩
  · rw [if_neg (fun z => c1 ((num_sup hL).mp z)), if_neg c1]
    exact ⟨mI_sIs.trans xIA_I.symm, h.thr⟩
theorem eq_goOn {X : CX} {S : CT} {M : MS} {p1 : Int32} (hX : XOK X) (hL : LVX X) (h : RR X S M) : EQv X S xcIS (k_goOn p1 X S) (f_goOn p1 M) := by
  unfold k_goOn f_goOn
  by_cases c1 : P_isInvoice p1 M
  · by_cases c2 : (gI M 53 p1) = 0
    · rw [if_pos ((h.n39 hL).mpr c1), if_pos ((Iff.of_eq (congrArg (· = 0) (h.rdI (f := 111) (j := 53) (c := 2) (x := p1) rfl (h.d39 hL c1)))).mpr c2), if_pos c1, if_pos c2]
      exact ⟨mI_sIs.trans xIS_S.symm, h.thr⟩
    · rw [if_pos ((h.n39 hL).mpr c1), if_neg (fun z => c2 ((Iff.of_eq (congrArg (· = 0) (h.rdI (f := 111) (j := 53) (c := 2) (x := p1) rfl (h.d39 hL c1)))).mp z)), if_pos c1, if_neg c2]
      exact ⟨rfl, h.thr.pI rfl⟩
  · rw [if_neg (fun z => c1 ((h.n39 hL).mp z)), if_neg c1]
    exact ⟨mI_sIs.trans xIS_I.symm, h.thr⟩
theorem eq_settle {X : CX} {S : CT} {M : MS} {p1 : Int32} (hX : XOK X) (hL : LVX X) (h : RR X S M) : EQl X S xcI (k_settle p1 X S) (f_settle p1 M) := by
  unfold k_settle f_settle
  by_cases c1 : P_isPerson p1 M
  · rw [if_pos ((h.n3 hL).mpr c1), if_pos c1]
    have e1 := h.rdJ (f := 197) (j := 8) (c := 0) (x := p1) rfl (h.d3 hL c1)
    have e2 := h.rdJ (f := 198) (j := 9) (c := 0) (x := p1) rfl (h.d3 hL c1)
    rw [e1, e2]
    have r1 := (h.thr (v := 0)).postV (a := 6) (v := -(gJ M 9 p1)) (z := gJ M 2 6 - gJ M 9 p1) (by decide) (by rw [gJ_sI, Int64.sub_eq_add_neg])
    have r2 := r1.postV (a := 8) (v := gJ M 8 p1) (z := gJ M 2 8 + gJ M 8 p1) (by decide) (by rw [gJ_rJc (by decide), gJ_sI])
    have r3 := r2.postN (a := 2) (v := gJ M 8 p1 - gJ M 9 p1) (z := gJ M 2 2 - (gJ M 8 p1 - gJ M 9 p1)) (by decide) (by rw [gJ_rJc (by decide), gJ_rJc (by decide), gJ_sI])
    exact ⟨rfl, rfl, (r3.pJ rfl).pJ rfl⟩
  · rw [if_neg (fun z => c1 ((h.n3 hL).mp z)), if_neg c1]
    exact ⟨mI_sIs.trans xI_I.symm, h.thr⟩
theorem eq_absent {X : CX} {S : CT} {M : MS} {p1 : Int32} {p2 : Int32} {p3 : Int32} (hX : XOK X) (hL : LVX X) (h : RR X S M) : EQv X S xcIA (k_absent p1 p2 p3 X S) (f_absent p1 p2 p3 M) := by
  unfold k_absent f_absent
  by_cases c1 : P_isPerson p1 M
  · by_cases c2 : P_isPerson p3 M
    · by_cases c3 : P_in p2 0 1079
      · by_cases c4 : p1 = p3
        · rw [if_pos ((h.n3 hL).mpr c1), if_pos ((h.n3 hL).mpr c2), if_pos c3, if_pos c4, if_pos c1, if_pos c2, if_pos c3, if_pos c4]
          exact ⟨mI_sIs.trans xIA_A.symm, h.thr⟩
        · rw [if_pos ((h.n3 hL).mpr c1), if_pos ((h.n3 hL).mpr c2), if_pos c3, if_neg c4, if_pos c1, if_pos c2, if_pos c3, if_neg c4]
          exact ⟨rfl, h.thr.wabs⟩
      · rw [if_pos ((h.n3 hL).mpr c1), if_pos ((h.n3 hL).mpr c2), if_neg c3, if_pos c1, if_pos c2, if_neg c3]
        exact ⟨mI_sIs.trans xIA_A.symm, h.thr⟩
    · rw [if_pos ((h.n3 hL).mpr c1), if_neg (fun z => c2 ((h.n3 hL).mp z)), if_pos c1, if_neg c2]
      exact ⟨mI_sIs.trans xIA_I.symm, h.thr⟩
  · rw [if_neg (fun z => c1 ((h.n3 hL).mp z)), if_neg c1]
    exact ⟨mI_sIs.trans xIA_I.symm, h.thr⟩
theorem eq_controller {X : CX} {S : CT} {M : MS} {p1 : Int32} (hX : XOK X) (hL : LVX X) (h : RR X S M) (hc : ¬ mI M 3 = 0 → P_isPerson (mI M 10) M) : EQi X S xcI (k_controller p1 X S) (f_controller p1 M) := by
  unfold k_controller f_controller
  have h0 : P_isPerson p1 M → ¬ mI M 3 = 0 := fun z e => by
    rw [P_isPerson, e] at z
    exact absurd (Int32.le_trans z.1 z.2) (by decide)
  have hr : ¬ mI M 3 = 0 → ci S 362 0 = mI M 10 := fun z => h.2.2.2.2.1.1.trans (if_neg z)
  by_cases c1 : P_isPerson p1 M
  · by_cases c2 : (ci S 362 0) = -1
    · exfalso
      have h1 := hr (h0 c1)
      rw [h1] at c2
      have h2 := (hc (h0 c1)).1
      rw [c2] at h2
      exact absurd h2 (by decide)
    · rw [if_pos ((h.n3 hL).mpr c1), if_neg c2, if_pos c1]
      have h1 := hr (h0 c1)
      have h2 := hc (h0 c1)
      have h3 := h.d3 hL h2
      refine ⟨rfl, ?_, h.thr.wctl (h0 c1)⟩
      rw [h1]
      have h4 : xFi X 192 (mI M 10).toNatClampNeg = nI (mI M 10).toNatClampNeg := h.2.1.2.2.1 _ h3
      obtain ⟨k, hk, e⟩ := P_num_nI (n := xSz X 20 0) ((h.n3 hL).mpr h2) (by have := hL.2.2.1; omega)
      show xFi X 192 (mI M 10).toNatClampNeg = mI M 10
      rw [h4, e, nI_clamp (by have := hL.2.2.1; omega)]
  · rw [if_neg (fun z => c1 ((h.n3 hL).mp z)), if_neg c1]
    exact ⟨mI_sIs.trans xI_I.symm, h.thr⟩
