theorem mv_45 {M : MS} {i0 : Nat} (h : MV M) (hi0 : i0 < cnt M 39) : MV0 (rI (sI M 0 0) 45 (nI i0) 1) ∧ ∀ i, i < cnt M 39 → i ≠ i0 → gn M 44 i = 0 → ¬ f_why (nI i) (rI (sI M 0 0) 45 (nI i0) 1) = 0 := by
  obtain ⟨a1, a2, a3, a4, a5, a6, a7, a8, b1, b2, b3, b4⟩ := h
  have h60 := b1.1
  have h40 := a7.1.1
  have cl : (nI i0).toNatClampNeg = i0 := nI_clamp (by omega)
  have g45 : ∀ i, i ≠ i0 → gn (rI (sI M 0 0) 45 (nI i0) 1) 45 i = gn M 45 i := fun i z => by
    rw [gn_rI, cl, if_neg (fun y => z y.2)]
    rfl
  have f : FrM [0] [45] [] M (rI (sI M 0 0) 45 (nI i0) 1) := (FrM.rfl'.cI (by decide)).rI (by decide)
  generalize rI (sI M 0 0) 45 (nI i0) 1 = N at *
  refine ⟨⟨a1.fr f (by decide), a2.fr f (by decide) (by decide) (by decide) (by decide) (by decide), a3.fr f (by decide) (by decide) (by decide), a4.fr f (by decide) (by decide) (by decide) (by decide), a5.fr f (by decide) (by decide) (by decide) (by decide) (by decide), a6.fr f (by decide), a7.fr f (by decide) (by decide) (by decide) (by decide) (by decide), a8.fr f (by decide) (by decide) (by decide) (by decide) (by decide), ?_, fun i hi => ?_, fun i hi => ?_⟩, fun i hi hne h0 => ?_⟩
  · rw [f.c (by decide), f.1 39 (by decide)]; exact b1
  · rw [f.c (by decide)] at hi
    unfold GK
    rw [f.d9 (by decide) (by decide), f.2.1 40 (by decide), f.2.1 17 (by decide), f.2.1 41 (by decide), f.2.1 53 (by decide), f.2.1 44 (by decide), f.2.1 49 (by decide)]
    exact b2 i hi
  · rw [f.c (by decide)] at hi
    rw [f.2.1 44 (by decide), g45 i (by omega), f.2.1 51 (by decide), f.2.1 53 (by decide), f.2.2 46 (by decide), f.2.2 47 (by decide), f.2.2 54 (by decide), f.2.2 55 (by decide)]
    exact b3 i hi
  · obtain ⟨⟨hd, e⟩, -⟩ := b2 i hi
    have hq : (gn M 40 i).toNatClampNeg < 2 ^ 30 := by
      have h8 : (gn M 40 i).toNatClampNeg / 4 < cnt M 14 := hd.1
      omega
    have ci : (nI i).toNatClampNeg = i := nI_clamp (by omega)
    rw [why_pt (M := M) (q := (gn M 40 i).toNatClampNeg) (by rw [gI_n, ci]; exact e.symm) hq (f.i (by decide) _) (fun j hj => f.2.1 j (by revert hj; revert j; decide) _) (fun j hj => by
      by_cases z : j = 45
      · rw [z, gI_n, gI_n, ci, g45 i hne]
      · exact f.i (by revert hj z; revert j; decide) _) (f.j (by decide) _) (fb_cg (M := M) (f.1 39 (by decide)) (fun i => f.2.1 40 (by decide) i) (fun i => f.2.1 41 (by decide) i) (fun i => f.2.1 44 (by decide) i)).1]
    exact b4 i hi h0
theorem mv_let1 {M : MS} {p : Int32} (h : MV M) (c1 : P_isInvoice p M) (c3 : gI M 44 p = 0) (c6 : f_why p (rI (sI M 0 0) 45 p 1) = 0) : MV (f_books p (rI (sI M 0 0) 45 p 1)) := by
  obtain ⟨i0, hi0, e⟩ := iv_of h.2.2.2.2.2.2.2.2.1 c1
  have h60 := h.2.2.2.2.2.2.2.2.1.1
  have cl : (nI i0).toNatClampNeg = i0 := nI_clamp (by omega)
  rw [e] at c3 ⊢
  rw [gI_n, cl] at c3
  obtain ⟨m0, mw⟩ := mv_45 h hi0
  have g44 : ∀ i, gn (rI (sI M 0 0) 45 (nI i0) 1) 44 i = gn M 44 i := fun i => gn_rIn (by decide)
  have ec : cnt (rI (sI M 0 0) 45 (nI i0) 1) 39 = cnt M 39 := rfl
  generalize rI (sI M 0 0) 45 (nI i0) 1 = N at *
  obtain ⟨b1, b2, b3, b4⟩ := mv0_books m0 (i0 := i0) (by omega) (by rw [g44]; exact c3)
  have fr := fr_books (p := nI i0) (M := N)
  refine MV0.of b1 (fun i hi h0 => ?_)
  have hi' : i < cnt N 39 := by
    have e9 : cnt (f_books (nI i0) N) 39 = cnt N 39 := congrArg (fun z => (z 39).toNatClampNeg) fr.1
    rw [← e9]; exact hi
  have hne : i ≠ i0 := fun z => by
    rw [z, b4] at h0
    exact absurd h0 (by decide)
  exact b2 i hi' hne (mw i (by omega) hne (by rw [← g44, ← b3 i hne]; exact h0))
theorem mv_let0 {M : MS} {p : Int32} (h : MV M) (c1 : P_isInvoice p M) (c6 : ¬ f_why p (rI (sI M 0 0) 45 p 1) = 0) : MV (rI (sI M 0 0) 45 p 1) := by
  obtain ⟨i0, hi0, e⟩ := iv_of h.2.2.2.2.2.2.2.2.1 c1
  rw [e] at c6 ⊢
  obtain ⟨m0, mw⟩ := mv_45 h hi0
  refine MV0.of m0 (fun i hi h0 => ?_)
  by_cases z : i = i0
  · rw [z]; exact c6
  · exact mw i hi z (by rw [← h0]; exact (gn_rIn (by decide)).symm)
theorem mv_letGo {M : MS} {p1 p2 : Int32} (h : MV M) : MV (f_letGo p1 p2 M).2 := by
  unfold f_letGo
  by_cases c1 : P_isInvoice p1 M
  · rw [if_pos c1]
    by_cases c2 : P_isPerson p2 M
    · rw [if_pos c2]
      by_cases c3 : gI M 44 p1 = 0
      · rw [if_pos c3]
        by_cases c4 : f_why p1 M < 2
        · rw [if_pos c4]; exact h.thr
        · rw [if_neg c4]
          by_cases c5 : p2 = mI M 10
          · rw [if_pos c5]
            by_cases c6 : f_why p1 (rI (sI M 0 0) 45 p1 1) = 0
            · rw [if_pos c6]
              split <;> exact mv_let1 h c1 c3 c6
            · rw [if_neg c6]
              split <;> exact mv_let0 h c1 c6
          · rw [if_neg c5]; exact h.thr
      · rw [if_neg c3]; exact h.thr
    · rw [if_neg c2]; exact h.thr
  · rw [if_neg c1]; exact h.thr
theorem mv_inv {M : MS} {p1 p2 p3 p4 : Int32} {net : Int64} (h : MV M) (c1 : P_isLine p1 p2 M) (c2 : P_in p3 1 99) (c4 : gI M 17 p1 = 4) (c5 : ¬ mI M 39 = 60) : MV0 (sI (rJ (rI (rI (rI (sI M 0 0) 40 (mI M 39) ((4 * p1) + p2)) 41 (mI M 39) p3) 42 (mI M 39) p4) 43 (mI M 39) net) 39 ((mI M 39) + 1)) ∧ (∀ i, i < cnt M 39 → gn M 44 i = 0 → ¬ f_why (nI i) (sI (rJ (rI (rI (rI (sI M 0 0) 40 (mI M 39) ((4 * p1) + p2)) 41 (mI M 39) p3) 42 (mI M 39) p4) 43 (mI M 39) net) 39 ((mI M 39) + 1)) = 0) ∧ cnt (sI (rJ (rI (rI (rI (sI M 0 0) 40 (mI M 39) ((4 * p1) + p2)) 41 (mI M 39) p3) 42 (mI M 39) p4) 43 (mI M 39) net) 39 ((mI M 39) + 1)) 39 = cnt M 39 + 1 ∧ (∀ i, gn (sI (rJ (rI (rI (rI (sI M 0 0) 40 (mI M 39) ((4 * p1) + p2)) 41 (mI M 39) p3) 42 (mI M 39) p4) 43 (mI M 39) net) 39 ((mI M 39) + 1)) 44 i = gn M 44 i) ∧ gn M 44 (cnt M 39) = 0 ∧ mI M 39 = nI (cnt M 39) ∧ cnt M 39 < 60 := by
  obtain ⟨a1, a2, a3, a4, a5, a6, a7, a8, b1, b2, b3, b4⟩ := h
  obtain ⟨r0, hr0, er⟩ := rq_of a7.1 c1.1
  have h40 := a7.1.1
  have h60 := b1.1
  have cl : p1.toNatClampNeg = r0 := by rw [er, nI_clamp (by omega)]
  have hk := a7.2.1 r0 hr0
  obtain ⟨j0, hj0, ix, hd0⟩ := ln_of (by omega) hr0 er (hk.e18 (by omega)) c1.2
  have hlt : cnt M 39 < 60 := by
    have h7 : cnt M 39 ≠ 60 := fun z => c5 (by rw [b1.2, z]; rfl)
    omega
  obtain ⟨n, en⟩ : ∃ n, n = cnt M 39 := ⟨_, rfl⟩
  have m39 : mI M 39 = nI n := by rw [en]; exact b1.2
  have g17 : gn M 17 r0 = 4 := by rw [← c4, gI_n, cl]
  rw [m39, ix]
  have eW : sI (rJ (rI (rI (rI (sI M 0 0) 40 (nI n) (nI (4 * r0 + j0))) 41 (nI n) p3) 42 (nI n) p4) 43 (nI n) net) 39 (nI n + 1) = wiM (sI M 0 0) (nI n) (nI (4 * r0 + j0)) p3 p4 net := rfl
  rw [eW]
  have f : FrM [0, 39] [40, 41, 42] [43] M (wiM (sI M 0 0) (nI n) (nI (4 * r0 + j0)) p3 p4 net) := (((((FrM.rfl'.cI (by decide)).rI (by decide)).rI (by decide)).rI (by decide)).rJ (by decide)).cI (by decide)
  have w40 : ∀ i, gn (wiM (sI M 0 0) (nI n) (nI (4 * r0 + j0)) p3 p4 net) 40 i = if i = n then nI (4 * r0 + j0) else gn M 40 i := fun i => wi_40 (M := sI M 0 0) (by omega)
  have w41 : ∀ i, gn (wiM (sI M 0 0) (nI n) (nI (4 * r0 + j0)) p3 p4 net) 41 i = if i = n then p3 else gn M 41 i := fun i => by
    show gn (rI (rI (rI (sI M 0 0) 40 (nI n) (nI (4 * r0 + j0))) 41 (nI n) p3) 42 (nI n) p4) 41 i = _
    rw [gn_rIn (by decide), gn_rI, nI_clamp (by omega)]
    by_cases z : i = n
    · rw [if_pos ⟨rfl, z⟩, if_pos z]
    · rw [if_neg (fun y => z y.2), if_neg z, gn_rIn (by decide)]; rfl
  have w43 : ∀ i, i ≠ n → gl (wiM (sI M 0 0) (nI n) (nI (4 * r0 + j0)) p3 p4 net) 43 i = gl M 43 i := fun i z => by
    show gl (rJ (sI M 0 0) 43 (nI n) net) 43 i = _
    rw [gl_rJ, nI_clamp (by omega), if_neg (fun y => z y.2)]; rfl
  have w39 := wi_39 (M := sI M 0 0) (n := n) (Q := 4 * r0 + j0) (pc := p3) (u := p4) (net := net)
  generalize wiM (sI M 0 0) (nI n) (nI (4 * r0 + j0)) p3 p4 net = N at *
  have hc := cn_s w39 (show n < 60 by omega)
  have ecn : cnt N 39 = n + 1 := by unfold cnt; rw [w39, nI_clamp (by omega)]
  have hz := b3 n (by omega)
  refine ⟨⟨a1.fr f (by decide), a2.fr f (by decide) (by decide) (by decide) (by decide) (by decide), a3.fr f (by decide) (by decide) (by decide), a4.fr f (by decide) (by decide) (by decide) (by decide), a5.fr f (by decide) (by decide) (by decide) (by decide) (by decide), a6.fr f (by decide), a7.fr f (by decide) (by decide) (by decide) (by decide) (by decide), a8.fr f (by decide) (by decide) (by decide) (by decide) (by decide), hc, fun i hi => ?_, fun i hi => ?_⟩, fun i hi h0 => ?_, by rw [ecn, en], fun i => f.2.1 44 (by decide) i, by rw [← en]; exact hz.1.1, by rw [en], hlt⟩
  · rw [ecn] at hi
    unfold GK
    rw [f.d9 (by decide) (by decide), w40, w41, f.2.1 17 (by decide), f.2.1 53 (by decide), f.2.1 44 (by decide), f.2.1 49 (by decide)]
    by_cases z : i = n
    · rw [if_pos z, if_pos z, nI_clamp (by omega), show (4 * r0 + j0) / 4 = r0 by omega, z, hz.1.1, hz.1.2.2.2]
      exact ⟨⟨hd0, rfl⟩, Or.inl g17, c2, Or.inl rfl, fun y => absurd rfl y⟩
    · rw [if_neg z, if_neg z]
      exact b2 i (by omega)
  · rw [ecn] at hi
    rw [f.2.1 44 (by decide), f.2.1 45 (by decide), f.2.1 51 (by decide), f.2.1 53 (by decide), f.2.2 46 (by decide), f.2.2 47 (by decide), f.2.2 54 (by decide), f.2.2 55 (by decide)]
    exact b3 i (by omega)
  · have hne : i ≠ n := by omega
    obtain ⟨⟨hd, e⟩, -⟩ := b2 i hi
    have hq : (gn M 40 i).toNatClampNeg < 2 ^ 30 := by
      have h8 : (gn M 40 i).toNatClampNeg / 4 < cnt M 14 := hd.1
      omega
    have ci : (nI i).toNatClampNeg = i := nI_clamp (by omega)
    rw [why_pt (M := M) (q := (gn M 40 i).toNatClampNeg) (by rw [gI_n, ci]; exact e.symm) hq (by rw [gI_n, gI_n, ci, w40, if_neg hne]) (fun j hj => f.2.1 j (by revert hj; revert j; decide) _) (fun j hj => by
      by_cases z : j = 41
      · rw [z, gI_n, gI_n, ci, w41, if_neg hne]
      · exact f.i (by revert hj z; revert j; decide) _) (by rw [gJ_n, gJ_n, ci, w43 i hne]) (fb_more (M := M) (M' := N) (n := n) (q' := nI (4 * r0 + j0)) (pc := p3) en.symm ecn (by omega) (fun i hi => by rw [w40, if_neg (by omega)]) (fun i hi => by rw [w41, if_neg (by omega)]) (fun i hi => f.2.1 44 (by decide) i) (by rw [w40, if_pos rfl]) (by rw [w41, if_pos rfl]) (by rw [f.2.1 44 (by decide)]; exact hz.1.1)).1]
    exact b4 i hi h0
theorem mv_invoice {M : MS} {p1 p2 p3 p4 : Int32} (h : MV M) : MV (f_invoice p1 p2 p3 p4 M).2 := by
  unfold f_invoice
  by_cases c1 : P_isLine p1 p2 M
  · rw [if_pos c1]
    by_cases c2 : P_in p3 1 99
    · rw [if_pos c2]
      by_cases c3 : P_in p4 1 100000
      · rw [if_pos c3]
        by_cases c4 : gI M 17 p1 = 4
        · rw [if_pos c4]
          by_cases c5 : mI M 39 = 60
          · rw [if_pos c5]; exact h.thr
          · rw [if_neg c5]
            obtain ⟨m0, mw, mc, m44, mz, m39, mlt⟩ := mv_inv (p4 := p4) (net := ((((p3.toInt64) * (p4.toInt64)) * ((gI M 36 (gI M 32 (gI M 21 p1))).toInt64)) / 1000)) h c1 c2 c4 c5
            generalize sI (rJ (rI (rI (rI (sI M 0 0) 40 (mI M 39) ((4 * p1) + p2)) 41 (mI M 39) p3) 42 (mI M 39) p4) 43 (mI M 39) ((((p3.toInt64) * (p4.toInt64)) * ((gI M 36 (gI M 32 (gI M 21 p1))).toInt64)) / 1000)) 39 ((mI M 39) + 1) = N at *
            rw [m39]
            split
            · show MV (f_books (nI (cnt M 39)) N)
              obtain ⟨b1, b2, b3, b4⟩ := mv0_books m0 (i0 := cnt M 39) (by omega) (by rw [m44]; exact mz)
              have fr := fr_books (p := nI (cnt M 39)) (M := N)
              refine MV0.of b1 (fun i hi h0 => ?_)
              have hi' : i < cnt N 39 := by
                have e9 : cnt (f_books (nI (cnt M 39)) N) 39 = cnt N 39 := congrArg (fun z => (z 39).toNatClampNeg) fr.1
                rw [← e9]; exact hi
              have hne : i ≠ cnt M 39 := fun z => by
                rw [z, b4] at h0
                exact absurd h0 (by decide)
              exact b2 i hi' hne (mw i (by omega) (by rw [← m44, ← b3 i hne]; exact h0))
            · rename_i c6
              show MV N
              refine MV0.of m0 (fun i hi h0 => ?_)
              by_cases z : i = cnt M 39
              · rw [z]; exact c6
              · exact mw i (by omega) (by rw [← m44]; exact h0)
        · rw [if_neg c4]; exact h.thr
      · rw [if_neg c3]; exact h.thr
    · rw [if_neg c2]; exact h.thr
  · rw [if_neg c1]
    repeat' split
    all_goals exact h.thr
