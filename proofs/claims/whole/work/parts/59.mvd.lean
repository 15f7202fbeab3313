theorem MIv.gen {C A B : List Nat} {M M' : MS} (h : MIv M) (h40 : cnt M 14 ≤ 40) (f : FrM C A B M M') (h39 : 39 ∉ C) (hA : ∀ j, j ∈ [40, 41, 44, 45, 49, 51, 53] → j ∉ A) (hB : ∀ j, j ∈ [43, 46, 47, 54, 55] → j ∉ B) (hd : ∀ i, dm M 9 i → dm M' 9 i) (h17 : ∀ r, gn M 17 r = 4 ∨ gn M 17 r = 5 → gn M' 17 r = 4 ∨ gn M' 17 r = 5) (hl : ∀ q, dm M 9 q → gn M 17 (q / 4) = 4 ∨ gn M 17 (q / 4) = 5 → ∀ j, j ∈ [27, 28, 29, 30] → gn M' j q = gn M j q) : MIv M' := by
  have k := fun j hj => f.2.1 j (hA j hj)
  have kB := fun j hj => f.2.2 j (hB j hj)
  obtain ⟨a1, a2, a3, a4⟩ := h
  refine ⟨by rw [f.c h39, f.1 39 h39]; exact a1, ?_, ?_, ?_⟩
  · unfold GK
    simp only [f.c h39, k 40 (by decide), k 41 (by decide), k 53 (by decide), k 44 (by decide), k 49 (by decide)]
    exact fun i hi => ⟨⟨hd _ (a2 i hi).1.1, (a2 i hi).1.2⟩, h17 _ (a2 i hi).2.1, (a2 i hi).2.2⟩
  · simp only [f.c h39, k 44 (by decide), k 45 (by decide), k 51 (by decide), k 53 (by decide), kB 46 (by decide), kB 47 (by decide), kB 54 (by decide), kB 55 (by decide)]
    exact a3
  · intro i hi h0
    have hi' : i < cnt M 39 := by rw [← f.c h39]; exact hi
    have h9 := a2 i hi'
    have h60 := a1.1
    obtain ⟨q, eq⟩ : ∃ q, q = (gn M 40 i).toNatClampNeg := ⟨_, rfl⟩
    have e40 : gI M 40 (nI i) = nI q := by rw [gI_n, nI_clamp (by omega), eq]; exact h9.1.2.symm
    have hd9 := h9.1.1
    have h17' := h9.2.1
    rw [← eq] at hd9 h17'
    have hq : q < 2 ^ 30 := by
      have h8 : q / 4 < cnt M 14 := hd9.1
      omega
    rw [why_pt (M := M) e40 hq (k 40 (by decide) _) (hl q hd9 h17') (fun j hj => k j (by revert hj; revert j; decide) _) (kB 43 (by decide) _) (fb_cg (M := M) (f.1 39 h39) (fun i => k 40 (by decide) i) (fun i => k 41 (by decide) i) (fun i => k 44 (by decide) i)).1]
    exact a4 i hi' (by rw [← k 44 (by decide)]; exact h0)
theorem ln_of {M : MS} {p l : Int32} {r : Nat} (hr : r < 40) (hc : r < cnt M 14) (er : p = nI r) (h4 : ∃ n, n ≤ 4 ∧ gn M 18 r = nI n) (hl : P_in l 0 (gI M 18 p - 1)) : ∃ j, j < 4 ∧ 4 * p + l = nI (4 * r + j) ∧ dm M 9 (4 * r + j) := by
  obtain ⟨n, hn, e⟩ := h4
  have e18 : gI M 18 p = nI n := by rw [er, gI_n, nI_clamp (by omega), e]
  obtain ⟨j, hj, ej⟩ := cn_of (n := n) (N := 4) ⟨hn, e18⟩ (by decide) hl
  refine ⟨j, by omega, by rw [er, ej, show (4 : Int32) = nI 4 from rfl, pk_mul, nI_add], ?_⟩
  rw [dm9, show (4 * r + j) / 4 = r by omega, show (4 * r + j) % 4 = j by omega, e, nI_clamp (by omega)]
  exact ⟨hc, hj⟩
theorem MDay.yr {M : MS} (h : MDay M) : P_isYear (f_yearNow M) := by
  obtain ⟨d, hd, e⟩ := h
  unfold f_yearNow
  rw [e, show nI d / 360 = nI (d / 360) from pk_div (by omega) (by decide) (by decide)]
  exact ⟨nI_pos' (by omega), show nI (d / 360) ≤ nI 2 from nI_le (by omega) (by decide)⟩
set_option maxRecDepth 10000 in
theorem mv_request {M : MS} {p1 : Int32} {p2 : Int32} (h : MV M) : MV (f_request p1 p2 M).2 := by
  unfold f_request
  by_cases c1 : P_isPerson p1 M
  · rw [if_pos c1]
    by_cases c2 : P_isCentre p2
    · rw [if_pos c2]
      by_cases c3 : (mI M 14) = 40
      · rw [if_pos c3]
        exact h.thr
      · rw [if_neg c3]
        obtain ⟨N, eN⟩ : ∃ N, N = (sI (rI (rI (rI (rI (rI (sI M 0 0) 15 (mI M 14) p1) 16 (mI M 14) p2) 20 (mI M 14) (-1)) 21 (mI M 14) (-1)) 26 (mI M 14) (-1)) 14 ((mI M 14) + 1)) := ⟨_, rfl⟩
        have f : FrM [0, 14] [15, 16, 20, 21, 26] [] M N := by rw [eN]; exact (((((((FrM.rfl').cI (by decide)).rI (by decide)).rI (by decide)).rI (by decide)).rI (by decide)).rI (by decide)).cI (by decide)
        obtain ⟨a1, a2, a3, a4, a5, a6, a7, a8, a9⟩ := h
        obtain ⟨b1, b2⟩ := a7.1
        have hlt : cnt M 14 < 40 := by
          have h9 : ¬ mI M 14 = 40 := by assumption
          have h7 : cnt M 14 ≠ 40 := fun z => h9 (by rw [b2, z]; rfl)
          omega
        have e14 : mI N 14 = nI (cnt M 14 + 1) := by rw [eN, ← nI_1, ← b2]; exact mI_sIs
        have ecn : cnt N 14 = cnt M 14 + 1 := by unfold cnt; rw [e14, nI_clamp (by omega)]; rfl
        have hdm : ∀ i, dm N 9 i ↔ dm M 9 i := fun i => by
          rw [dm9, dm9, ecn, f.2.1 18 (by decide)]
          by_cases z : i / 4 = cnt M 14
          · have h9 := (a7.2.2 (cnt M 14) (Nat.le_refl _)).1.2.1
            rw [z, h9]
            exact ⟨fun y => absurd y.2 (Nat.not_lt_zero _), fun y => absurd y.2 (Nat.not_lt_zero _)⟩
          · constructor
            · exact fun y => ⟨by omega, y.2⟩
            · exact fun y => ⟨by omega, y.2⟩
        show MV (sI (rI (rI (rI (rI (rI (sI M 0 0) 15 (mI M 14) p1) 16 (mI M 14) p2) 20 (mI M 14) (-1)) 21 (mI M 14) (-1)) 26 (mI M 14) (-1)) 14 ((mI M 14) + 1))
        rw [← eN]
        refine ⟨?_, ?_, ?_, ?_, ?_, ?_, ?_, ?_, ?_⟩
        · exact a1.fr f (by decide)
        · exact a2.fr f (by decide) (by decide) (by decide) (by decide) (by decide)
        · exact a3.fr f (by decide) (by decide) (by decide)
        · exact a4.fr f (by decide) (by decide) (by decide) (by decide)
        · exact a5.fr f (by decide) (by decide) (by decide) (by decide) (by decide)
        · exact a6.fr f (by decide)
        · obtain ⟨_, d2, d3⟩ := a7
          refine ⟨cn_s e14 hlt, fun r hr => ?_, fun i hi => ?_⟩
          · rw [ecn] at hr
            by_cases z : r = cnt M 14
            · obtain ⟨⟨z17, z18, z24, z25⟩, z19, _⟩ := d3 (cnt M 14) (Nat.le_refl _)
              rw [z]
              have kI : ∀ j, j ∉ [15, 16, 20, 21, 26] → gI N j (nI (cnt M 14)) = gn M j (cnt M 14) := fun j hj => by rw [f.i hj, gI_n, nI_clamp (by omega)]
              have k15 : gI N 15 (nI (cnt M 14)) = p1 := by rw [eN]; show gI (rI (rI (rI (rI (rI (sI M 0 0) 15 (mI M 14) p1) 16 (mI M 14) p2) 20 (mI M 14) (-1)) 21 (mI M 14) (-1)) 26 (mI M 14) (-1)) 15 _ = p1; rw [gI_rIn rfl, gI_rIn rfl, gI_rIn rfl, gI_rIn rfl, ← b2, gI_rIs]
              have k16 : gI N 16 (nI (cnt M 14)) = p2 := by rw [eN]; show gI (rI (rI (rI (rI (rI (sI M 0 0) 15 (mI M 14) p1) 16 (mI M 14) p2) 20 (mI M 14) (-1)) 21 (mI M 14) (-1)) 26 (mI M 14) (-1)) 16 _ = p2; rw [gI_rIn rfl, gI_rIn rfl, gI_rIn rfl, ← b2, gI_rIs]
              have k21 : gI N 21 (nI (cnt M 14)) = -1 := by rw [eN]; show gI (rI (rI (rI (rI (rI (sI M 0 0) 15 (mI M 14) p1) 16 (mI M 14) p2) 20 (mI M 14) (-1)) 21 (mI M 14) (-1)) 26 (mI M 14) (-1)) 21 _ = -1; rw [gI_rIn rfl, ← b2, gI_rIs]
              have k26 : gI N 26 (nI (cnt M 14)) = -1 := by rw [eN]; show gI (rI (rI (rI (rI (rI (sI M 0 0) 15 (mI M 14) p1) 16 (mI M 14) p2) 20 (mI M 14) (-1)) 21 (mI M 14) (-1)) 26 (mI M 14) (-1)) 26 _ = -1; rw [← b2, gI_rIs]
              have k19 : gJ N 19 (nI (cnt M 14)) = 0 := by rw [f.j (by decide), gJ_n, nI_clamp (by omega), z19]
              have k17 := kI 17 (by decide)
              have k18 := kI 18 (by decide)
              have k24 := kI 24 (by decide)
              have k25 := kI 25 (by decide)
              rw [z17] at k17
              rw [z18] at k18
              rw [z24] at k24
              rw [z25] at k25
              have hc : ∀ t, CH N (nI (cnt M 14)) t := fun t => ⟨0, 0, by decide, Nat.le_refl _, k24, k25, fun j hj => absurd hj (Nat.not_lt_zero _)⟩
              refine ⟨⟨by rw [k16]; exact c2, by rw [k15, f.p (by decide)]; exact c1, by rw [k19]; exact ⟨Int64.le_refl _, fun y => absurd y (by decide)⟩, Or.inl k26, ⟨0, hc 0⟩, fun _ => hc _, fun y => ?_, fun y => ?_, by rw [k17]; decide⟩, Or.inl k21, ⟨0, by decide, k18⟩, Or.inr ⟨Or.inl k17, k19⟩⟩
              · rw [k17] at y; exact absurd y (by decide)
              · rw [k17] at y; exact absurd y (by decide)
            · have hr' : r < cnt M 14 := by omega
              have hr40 : r < 40 := by omega
              refine (d2 r hr').pt hr40 (pp_same (f.1 3 (by decide)) (f.2.1 4 (by decide)) (f.2.1 5 (by decide))) (fun j hj => ?_) (fun j hj => f.2.1 23 (by decide) _) (fun l hl => ⟨f.2.1 28 (by decide) _, f.2.1 29 (by decide) _⟩) (by rw [f.2.2 19 (by decide)]; exact ⟨(d2 r hr').n19 hr40, Int64.le_refl _⟩)
              rw [eN]
              show gn (rI (rI (rI (rI (rI (sI M 0 0) 15 (mI M 14) p1) 16 (mI M 14) p2) 20 (mI M 14) (-1)) 21 (mI M 14) (-1)) 26 (mI M 14) (-1)) j r = _
              rw [gn_rI, if_neg (fun y => z y.2), gn_rI, if_neg (fun y => z y.2), gn_rI, if_neg (fun y => z y.2), gn_rI, if_neg (fun y => z y.2), gn_rI, if_neg (fun y => z y.2)]
              rfl
          · rw [ecn] at hi
            rw [f.2.1 17 (by decide), f.2.1 18 (by decide), f.2.1 24 (by decide), f.2.1 25 (by decide), f.2.2 19 (by decide), f.2.2 22 (by decide)]
            exact d3 i (by omega)
        · refine ⟨fun q hq => ?_, fun q hq => ?_⟩
          · rw [f.2.1 28 (by decide), f.2.1 29 (by decide), f.2.1 30 (by decide)]
            exact a8.1 q ((hdm q).mp hq)
          · rw [f.2.1 30 (by decide)]
            exact a8.2 q (fun z => hq ((hdm q).mpr z))
        · exact MIv.gen a9 a7.1.1 f (by decide) (by decide) (by decide) (fun i hi => (hdm i).mpr hi) (fun r hr => by rw [f.2.1 17 (by decide)]; exact hr) (fun q _ _ j hj => f.2.1 j (by simp at hj ⊢; omega) q)
    · rw [if_neg c2]
      exact h.thr
  · rw [if_neg c1]
    exact h.thr
set_option maxRecDepth 10000 in
theorem mv_line {M : MS} {p1 : Int32} {p2 : Int32} {p3 : Int32} {p4 : Int32} (h : MV M) : MV (f_line p1 p2 p3 p4 M).2 := by
  unfold f_line
  by_cases c1 : P_isRequest p1 M
  · rw [if_pos c1]
    by_cases c2 : P_in p3 1 99
    · rw [if_pos c2]
      by_cases c3 : P_in p4 1 100000
      · rw [if_pos c3]
        by_cases c4 : (gI M 17 p1) = 0
        · rw [if_pos c4]
          by_cases c5 : (gI M 18 p1) = 4
          · rw [if_pos c5]
            exact h.thr
          · rw [if_neg c5]
            obtain ⟨N, eN⟩ : ∃ N, N = (rI (rI (rI (rI (sI M 0 0) 27 ((4 * p1) + (gI M 18 p1)) p2) 28 ((4 * p1) + (gI M 18 p1)) p3) 29 ((4 * p1) + (gI M 18 p1)) p4) 18 p1 ((gI M 18 p1) + 1)) := ⟨_, rfl⟩
            have f : FrM [0] [18, 27, 28, 29] [] M N := by rw [eN]; exact (((((FrM.rfl').cI (by decide)).rI (by decide)).rI (by decide)).rI (by decide)).rI (by decide)
            obtain ⟨a1, a2, a3, a4, a5, a6, a7, a8, a9⟩ := h
            obtain ⟨r0, hr0, er⟩ := rq_of a7.1 c1
            have h40 := a7.1.1
            have cl : p1.toNatClampNeg = r0 := by rw [er, nI_clamp (by omega)]
            have hk := a7.2.1 r0 hr0
            obtain ⟨n, hn, e18⟩ := hk.e18 (by omega)
            have e18' : gI M 18 p1 = nI n := by rw [gI_n, cl, e18]
            have hn4 : n < 4 := by
              have h9 : ¬ gI M 18 p1 = 4 := by assumption
              have h7 : n ≠ 4 := fun z => h9 (by rw [e18', z]; rfl)
              omega
            have ix : 4 * p1 + gI M 18 p1 = nI (4 * r0 + n) := by rw [e18', er, show (4 : Int32) = nI 4 from rfl, pk_mul, nI_add]
            have ci : (4 * p1 + gI M 18 p1).toNatClampNeg = 4 * r0 + n := by rw [ix, nI_clamp (by omega)]
            have hgL : ∀ j i, j ≠ 18 → i ≠ 4 * r0 + n → gn N j i = gn M j i := fun j i z1 z2 => by
              rw [eN, gn_rIn z1, gn_rI, ci, if_neg (fun y => z2 y.2), gn_rI, ci, if_neg (fun y => z2 y.2), gn_rI, ci, if_neg (fun y => z2 y.2)]
              rfl
            have hgR : ∀ j i, j ≠ 27 → j ≠ 28 → j ≠ 29 → ¬ (j = 18 ∧ i = r0) → gn N j i = gn M j i := fun j i z1 z2 z3 z4 => by
              rw [eN, gn_rI, cl, if_neg z4, gn_rIn z3, gn_rIn z2, gn_rIn z1]
              rfl
            have g18 : gn N 18 r0 = nI (n + 1) := by rw [eN, gn_rI, cl, if_pos ⟨rfl, rfl⟩, e18', nI_1]
            have g28 : gn N 28 (4 * r0 + n) = p3 := by rw [eN, gn_rIn (by decide), gn_rIn (by decide), gn_rI, ci, if_pos ⟨rfl, rfl⟩]
            have g29 : gn N 29 (4 * r0 + n) = p4 := by rw [eN, gn_rIn (by decide), gn_rI, ci, if_pos ⟨rfl, rfl⟩]
            have hnd : ¬ dm M 9 (4 * r0 + n) := fun z => by
              have h9 := z.2
              rw [show (4 * r0 + n) / 4 = r0 by omega, show (4 * r0 + n) % 4 = n by omega, e18, nI_clamp (by omega)] at h9
              omega
            have hdm : ∀ i, dm N 9 i ↔ dm M 9 i ∨ i = 4 * r0 + n := fun i => by
              rw [dm9, dm9, f.c (by decide)]
              by_cases z : i / 4 = r0
              · rw [z, g18, e18, nI_clamp (by omega), nI_clamp (by omega)]
                omega
              · rw [hgR 18 (i / 4) (by decide) (by decide) (by decide) (fun y => z y.2)]
                omega
            show MV (rI (rI (rI (rI (sI M 0 0) 27 ((4 * p1) + (gI M 18 p1)) p2) 28 ((4 * p1) + (gI M 18 p1)) p3) 29 ((4 * p1) + (gI M 18 p1)) p4) 18 p1 ((gI M 18 p1) + 1))
            rw [← eN]
            refine ⟨?_, ?_, ?_, ?_, ?_, ?_, ?_, ?_, ?_⟩
            · exact a1.fr f (by decide)
            · exact a2.fr f (by decide) (by decide) (by decide) (by decide) (by decide)
            · exact a3.fr f (by decide) (by decide) (by decide)
            · exact a4.fr f (by decide) (by decide) (by decide) (by decide)
            · exact a5.fr f (by decide) (by decide) (by decide) (by decide) (by decide)
            · exact a6.fr f (by decide)
            · refine MRq.one a7 f (by decide) (by decide) (by decide) (by decide) hr0 (fun j hj r hr => ?_) (fun r hr j hj => f.2.1 23 (by decide) _) (fun r hr l hl => ?_) (fun r hr => ⟨f.2.2 19 (by decide) _, f.2.2 22 (by decide) _⟩) ?_
              · exact hgR j r (by simp at hj; omega) (by simp at hj; omega) (by simp at hj; omega) (fun y => hr y.2)
              · exact ⟨hgL 28 _ (by decide) (by omega), hgL 29 _ (by decide) (by omega)⟩
              · rw [← er] at hk ⊢
                have k : ∀ j, j ∉ [18, 27, 28, 29] → gI N j p1 = gI M j p1 := fun j hj => f.i hj p1
                have k18 : gI N 18 p1 = nI (n + 1) := by rw [gI_n, cl, g18]
                have ec : ∀ t, CH M p1 t → CH N p1 t := fun t z => ch_cg (M := M) (f.1 3 (by decide)) (fun x => f.i (by decide) x) (f.i (by decide) p1) (f.i (by decide) p1) (fun x => f.i (by decide) x) (fun x => f.i (by decide) x) z
                obtain ⟨⟨g1, g2, g3, g4, ⟨t, g5⟩, g6, g7, g8, g9⟩, q1, q2, q3⟩ := hk
                refine ⟨⟨by rw [k 16 (by decide)]; exact g1, by rw [k 15 (by decide), f.p (by decide)]; exact g2, by rw [f.j (by decide), k 20 (by decide)]; exact g3, by rw [k 26 (by decide), f.p (by decide)]; exact g4, ⟨t, ec t g5⟩, fun z => ?_, fun z => ?_, fun z => ?_, by rw [k 17 (by decide)]; exact g9⟩, by rw [k 21 (by decide)]; exact q1, ⟨n + 1, by omega, k18⟩, Or.inr ?_⟩
                · rw [k 17 (by decide), c4] at z; exact absurd z (by decide)
                · rw [k 17 (by decide), c4] at z; exact absurd z (by decide)
                · rw [k 17 (by decide), c4] at z; exact absurd z (by decide)
                · rw [k 17 (by decide), f.j (by decide)]
                  rcases q3 with ⟨z, _⟩ | z
                  · rw [c4] at z; exact absurd z (by decide)
                  · exact z
            · refine ⟨fun q hq => ?_, fun q hq => ?_⟩
              · rw [f.2.1 30 (by decide)]
                by_cases z : q = 4 * r0 + n
                · rw [z, g28, g29, a8.2 (4 * r0 + n) hnd]
                  exact ⟨c2, c3, by decide⟩
                · rw [hgL 28 q (by decide) z, hgL 29 q (by decide) z]
                  exact a8.1 q (((hdm q).mp hq).resolve_right z)
              · rw [f.2.1 30 (by decide)]
                exact a8.2 q (fun z => hq ((hdm q).mpr (Or.inl z)))
            · exact MIv.gen a9 h40 f (by decide) (by decide) (by decide) (fun i hi => (hdm i).mpr (Or.inl hi)) (fun r hr => by rw [f.2.1 17 (by decide)]; exact hr) (fun q hq h17 j hj => by
                have hne : q ≠ 4 * r0 + n := fun z => by
                  rw [z, show (4 * r0 + n) / 4 = r0 by omega] at h17
                  rw [show gn M 17 r0 = 0 by rw [← c4, gI_n, cl]] at h17
                  exact absurd h17 (by decide)
                exact hgL j q (by simp at hj; omega) hne)
        · rw [if_neg c4]
          exact h.thr
      · rw [if_neg c3]
        exact h.thr
    · rw [if_neg c2]
      exact h.thr
  · rw [if_neg c1]
    by_cases c6 : P_in p3 1 99
    · rw [if_pos c6]
      by_cases c7 : P_in p4 1 100000
      · rw [if_pos c7]
        exact h.thr
      · rw [if_neg c7]
        exact h.thr
    · rw [if_neg c6]
      exact h.thr
set_option maxRecDepth 10000 in
theorem mv_edit {M : MS} {p1 : Int32} {p2 : Int32} {p3 : Int32} (h : MV M) : MV (f_edit p1 p2 p3 M).2 := by
  unfold f_edit
  by_cases c1 : P_isLine p1 p2 M
  · rw [if_pos c1]
    by_cases c2 : P_in p3 1 99
    · rw [if_pos c2]
      by_cases c3 : (gI M 17 p1) < 4
      · rw [if_pos c3]
        obtain ⟨N, eN⟩ : ∃ N, N = (rI (rI (f_frees p1 (gJ M 19 p1) (sI M 0 0)).2 28 ((4 * p1) + p2) p3) 17 p1 0) := ⟨_, rfl⟩
        have f : FrM [0] [17, 28] [11, 19] M N := by rw [eN]; exact ((((FrM.rfl').cI (by decide)).of (Fr.frees (A := []) (B := [19, 11]) Fr.rfl' (by decide) (by decide)) (by decide) (by decide)).rI (by decide)).rI (by decide)
        obtain ⟨a1, a2, a3, a4, a5, a6, a7, a8, a9⟩ := h
        obtain ⟨r0, hr0, er⟩ := rq_of a7.1 c1.1
        have h40 := a7.1.1
        have cl : p1.toNatClampNeg = r0 := by rw [er, nI_clamp (by omega)]
        have hk := a7.2.1 r0 hr0
        obtain ⟨j0, hj0, ix, hd0⟩ := ln_of (by omega) hr0 er (hk.e18 (by omega)) c1.2
        have ci : (4 * p1 + p2).toNatClampNeg = 4 * r0 + j0 := by rw [ix, nI_clamp (by omega)]
        have hgL : ∀ i, i ≠ 4 * r0 + j0 → gn N 28 i = gn M 28 i := fun i z2 => by
          rw [eN, gn_rIn (by decide), gn_rI, ci, if_neg (fun y => z2 y.2)]
          exact (Fr.frees (A := []) (B := [19, 11]) Fr.rfl' (by decide) (by decide)).2.2.1 28 (by simp) i
        have hgR : ∀ j i, j ≠ 28 → ¬ (j = 17 ∧ i = r0) → gn N j i = gn M j i := fun j i z1 z4 => by
          rw [eN, gn_rI, cl, if_neg z4, gn_rIn z1]
          exact (Fr.frees (A := []) (B := [19, 11]) Fr.rfl' (by decide) (by decide)).2.2.1 j (by simp) i
        have g28 : gn N 28 (4 * r0 + j0) = p3 := by rw [eN, gn_rIn (by decide), gn_rI, ci, if_pos ⟨rfl, rfl⟩]
        show MV (rI (rI (f_frees p1 (gJ M 19 p1) (sI M 0 0)).2 28 ((4 * p1) + p2) p3) 17 p1 0)
        rw [← eN]
        refine ⟨?_, ?_, ?_, ?_, ?_, ?_, ?_, ?_, ?_⟩
        · exact a1.fr f (by decide)
        · exact a2.fr f (by decide) (by decide) (by decide) (by decide) (by decide)
        · exact a3.fr f (by decide) (by decide) (by decide)
        · exact a4.fr f (by decide) (by decide) (by decide) (by decide)
        · exact a5.fr f (by decide) (by decide) (by decide) (by decide) (by decide)
        · exact a6.fr f (by decide)
        · have hk0 := hk.1.2.2.1.1
          rw [← er] at hk0
          refine MRq.one a7 f (by decide) (by decide) (by decide) (by decide) hr0 (fun j hj r hr => ?_) (fun r hr j hj => f.2.1 23 (by decide) _) (fun r hr l hl => ⟨hgL _ (by omega), f.2.1 29 (by decide) _⟩) (fun r hr => ⟨?_, f.2.2 22 (by decide) _⟩) ?_
          · exact hgR j r (by simp at hj; omega) (fun y => hr y.2)
          · rw [eN]
            show gl (f_frees p1 (gJ M 19 p1) (sI M 0 0)).2 19 r = _
            rw [fr19 (by rw [cl]; exact hr)]
            rfl
          · rw [← er] at hk ⊢
            have k : ∀ j, j ∉ [17, 28] → gI N j p1 = gI M j p1 := fun j hj => f.i hj p1
            have k17 : gI N 17 p1 = 0 := by rw [eN, gI_rIs]
            have k19 : gJ N 19 p1 = 0 := by
              rw [eN]
              exact ff_all (M := sI M 0 0) hk0
            have ec : ∀ t, CH M p1 t → CH N p1 t := fun t z => ch_cg (M := M) (f.1 3 (by decide)) (fun x => f.i (by decide) x) (f.i (by decide) p1) (f.i (by decide) p1) (fun x => f.i (by decide) x) (fun x => f.i (by decide) x) z
            obtain ⟨⟨g1, g2, g3, g4, ⟨t, g5⟩, g6, g7, g8, g9⟩, q1, q2, q3⟩ := hk
            refine ⟨⟨by rw [k 16 (by decide)]; exact g1, by rw [k 15 (by decide), f.p (by decide)]; exact g2, by rw [k19]; exact ⟨Int64.le_refl _, fun z => absurd z (by decide)⟩, by rw [k 26 (by decide), f.p (by decide)]; exact g4, ⟨t, ec t g5⟩, fun z => ?_, fun z => ?_, fun z => ?_, by rw [k17]; decide⟩, by rw [k 21 (by decide)]; exact q1, by rw [k 18 (by decide)]; exact q2, Or.inr ⟨Or.inl k17, k19⟩⟩
            · rw [k17] at z; exact absurd z (by decide)
            · rw [k17] at z; exact absurd z (by decide)
            · rw [k17] at z; exact absurd z (by decide)
        · refine ⟨fun q hq => ?_, fun q hq => ?_⟩
          · rw [f.2.1 30 (by decide), f.2.1 29 (by decide)]
            have h9 := a8.1 q ((f.d9 (by decide) (by decide)).mp hq)
            by_cases z : q = 4 * r0 + j0
            · rw [z, g28]
              rw [z] at h9
              exact ⟨c2, h9.2⟩
            · rw [hgL q z]
              exact h9
          · rw [f.2.1 30 (by decide)]
            exact a8.2 q (fun z => hq ((f.d9 (by decide) (by decide)).mpr z))
        · have hn45 : ¬ (gn M 17 r0 = 4 ∨ gn M 17 r0 = 5) := fun z => by
            have h9 : gn M 17 r0 < 4 := by rw [← cl]; exact c3
            rcases z with z | z
            · rw [z] at h9; exact absurd h9 (by decide)
            · rw [z] at h9; exact absurd h9 (by decide)
          exact MIv.gen a9 h40 f (by decide) (by decide) (by decide) (fun i hi => (f.d9 (by decide) (by decide)).mpr hi) (fun r hr => by
            rw [hgR 17 r (by decide) (fun z => hn45 (z.2 ▸ hr))]
            exact hr) (fun q hq h17 j hj => by
            have hne : q ≠ 4 * r0 + j0 := fun z => by
              rw [z, show (4 * r0 + j0) / 4 = r0 by omega] at h17
              exact hn45 h17
            by_cases z : j = 28
            · rw [z]; exact hgL q hne
            · exact f.2.1 j (by simp at hj ⊢; omega) q)
      · rw [if_neg c3]
        exact h.thr
    · rw [if_neg c2]
      exact h.thr
  · rw [if_neg c1]
    exact h.thr
