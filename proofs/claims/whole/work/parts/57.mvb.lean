theorem ft_pt {M M' : MS} {r : Nat} (hr : r < 40) (h18 : gn M' 18 r = gn M 18 r) (h4 : ∃ n, n ≤ 4 ∧ gn M 18 r = nI n) (hl : ∀ l, l < 4 → gn M' 28 (4 * r + l) = gn M 28 (4 * r + l) ∧ gn M' 29 (4 * r + l) = gn M 29 (4 * r + l)) : f_total (nI r) M' = f_total (nI r) M := by
  obtain ⟨n, hn, e⟩ := h4
  unfold f_total
  rw [gI_n, gI_n, nI_clamp (by omega), h18, e, nI_clamp (by omega)]
  have key : ∀ i, i ≤ n → it_total (nI r) M' i = it_total (nI r) M i := fun i => by
    induction i with
    | zero => exact fun _ => rfl
    | succ i ih =>
      intro hi
      have h9 := hl i (by omega)
      show st_total (nI r) M' (4 * nI r + nI i) (it_total (nI r) M' i) = st_total (nI r) M (4 * nI r + nI i) (it_total (nI r) M i)
      unfold st_total
      rw [ih (by omega), show (4 : Int32) * nI r + nI i = nI (4 * r + i) by rw [show (4 : Int32) = nI 4 from rfl, pk_mul, nI_add], gI_n, gI_n, gI_n, gI_n, nI_clamp (by omega), h9.1, h9.2]
  exact key _ (Nat.le_refl _)
theorem ch_pt {M M' : MS} {r : Nat} {t : Int64} (hr : r < 40) (hP : ∀ b, P_isPerson b M → P_isPerson b M' ∧ ∀ t, MB M' b t = MB M b t) (h24 : gn M' 24 r = gn M 24 r) (h25 : gn M' 25 r = gn M 25 r) (h23 : ∀ j, j < 12 → gn M' 23 (12 * r + j) = gn M 23 (12 * r + j)) (h : CH M (nI r) t) : CH M' (nI r) t := by
  obtain ⟨n, a, hn, ha, e1, e2, hj⟩ := h
  have k : ∀ j, j < 12 → gI M' 23 (12 * nI r + nI j) = gI M 23 (12 * nI r + nI j) := fun j h12 => by
    rw [gI_n, gI_n, ch_ix (by omega)]
    exact h23 j h12
  refine ⟨n, a, hn, ha, by rw [← e1, gI_n, gI_n, nI_clamp (by omega)]; exact h24, by rw [← e2, gI_n, gI_n, nI_clamp (by omega)]; exact h25, fun j hlt => ?_⟩
  have h9 := hj j hlt
  rw [k j (by omega)]
  refine ⟨(hP _ h9.1).1, (hP _ h9.1).2 t ▸ h9.2.trans ?_⟩
  by_cases z : j + 1 < n
  · rw [if_pos z, if_pos z, k (j + 1) (by omega)]
  · rw [if_neg z, if_neg z]
/-- a request whose rows are as they were -/
theorem EK.pt {M M' : MS} {r : Nat} (h : EK M (nI r)) (hr : r < 40) (hP : ∀ b, P_isPerson b M → P_isPerson b M' ∧ ∀ t, MB M' b t = MB M b t) (hrow : ∀ j, j ∈ [15, 16, 17, 18, 20, 21, 24, 25, 26] → gn M' j r = gn M j r) (h23 : ∀ j, j < 12 → gn M' 23 (12 * r + j) = gn M 23 (12 * r + j)) (hl : ∀ l, l < 4 → gn M' 28 (4 * r + l) = gn M 28 (4 * r + l) ∧ gn M' 29 (4 * r + l) = gn M 29 (4 * r + l)) (h19 : 0 ≤ gl M' 19 r ∧ gl M' 19 r ≤ gl M 19 r) : EK M' (nI r) := by
  have k : ∀ j, j ∈ [15, 16, 17, 18, 20, 21, 24, 25, 26] → gI M' j (nI r) = gI M j (nI r) := fun j hj => by
    rw [gI_n, gI_n, nI_clamp (by omega)]
    exact hrow j hj
  have k19 : gJ M' 19 (nI r) = gl M' 19 r := by rw [gJ_n, nI_clamp (by omega)]
  have k19' : gJ M 19 (nI r) = gl M 19 r := by rw [gJ_n, nI_clamp (by omega)]
  obtain ⟨⟨g1, g2, g3, g4, ⟨t, g5⟩, g6, g7, g8, g9⟩, b1, ⟨n, hn, e18⟩, b3⟩ := h
  have e18' : gn M 18 r = nI n := by rw [← e18, gI_n, nI_clamp (by omega)]
  have et := ft_pt (M := M) (M' := M') hr (hrow 18 (by decide)) ⟨n, hn, e18'⟩ hl
  have ec : ∀ t, CH M (nI r) t → CH M' (nI r) t := fun t z => ch_pt hr hP (hrow 24 (by decide)) (hrow 25 (by decide)) h23 z
  have up : 0 < gl M' 19 r → 0 < gl M 19 r := fun z => Int64.lt_of_lt_of_le z h19.2
  refine ⟨⟨by rw [k 16 (by decide)]; exact g1, by rw [k 15 (by decide)]; exact (hP _ g2).1, ⟨by rw [k19]; exact h19.1, fun z => by rw [k 20 (by decide)]; exact g3.2 (by rw [k19']; exact up (by rw [← k19]; exact z))⟩, by rw [k 26 (by decide)]; exact g4.imp id (fun z => (hP _ z).1), ⟨t, ec t g5⟩, fun z => by rw [et]; exact ec _ (g6 (by rw [← k 17 (by decide)]; exact z)), fun z => by rw [k 21 (by decide)]; exact g7 (by rw [← k 17 (by decide)]; exact z), fun z => by rw [k 20 (by decide)]; exact g8 (by rw [← k 17 (by decide)]; exact z), by rw [k 17 (by decide)]; exact g9⟩, by rw [k 21 (by decide)]; exact b1, ⟨n, hn, by rw [k 18 (by decide)]; exact e18⟩, ?_⟩
  unfold CBd
  rw [k 17 (by decide), k 20 (by decide), et, k19]
  rcases b3 with ⟨z1, z0, z2⟩ | ⟨z1, z⟩
  · rw [k19'] at z2
    exact Or.inl ⟨z1, z0, Int.le_trans (Int64.le_iff_toInt_le.mp h19.2) z2⟩
  · rw [k19'] at z
    rw [z] at h19
    exact Or.inr ⟨z1, Int64.le_antisymm h19.2 h19.1⟩
theorem EK.n19 {M : MS} {r : Nat} (h : EK M (nI r)) (hr : r < 40) : 0 ≤ gl M 19 r := by
  have h9 := h.1.2.2.1.1
  rw [gJ_n, nI_clamp (by omega)] at h9
  exact h9
theorem pp_same {M M' : MS} (h3 : mI M' 3 = mI M 3) (h4 : ∀ i, gn M' 4 i = gn M 4 i) (h5 : ∀ i, gn M' 5 i = gn M 5 i) : ∀ b, P_isPerson b M → P_isPerson b M' ∧ ∀ t, MB M' b t = MB M b t := fun b hb => by
  refine ⟨?_, fun t => ?_⟩
  · show P_in b 0 (mI M' 3 - 1)
    rw [h3]; exact hb
  · unfold MB
    rw [gI_n, gI_n, gI_n, gI_n, h4, h5]
/-- one request is changed -/
theorem MRq.one {C A B : List Nat} {M M' : MS} {r0 : Nat} (h : MRq M) (f : FrM C A B M M') (h3 : 3 ∉ C) (h14 : 14 ∉ C) (h4 : 4 ∉ A) (h5 : 5 ∉ A) (hr0 : r0 < cnt M 14) (hrow : ∀ j, j ∈ [15, 16, 17, 18, 20, 21, 24, 25, 26] → ∀ r, r ≠ r0 → gn M' j r = gn M j r) (h23 : ∀ r, r ≠ r0 → ∀ j, j < 12 → gn M' 23 (12 * r + j) = gn M 23 (12 * r + j)) (hl : ∀ r, r ≠ r0 → ∀ l, l < 4 → gn M' 28 (4 * r + l) = gn M 28 (4 * r + l) ∧ gn M' 29 (4 * r + l) = gn M 29 (4 * r + l)) (h19 : ∀ r, r ≠ r0 → gl M' 19 r = gl M 19 r ∧ gl M' 22 r = gl M 22 r) (hk : EK M' (nI r0)) : MRq M' := by
  obtain ⟨a1, a2, a3⟩ := h
  refine ⟨by rw [f.c h14, f.1 14 h14]; exact a1, fun r hr => ?_, fun i hi => ?_⟩
  · rw [f.c h14] at hr
    by_cases e : r = r0
    · rw [e]; exact hk
    · have hr40 : r < 40 := by omega
      exact (a2 r hr).pt hr40 (pp_same (f.1 3 h3) (f.2.1 4 h4) (f.2.1 5 h5)) (fun j hj => hrow j hj r e) (h23 r e) (hl r e) (by rw [(h19 r e).1]; exact ⟨(a2 r hr).n19 hr40, Int64.le_refl _⟩)
  · rw [f.c h14] at hi
    have e : i ≠ r0 := by omega
    rw [hrow 17 (by decide) i e, hrow 18 (by decide) i e, hrow 24 (by decide) i e, hrow 25 (by decide) i e, (h19 i e).1, (h19 i e).2]
    exact a3 i hi
/-- the states of requests with invoices stay ORDERED or ENDED -/
theorem MIv.st {C A B : List Nat} {M M' : MS} (h : MIv M) (f : FrM C A B M M') (h14 : 14 ∉ C) (h39 : 39 ∉ C) (hA : ∀ j, j ∈ [18, 27, 28, 29, 30, 40, 41, 44, 45, 49, 51, 53] → j ∉ A) (hB : ∀ j, j ∈ [43, 46, 47, 54, 55] → j ∉ B) (h17 : ∀ r, gn M 17 r = 4 ∨ gn M 17 r = 5 → gn M' 17 r = 4 ∨ gn M' 17 r = 5) : MIv M' := by
  have k := fun j hj => f.2.1 j (hA j hj)
  have kB := fun j hj => f.2.2 j (hB j hj)
  obtain ⟨a1, a2, a3, a4⟩ := h
  refine ⟨by rw [f.c h39, f.1 39 h39]; exact a1, ?_, ?_, ?_⟩
  · unfold GK
    simp only [f.c h39, f.d9 h14 (hA 18 (by decide)), k 40 (by decide), k 41 (by decide), k 53 (by decide), k 44 (by decide), k 49 (by decide)]
    exact fun i hi => ⟨(a2 i hi).1, h17 _ (a2 i hi).2.1, (a2 i hi).2.2⟩
  · simp only [f.c h39, k 44 (by decide), k 45 (by decide), k 51 (by decide), k 53 (by decide), kB 46 (by decide), kB 47 (by decide), kB 54 (by decide), kB 55 (by decide)]
    exact a3
  · intro i hi h0
    rw [why_cg (M := M) (fun j hj x => k j (by revert hj; revert j; decide) _) (kB 43 (by decide) _) (fb_cg (M := M) (f.1 39 h39) (fun i => k 40 (by decide) i) (fun i => k 41 (by decide) i) (fun i => k 44 (by decide) i)).1]
    exact a4 i (by rw [← f.c h39]; exact hi) (by rw [← k 44 (by decide)]; exact h0)
theorem rq_of {p : Int32} {M : MS} (h : cnt M 14 ≤ 40 ∧ mI M 14 = nI (cnt M 14)) (hp : P_isRequest p M) : ∃ r, r < cnt M 14 ∧ p = nI r := cn_of h (by decide) hp
theorem lc_W {r n : Nat} {M M' : MS} (h : W23 r M M') (hr : r < 40) : (∀ j i, j ≠ 23 → gn M' j i = gn M j i) ∧ (∀ q, q ≠ r → ∀ j, j < 12 → gn M' 23 (12 * q + j) = gn M 23 (12 * q + j)) ∧ mI M' = mI M ∧ ∀ j i, gl M' j i = gl M j i :=
  ⟨fun j i z => h.2.2.1 j i (Or.inl z), fun q hq j hj => h.2.2.1 23 _ (by omega), h.1, h.2.2.2⟩
theorem mv_card {M : MS} {p1 : Int32} {p2 : Int32} (h : MV M) : MV (f_card p1 p2 M).2 := by
  unfold f_card
  by_cases c1 : P_isPerson p1 M
  · rw [if_pos c1]
    by_cases c2 : P_in p2 1 1000000
    · rw [if_pos c2]
      by_cases c3 : (mI M 59) = 40
      · rw [if_pos c3]
        exact h.thr
      · rw [if_neg c3]
        obtain ⟨N, eN⟩ : ∃ N, N = (sI (rI (rI (sI M 0 0) 60 (mI M 59) p1) 61 (mI M 59) p2) 59 ((mI M 59) + 1)) := ⟨_, rfl⟩
        have f : FrM [0, 59] [60, 61] [] M N := by rw [eN]; exact ((((FrM.rfl').cI (by decide)).rI (by decide)).rI (by decide)).cI (by decide)
        obtain ⟨a1, a2, a3, a4, a5, a6, a7, a8, a9⟩ := h
        show MV (sI (rI (rI (sI M 0 0) 60 (mI M 59) p1) 61 (mI M 59) p2) 59 ((mI M 59) + 1))
        rw [← eN]
        refine ⟨?_, ?_, ?_, ?_, ?_, ?_, ?_, ?_, ?_⟩
        · exact a1.fr f (by decide)
        · exact a2.fr f (by decide) (by decide) (by decide) (by decide) (by decide)
        · exact a3.fr f (by decide) (by decide) (by decide)
        · exact a4.fr f (by decide) (by decide) (by decide) (by decide)
        · obtain ⟨⟨b1, b2⟩, b3, b4⟩ := a5
          have hlt : cnt M 59 < 40 := by
            have h9 : ¬ mI M 59 = 40 := by assumption
            have h7 : cnt M 59 ≠ 40 := fun z => h9 (by rw [b2, z]; rfl)
            omega
          have e59 : mI N 59 = nI (cnt M 59 + 1) := by rw [eN, ← nI_1, ← b2]; exact mI_sIs
          have hc := cn_s e59 hlt
          have ecn : cnt N 59 = cnt M 59 + 1 := by unfold cnt; rw [e59, nI_clamp (by omega)]; rfl
          have cl : (mI M 59).toNatClampNeg = cnt M 59 := rfl
          have g60 : ∀ i, gn N 60 i = if i = cnt M 59 then p1 else gn M 60 i := fun i => by
            rw [eN]
            show gn (rI (rI (sI M 0 0) 60 (mI M 59) p1) 61 (mI M 59) p2) 60 i = _
            rw [gn_rIn (by decide), gn_rI, cl]
            by_cases z : i = cnt M 59
            · rw [if_pos ⟨rfl, z⟩, if_pos z]
            · rw [if_neg (fun y => z y.2), if_neg z]; rfl
          have g61 : ∀ i, gn N 61 i = if i = cnt M 59 then p2 else gn M 61 i := fun i => by
            rw [eN]
            show gn (rI (rI (sI M 0 0) 60 (mI M 59) p1) 61 (mI M 59) p2) 61 i = _
            rw [gn_rI, cl]
            by_cases z : i = cnt M 59
            · rw [if_pos ⟨rfl, z⟩, if_pos z]
            · rw [if_neg (fun y => z y.2), if_neg z, gn_rIn (by decide)]; rfl
          refine ⟨hc, fun i hi => ?_, fun i hi => ?_⟩
          · rw [f.2.1 62 (by decide), g60, g61, f.p (by decide)]
            by_cases z : i = cnt M 59
            · rw [if_pos z, if_pos z]
              exact ⟨c1, c2, Or.inl (b4 i (by omega))⟩
            · rw [if_neg z, if_neg z]
              exact b3 i (by omega)
          · rw [f.2.1 62 (by decide)]
            exact b4 i (by omega)
        · exact a6.fr f (by decide)
        · exact a7.fr f (by decide) (by decide) (by decide) (by decide) (by decide)
        · exact a8.fr f (by decide) (by decide) (by decide) (by decide) (by decide)
        · exact a9.fr f (by decide) (by decide) (by decide) (by decide)
    · rw [if_neg c2]
      exact h.thr
  · rw [if_neg c1]
    exact h.thr
theorem mv_tell {M : MS} {p1 : Int32} {p2 : Int32} {p3 : Int32} (h : MV M) : MV (f_tell p1 p2 p3 M).2 := by
  unfold f_tell
  by_cases c1 : P_in p1 0 ((mI M 59) - 1)
  · rw [if_pos c1]
    by_cases c2 : P_isCentre p2
    · rw [if_pos c2]
      by_cases c3 : P_in p3 0 (gI M 61 p1)
      · rw [if_pos c3]
        by_cases c4 : (gI M 62 p1) = 0
        · rw [if_pos c4]
          by_cases c5 : P_may p2 (f_yearNow M) (((gI M 61 p1) - p3).toInt64) M
          · rw [if_pos c5]
            obtain ⟨N, eN⟩ : ∃ N, N = (rJ (rJ (rJ (rJ (rJ (sJ (rI (sI M 0 0) 62 p1 1) 63 ((mJ M 63) + ((gI M 61 p1).toInt64))) 11 (f_at p2 (f_yearNow (sJ (rI (sI M 0 0) 62 p1 1) 63 ((mJ M 63) + ((gI M 61 p1).toInt64)))) 2) ((gJ M 11 (f_at p2 (f_yearNow (sJ (rI (sI M 0 0) 62 p1 1) 63 ((mJ M 63) + ((gI M 61 p1).toInt64)))) 2)) + (((gI M 61 p1) - p3).toInt64))) 8 (gI M 60 p1) ((gJ M 8 (gI M 60 p1)) - (p3.toInt64))) 2 0 ((gJ M 2 0) + (((gI M 61 p1) - p3).toInt64))) 2 8 ((gJ M 2 8) + (p3.toInt64))) 2 7 ((gJ M 2 7) - ((gI M 61 p1).toInt64))) := ⟨_, rfl⟩
            have f : FrM [0] [62] [2, 8, 11] M N := by rw [eN]; exact ((((((((FrM.rfl').cI (by decide)).rI (by decide)).sJ).rJ (by decide)).rJ (by decide)).rJ (by decide)).rJ (by decide)).rJ (by decide)
            obtain ⟨a1, a2, a3, a4, a5, a6, a7, a8, a9⟩ := h
            show MV (rJ (rJ (rJ (rJ (rJ (sJ (rI (sI M 0 0) 62 p1 1) 63 ((mJ M 63) + ((gI M 61 p1).toInt64))) 11 (f_at p2 (f_yearNow (sJ (rI (sI M 0 0) 62 p1 1) 63 ((mJ M 63) + ((gI M 61 p1).toInt64)))) 2) ((gJ M 11 (f_at p2 (f_yearNow (sJ (rI (sI M 0 0) 62 p1 1) 63 ((mJ M 63) + ((gI M 61 p1).toInt64)))) 2)) + (((gI M 61 p1) - p3).toInt64))) 8 (gI M 60 p1) ((gJ M 8 (gI M 60 p1)) - (p3.toInt64))) 2 0 ((gJ M 2 0) + (((gI M 61 p1) - p3).toInt64))) 2 8 ((gJ M 2 8) + (p3.toInt64))) 2 7 ((gJ M 2 7) - ((gI M 61 p1).toInt64)))
            rw [← eN]
            refine ⟨?_, ?_, ?_, ?_, ?_, ?_, ?_, ?_, ?_⟩
            · exact a1.fr f (by decide)
            · exact a2.fr f (by decide) (by decide) (by decide) (by decide) (by decide)
            · obtain ⟨k, hk, ek⟩ := cn_of a5.1 (by decide) c1
              have h40 := a5.1.1
              have e60 : gI M 60 p1 = gn M 60 k := by rw [gI_n, ek, nI_clamp (by omega)]
              have hp := (a5.2.1 k hk).1
              rw [← e60] at hp
              obtain ⟨i, hi, e⟩ := per_of a2.1 hp
              have h12 := a2.1.1
              intro x hx
              rw [f.c (by decide)] at hx
              have hne : x ≠ (gI M 60 p1).toNatClampNeg := by rw [e, nI_clamp (by omega)]; omega
              refine ⟨?_, (f.2.2 9 (by decide) x).symm ▸ (a3 x hx).2⟩
              rw [eN, gl_rJn (by decide), gl_rJn (by decide), gl_rJn (by decide), gl_rJ, if_neg (fun z => hne z.2), gl_rJn (by decide)]
              exact (a3 x hx).1
            · exact a4.fr f (by decide) (by decide) (by decide) (by decide)
            · obtain ⟨b1, b3, b4⟩ := a5
              obtain ⟨k, hk, ek⟩ := cn_of b1 (by decide) c1
              have h40 := b1.1
              have cl : p1.toNatClampNeg = k := by rw [ek, nI_clamp (by omega)]
              have g62 : ∀ i, gn N 62 i = if i = k then 1 else gn M 62 i := fun i => by
                rw [eN]
                show gn (rI (sI M 0 0) 62 p1 1) 62 i = _
                rw [gn_rI, cl]
                by_cases z : i = k
                · rw [if_pos ⟨rfl, z⟩, if_pos z]
                · rw [if_neg (fun y => z y.2), if_neg z]; rfl
              refine ⟨by rw [f.c (by decide), f.1 59 (by decide)]; exact b1, fun i hi => ?_, fun i hi => ?_⟩
              · rw [f.2.1 60 (by decide), f.2.1 61 (by decide), f.p (by decide), g62]
                have h9 := b3 i (by rw [← f.c (show 59 ∉ [0] by decide)]; exact hi)
                refine ⟨h9.1, h9.2.1, ?_⟩
                by_cases z : i = k
                · rw [if_pos z]; exact Or.inr rfl
                · rw [if_neg z]; exact h9.2.2
              · rw [f.c (by decide)] at hi
                rw [g62, if_neg (by omega)]
                exact b4 i hi
            · exact a6.fr f (by decide)
            · exact a7.fr f (by decide) (by decide) (by decide) (by decide) (by decide)
            · exact a8.fr f (by decide) (by decide) (by decide) (by decide) (by decide)
            · exact a9.fr f (by decide) (by decide) (by decide) (by decide)
          · rw [if_neg c5]
            exact h.thr
        · rw [if_neg c4]
          exact h.thr
      · rw [if_neg c3]
        exact h.thr
    · rw [if_neg c2]
      exact h.thr
  · rw [if_neg c1]
    exact h.thr
theorem mv_person {M : MS} {p1 : Int32} {p2 : Int32} (h : MV M) : MV (f_person p1 p2 M).2 := by
  unfold f_person
  by_cases c1 : p1 = (-1)
  · rw [if_pos c1]
    by_cases c2 : P_in p2 0 10000000
    · rw [if_pos c2]
      by_cases c3 : (mI M 3) = 12
      · rw [if_pos c3]
        exact h.thr
      · rw [if_neg c3]
        obtain ⟨N, eN⟩ : ∃ N, N = (sI (rI (rI (sI M 0 0) 4 (mI M 3) p1) 5 (mI M 3) p2) 3 ((mI M 3) + 1)) := ⟨_, rfl⟩
        have f : FrM [0, 3] [4, 5] [] M N := by rw [eN]; exact ((((FrM.rfl').cI (by decide)).rI (by decide)).rI (by decide)).cI (by decide)
        obtain ⟨a1, a2, a3, a4, a5, a6, a7, a8, a9⟩ := h
        obtain ⟨⟨b1, b2⟩, b3, b4, b5, b6, b7⟩ := a2
        have hlt : cnt M 3 < 12 := by
          have h9 : ¬ mI M 3 = 12 := by assumption
          have h7 : cnt M 3 ≠ 12 := fun z => h9 (by rw [b2, z]; rfl)
          omega
        have e3 : mI N 3 = nI (cnt M 3 + 1) := by rw [eN, ← nI_1, ← b2]; exact mI_sIs
        have ecn : cnt N 3 = cnt M 3 + 1 := by unfold cnt; rw [e3, nI_clamp (by omega)]; rfl
        have cl : (mI M 3).toNatClampNeg = cnt M 3 := rfl
        have g4 : ∀ i, gn N 4 i = if i = cnt M 3 then p1 else gn M 4 i := fun i => by
          rw [eN]
          show gn (rI (rI (sI M 0 0) 4 (mI M 3) p1) 5 (mI M 3) p2) 4 i = _
          rw [gn_rIn (by decide), gn_rI, cl]
          by_cases z : i = cnt M 3
          · rw [if_pos ⟨rfl, z⟩, if_pos z]
          · rw [if_neg (fun y => z y.2), if_neg z]; rfl
        have g5 : ∀ i, gn N 5 i = if i = cnt M 3 then p2 else gn M 5 i := fun i => by
          rw [eN]
          show gn (rI (rI (sI M 0 0) 4 (mI M 3) p1) 5 (mI M 3) p2) 5 i = _
          rw [gn_rI, cl]
          by_cases z : i = cnt M 3
          · rw [if_pos ⟨rfl, z⟩, if_pos z]
          · rw [if_neg (fun y => z y.2), if_neg z, gn_rIn (by decide)]; rfl
        have hP : ∀ b, P_isPerson b M → P_isPerson b N ∧ ∀ t, MB N b t = MB M b t := fun b hb => by
          obtain ⟨i, hi, e⟩ := per_of ⟨b1, b2⟩ hb
          refine ⟨?_, fun t => ?_⟩
          · rw [e]
            exact of_cn (x := mI N 3) (n := cnt M 3 + 1) (N := 12) ⟨by omega, e3⟩ (by decide) (by omega)
          · unfold MB
            rw [e, gI_n, gI_n, gI_n, gI_n, nI_clamp (by omega), g4, g5, if_neg (show ¬ i = cnt M 3 by omega), if_neg (show ¬ i = cnt M 3 by omega)]
        show MV (sI (rI (rI (sI M 0 0) 4 (mI M 3) p1) 5 (mI M 3) p2) 3 ((mI M 3) + 1))
        rw [← eN]
        refine ⟨?_, ?_, ?_, ?_, ?_, ?_, ?_, ?_, ?_⟩
        · exact a1.fr f (by decide)
        · refine ⟨by rw [ecn]; exact ⟨by omega, e3⟩, fun z => ?_, fun _ => ?_, fun i hi => ?_, fun b hb => ?_, fun i hi => ?_⟩
          · rw [e3] at z
            have := congrArg Int32.toNatClampNeg z
            rw [nI_clamp (by omega)] at this
            exact absurd (show cnt M 3 + 1 = 0 from this) (by omega)
          · rw [f.1 10 (by decide)]
            by_cases z : mI M 3 = 0
            · rw [b3 z]
              exact of_cn (x := mI N 3) (n := cnt M 3 + 1) (N := 12) (i := 0) ⟨by omega, e3⟩ (by decide) (by omega)
            · exact (hP _ (b4 z)).1
          · rw [g4]
            rw [ecn] at hi
            by_cases z : i = cnt M 3
            · rw [if_pos z]
              have h9 : p1 = -1 ∨ ∃ j, j < cnt M 3 ∧ p1 = nI j := Or.inl c1
              rw [z]
              exact h9
            · rw [if_neg z]
              exact b5 i (by omega)
          · obtain ⟨i, hi, e⟩ := cn_of (x := mI N 3) (n := cnt M 3 + 1) (N := 12) ⟨by omega, e3⟩ (by decide) hb
            rw [f.i (by decide)]
            by_cases z : i = cnt M 3
            · rw [e, z, gI_n, nI_clamp (by omega), (b7 _ (Nat.le_refl _)).2.2]
              exact of_cn (x := mI N 3) (n := cnt M 3 + 1) (N := 12) (i := 0) ⟨by omega, e3⟩ (by decide) (by omega)
            · refine (hP _ (b6 b ?_)).1
              rw [e]
              exact of_cn (x := mI M 3) (n := cnt M 3) (N := 12) ⟨b1, b2⟩ (by decide) (by omega)
          · rw [ecn] at hi
            rw [g4, if_neg (by omega), f.2.1 6 (by decide), f.2.1 7 (by decide)]
            exact b7 i (by omega)
        · intro i hi
          rw [ecn] at hi
          rw [f.2.2 8 (by decide), f.2.2 9 (by decide)]
          exact a3 i (by omega)
        · exact a4.fr f (by decide) (by decide) (by decide) (by decide)
        · obtain ⟨d1, d2, d3⟩ := a5
          refine ⟨by rw [f.c (by decide), f.1 59 (by decide)]; exact d1, fun i hi => ?_, fun i hi => ?_⟩
          · rw [f.2.1 60 (by decide), f.2.1 61 (by decide), f.2.1 62 (by decide)]
            have h9 := d2 i (by rw [← f.c (show 59 ∉ [0, 3] by decide)]; exact hi)
            exact ⟨(hP _ h9.1).1, h9.2⟩
          · rw [f.2.1 62 (by decide)]
            exact d3 i (by rw [← f.c (show 59 ∉ [0, 3] by decide)]; exact hi)
        · exact a6.fr f (by decide)
        · obtain ⟨d1, d2, d3⟩ := a7
          refine ⟨by rw [f.c (by decide), f.1 14 (by decide)]; exact d1, fun r hr => ?_, fun i hi => ?_⟩
          · rw [f.c (by decide)] at hr
            have hr40 : r < 40 := by omega
            exact (d2 r hr).pt hr40 hP (fun j hj => f.2.1 j (by simp at hj ⊢; omega) r) (fun j hj => f.2.1 23 (by decide) _) (fun l hl => ⟨f.2.1 28 (by decide) _, f.2.1 29 (by decide) _⟩) (by rw [f.2.2 19 (by decide)]; exact ⟨(d2 r hr).n19 hr40, Int64.le_refl _⟩)
          · rw [f.c (by decide)] at hi
            rw [f.2.1 17 (by decide), f.2.1 18 (by decide), f.2.1 24 (by decide), f.2.1 25 (by decide), f.2.2 19 (by decide), f.2.2 22 (by decide)]
            exact d3 i hi
        · exact a8.fr f (by decide) (by decide) (by decide) (by decide) (by decide)
        · exact a9.fr f (by decide) (by decide) (by decide) (by decide)
    · rw [if_neg c2]
      exact h.thr
  · rw [if_neg c1]
    by_cases c4 : P_isPerson p1 M
    · rw [if_pos c4]
      by_cases c5 : P_in p2 0 10000000
      · rw [if_pos c5]
        by_cases c6 : (mI M 3) = 12
        · rw [if_pos c6]
          exact h.thr
        · rw [if_neg c6]
          obtain ⟨N, eN⟩ : ∃ N, N = (sI (rI (rI (sI M 0 0) 4 (mI M 3) p1) 5 (mI M 3) p2) 3 ((mI M 3) + 1)) := ⟨_, rfl⟩
          have f : FrM [0, 3] [4, 5] [] M N := by rw [eN]; exact ((((FrM.rfl').cI (by decide)).rI (by decide)).rI (by decide)).cI (by decide)
          obtain ⟨a1, a2, a3, a4, a5, a6, a7, a8, a9⟩ := h
          obtain ⟨⟨b1, b2⟩, b3, b4, b5, b6, b7⟩ := a2
          have hlt : cnt M 3 < 12 := by
            have h9 : ¬ mI M 3 = 12 := by assumption
            have h7 : cnt M 3 ≠ 12 := fun z => h9 (by rw [b2, z]; rfl)
            omega
          have e3 : mI N 3 = nI (cnt M 3 + 1) := by rw [eN, ← nI_1, ← b2]; exact mI_sIs
          have ecn : cnt N 3 = cnt M 3 + 1 := by unfold cnt; rw [e3, nI_clamp (by omega)]; rfl
          have cl : (mI M 3).toNatClampNeg = cnt M 3 := rfl
          have g4 : ∀ i, gn N 4 i = if i = cnt M 3 then p1 else gn M 4 i := fun i => by
            rw [eN]
            show gn (rI (rI (sI M 0 0) 4 (mI M 3) p1) 5 (mI M 3) p2) 4 i = _
            rw [gn_rIn (by decide), gn_rI, cl]
            by_cases z : i = cnt M 3
            · rw [if_pos ⟨rfl, z⟩, if_pos z]
            · rw [if_neg (fun y => z y.2), if_neg z]; rfl
          have g5 : ∀ i, gn N 5 i = if i = cnt M 3 then p2 else gn M 5 i := fun i => by
            rw [eN]
            show gn (rI (rI (sI M 0 0) 4 (mI M 3) p1) 5 (mI M 3) p2) 5 i = _
            rw [gn_rI, cl]
            by_cases z : i = cnt M 3
            · rw [if_pos ⟨rfl, z⟩, if_pos z]
            · rw [if_neg (fun y => z y.2), if_neg z, gn_rIn (by decide)]; rfl
          have hP : ∀ b, P_isPerson b M → P_isPerson b N ∧ ∀ t, MB N b t = MB M b t := fun b hb => by
            obtain ⟨i, hi, e⟩ := per_of ⟨b1, b2⟩ hb
            refine ⟨?_, fun t => ?_⟩
            · rw [e]
              exact of_cn (x := mI N 3) (n := cnt M 3 + 1) (N := 12) ⟨by omega, e3⟩ (by decide) (by omega)
            · unfold MB
              rw [e, gI_n, gI_n, gI_n, gI_n, nI_clamp (by omega), g4, g5, if_neg (show ¬ i = cnt M 3 by omega), if_neg (show ¬ i = cnt M 3 by omega)]
          show MV (sI (rI (rI (sI M 0 0) 4 (mI M 3) p1) 5 (mI M 3) p2) 3 ((mI M 3) + 1))
          rw [← eN]
          refine ⟨?_, ?_, ?_, ?_, ?_, ?_, ?_, ?_, ?_⟩
          · exact a1.fr f (by decide)
          · refine ⟨by rw [ecn]; exact ⟨by omega, e3⟩, fun z => ?_, fun _ => ?_, fun i hi => ?_, fun b hb => ?_, fun i hi => ?_⟩
            · rw [e3] at z
              have := congrArg Int32.toNatClampNeg z
              rw [nI_clamp (by omega)] at this
              exact absurd (show cnt M 3 + 1 = 0 from this) (by omega)
            · rw [f.1 10 (by decide)]
              by_cases z : mI M 3 = 0
              · rw [b3 z]
                exact of_cn (x := mI N 3) (n := cnt M 3 + 1) (N := 12) (i := 0) ⟨by omega, e3⟩ (by decide) (by omega)
              · exact (hP _ (b4 z)).1
            · rw [g4]
              rw [ecn] at hi
              by_cases z : i = cnt M 3
              · rw [if_pos z]
                have h9 : p1 = -1 ∨ ∃ j, j < cnt M 3 ∧ p1 = nI j := Or.inr (per_of ⟨b1, b2⟩ c4)
                rw [z]
                exact h9
              · rw [if_neg z]
                exact b5 i (by omega)
            · obtain ⟨i, hi, e⟩ := cn_of (x := mI N 3) (n := cnt M 3 + 1) (N := 12) ⟨by omega, e3⟩ (by decide) hb
              rw [f.i (by decide)]
              by_cases z : i = cnt M 3
              · rw [e, z, gI_n, nI_clamp (by omega), (b7 _ (Nat.le_refl _)).2.2]
                exact of_cn (x := mI N 3) (n := cnt M 3 + 1) (N := 12) (i := 0) ⟨by omega, e3⟩ (by decide) (by omega)
              · refine (hP _ (b6 b ?_)).1
                rw [e]
                exact of_cn (x := mI M 3) (n := cnt M 3) (N := 12) ⟨b1, b2⟩ (by decide) (by omega)
            · rw [ecn] at hi
              rw [g4, if_neg (by omega), f.2.1 6 (by decide), f.2.1 7 (by decide)]
              exact b7 i (by omega)
          · intro i hi
            rw [ecn] at hi
            rw [f.2.2 8 (by decide), f.2.2 9 (by decide)]
            exact a3 i (by omega)
          · exact a4.fr f (by decide) (by decide) (by decide) (by decide)
          · obtain ⟨d1, d2, d3⟩ := a5
            refine ⟨by rw [f.c (by decide), f.1 59 (by decide)]; exact d1, fun i hi => ?_, fun i hi => ?_⟩
            · rw [f.2.1 60 (by decide), f.2.1 61 (by decide), f.2.1 62 (by decide)]
              have h9 := d2 i (by rw [← f.c (show 59 ∉ [0, 3] by decide)]; exact hi)
              exact ⟨(hP _ h9.1).1, h9.2⟩
            · rw [f.2.1 62 (by decide)]
              exact d3 i (by rw [← f.c (show 59 ∉ [0, 3] by decide)]; exact hi)
          · exact a6.fr f (by decide)
          · obtain ⟨d1, d2, d3⟩ := a7
            refine ⟨by rw [f.c (by decide), f.1 14 (by decide)]; exact d1, fun r hr => ?_, fun i hi => ?_⟩
            · rw [f.c (by decide)] at hr
              have hr40 : r < 40 := by omega
              exact (d2 r hr).pt hr40 hP (fun j hj => f.2.1 j (by simp at hj ⊢; omega) r) (fun j hj => f.2.1 23 (by decide) _) (fun l hl => ⟨f.2.1 28 (by decide) _, f.2.1 29 (by decide) _⟩) (by rw [f.2.2 19 (by decide)]; exact ⟨(d2 r hr).n19 hr40, Int64.le_refl _⟩)
            · rw [f.c (by decide)] at hi
              rw [f.2.1 17 (by decide), f.2.1 18 (by decide), f.2.1 24 (by decide), f.2.1 25 (by decide), f.2.2 19 (by decide), f.2.2 22 (by decide)]
              exact d3 i hi
          · exact a8.fr f (by decide) (by decide) (by decide) (by decide) (by decide)
          · exact a9.fr f (by decide) (by decide) (by decide) (by decide)
      · rw [if_neg c5]
        exact h.thr
    · rw [if_neg c4]
      exact h.thr
