theorem mv_sendG {M M1 M2 M3 : MS} (h : MV M) {p v : Int32} (c1 : P_isRequest p M) (c2 : gI M 17 p = 0) (hv : v = 1 ∨ v = 2) (e1 : M1 = rI (sI M 0 0) 20 p (f_yearNow (sI M 0 0))) (e2 : M2 = f_commits p (f_total p M1) M1) (e3 : M3 = f_laysChain p (f_total p M2) M2) : MV (rI M3 17 p v) := by
  obtain ⟨a1, a2, a3, a4, a5, a6, a7, a8, a9⟩ := h
  obtain ⟨r0, hr0, er⟩ := rq_of a7.1 c1
  have h40 := a7.1.1
  have cl : p.toNatClampNeg = r0 := by rw [er, nI_clamp (by omega)]
  have hk := a7.2.1 r0 hr0
  have tb := tot_bd a8 hr0 h40 (hk.e18 (by omega))
  rw [← er] at hk tb
  obtain ⟨t, et⟩ : ∃ t, t = f_total p M := ⟨_, rfl⟩
  rw [← et] at tb
  have t1 : f_total p M1 = t := by
    rw [e1, et]; exact ft_cg (fun x => gI_rIn rfl) (fun x => gI_rIn rfl) (fun x => gI_rIn rfl)
  rw [t1] at e2
  have t2 : f_total p M2 = t := by
    rw [e2, ← t1]; exact ft_cg (fun x => rfl) (fun x => rfl) (fun x => rfl)
  rw [t2] at e3
  have f2 : FrM [0] [17, 20, 23, 24, 25, 26] [11, 19] M M2 := by
    rw [e2, e1]
    exact (((FrM.rfl'.cI (by decide)).rI (by decide))).of (Fr.commits (A := []) (B := [19, 11]) Fr.rfl' (by decide) (by decide)) (by decide) (by decide)
  have g20 : gI M2 20 p = f_yearNow (sI M 0 0) := by
    rw [e2, e1]
    show gI (rI (sI M 0 0) 20 p (f_yearNow (sI M 0 0))) 20 p = _
    exact gI_rIs
  have k17 : gI M 17 p = 0 := c2
  obtain ⟨⟨g1, g2, g3, g4, ⟨t0, g5⟩, g6, g7, g8, g9⟩, q1, q2, q3⟩ := hk
  have c19 : gJ M 19 p = 0 := by
    rcases q3 with ⟨z, _⟩ | z
    · rw [c2] at z; exact absurd z (by decide)
    · exact z.2
  have g19 : gJ M2 19 p = t := by
    rw [e2, e1]
    unfold f_commits
    rw [gJ_rJn rfl, gJ_rJs]
    show gJ M 19 p + t = t
    rw [c19, Int64.zero_add]
  have n19 : ∀ i, i ≠ r0 → gl M2 19 i = gl M 19 i := fun i z => by
    rw [e2, e1]
    unfold f_commits
    rw [gl_rJn (by decide), gl_rJ, cl, if_neg (fun y => z y.2)]
    rfl
  have n20 : ∀ i, i ≠ r0 → gn M2 20 i = gn M 20 i := fun i z => by
    rw [e2, e1]
    show gn (rI (sI M 0 0) 20 p (f_yearNow (sI M 0 0))) 20 i = _
    rw [gn_rI, cl, if_neg (fun y => z y.2)]
    rfl
  have hB2 : BO M2 := fun i hi => by
    rw [f2.c (by decide)] at hi
    rw [f2.2.1 4 (by decide)]
    exact a2.2.2.2.1 i hi
  have hp15 : P_isPerson (gI M2 15 (nI r0)) M2 := by
    rw [f2.p (by decide), f2.i (by decide), ← er]
    exact g2
  obtain ⟨n, M1c, w1, w2, w3, w4, w5⟩ := lays_ok (t := t) (r := r0) (by omega) hB2 (by rw [f2.c (by decide)]; exact a2.1.1) (by rw [f2.c (by decide), f2.1 3 (by decide)]; exact a2.1.2) hp15
  have hc : ∀ c, CH (rI (rI (rI M1c 24 (nI r0) (nI n)) 25 (nI r0) 0) 26 (nI r0) c) (nI r0) t := fun c => lay_ch (by omega) w1 w2 w3
  generalize ec : (if lg_cmp t 100000 < 0 then -1 else if mI M2 10 = gI M2 15 (nI r0) then -1 else if amg M2 t (mI M2 10) 13 (gI M2 4 (gI M2 15 (nI r0))) = 0 then mI M2 10 else -1) = c at w5
  have hcP : c = -1 ∨ P_isPerson c M := by
    rw [← ec]
    split
    · exact Or.inl rfl
    · split
      · exact Or.inl rfl
      · split
        · rw [f2.1 10 (by decide)]
          exact Or.inr (a2.2.2.1 (per_some g2))
        · exact Or.inl rfl
  rw [← er] at w5 hc
  rw [w5] at e3
  obtain ⟨N, eN⟩ : ∃ N, N = rI M3 17 p v := ⟨_, rfl⟩
  rw [← eN]
  rw [e3] at eN
  have hcN : CH N p t := by
    rw [eN]
    exact ch_cg (M := rI (rI (rI M1c 24 p (nI n)) 25 p 0) 26 p c) rfl (fun x => gI_rIn rfl) (gI_rIn rfl) (gI_rIn rfl) (fun x => gI_rIn rfl) (fun x => gI_rIn rfl) (hc c)
  have w := lc_W (n := 0) w1 (by omega)
  have fc : FrM [0] [17, 20, 23, 24, 25, 26] [11, 19] M2 M1c := ⟨fun j _ => congrFun w.2.2.1 j, fun j z i => w.1 j i (fun y => z (by rw [y]; decide)), fun j _ i => w.2.2.2 j i⟩
  have f : FrM [0] [17, 20, 23, 24, 25, 26] [11, 19] M N := by
    rw [eN]
    exact ((((f2.trans fc).rI (by decide)).rI (by decide)).rI (by decide)).rI (by decide)
  have k : ∀ j, j ∉ [17, 20, 23, 24, 25, 26] → gI N j p = gI M j p := fun j hj => f.i hj p
  have l19 : ∀ i, gl N 19 i = gl M2 19 i := fun i => by
    rw [eN]
    show gl M1c 19 i = _
    exact w.2.2.2 19 i
  have i20 : ∀ i, gn N 20 i = gn M2 20 i := fun i => by
    rw [eN, gn_rIn (by decide), gn_rIn (by decide), gn_rIn (by decide), gn_rIn (by decide)]
    exact w.1 20 i (by decide)
  have kv : gI N 17 p = v := by rw [eN]; exact gI_rIs
  have k26 : gI N 26 p = c := by rw [eN, gI_rIn rfl]; exact gI_rIs
  have k20 : gI N 20 p = f_yearNow (sI M 0 0) := by rw [gI_n, i20]; exact g20
  have k19 : gJ N 19 p = t := by rw [gJ_n, l19]; exact g19
  have etN : f_total p N = t := by rw [et]; exact ft_cg (fun x => f.i (by decide) x) (fun x => f.i (by decide) x) (fun x => f.i (by decide) x)
  have hY : P_isYear (f_yearNow (sI M 0 0)) := a1.yr
  have ht0 : 0 ≤ t := by
    rw [Int64.le_iff_toInt_le, show (0 : Int64).toInt = 0 from by decide]
    exact tb.1
  refine ⟨a1.fr f (by decide), a2.fr f (by decide) (by decide) (by decide) (by decide) (by decide), a3.fr f (by decide) (by decide) (by decide), a4.fr f (by decide) (by decide) (by decide) (by decide), a5.fr f (by decide) (by decide) (by decide) (by decide) (by decide), a6.fr f (by decide), ?_, a8.fr f (by decide) (by decide) (by decide) (by decide) (by decide), ?_⟩
  · refine MRq.one a7 f (by decide) (by decide) (by decide) (by decide) hr0 (fun j hj r hr => ?_) (fun r hr j hj => ?_) (fun r hr l hl => ⟨f.2.1 28 (by decide) _, f.2.1 29 (by decide) _⟩) (fun r hr => ⟨by rw [l19]; exact n19 r hr, f.2.2 22 (by decide) _⟩) ?_
    · by_cases z : j = 20
      · rw [z, i20]; exact n20 r hr
      · rw [eN, gn_rI, cl, if_neg (fun y => hr y.2), gn_rI, cl, if_neg (fun y => hr y.2), gn_rI, cl, if_neg (fun y => hr y.2), gn_rI, cl, if_neg (fun y => hr y.2), w.1 j r (by rintro rfl; revert hj; decide), e2, e1]
        show gn (rI (sI M 0 0) 20 p (f_yearNow (sI M 0 0))) j r = _
        rw [gn_rIn z]
        rfl
    · rw [eN, gn_rIn (by decide), gn_rIn (by decide), gn_rIn (by decide), gn_rIn (by decide), w.2.1 r hr j hj, e2, e1]
      show gn (rI (sI M 0 0) 20 p (f_yearNow (sI M 0 0))) 23 _ = _
      rw [gn_rIn (by decide)]
      rfl
    · rw [← er]
      refine ⟨⟨by rw [k 16 (by decide)]; exact g1, by rw [k 15 (by decide), f.p (by decide)]; exact g2, by rw [k19, k20]; exact ⟨ht0, fun _ => hY⟩, by rw [k26, f.p (by decide)]; exact hcP, ⟨t, hcN⟩, fun _ => by rw [etN]; exact hcN, fun z => ?_, fun z => ?_, by rw [kv]; rcases hv with rfl | rfl <;> decide⟩, by rw [k 21 (by decide)]; exact q1, by rw [k 18 (by decide)]; exact q2, Or.inl ⟨?_, by rw [k20]; exact hY, by rw [k19, etN]; exact Int.le_refl _⟩⟩
      · rw [kv] at z; rcases hv with rfl | rfl <;> exact absurd z (by decide)
      · rw [kv] at z; rcases hv with rfl | rfl <;> exact absurd z (by decide)
      · rw [kv]; rcases hv with rfl | rfl <;> decide
  · refine MIv.st a9 f (by decide) (by decide) (by decide) (by decide) (fun r hr => ?_)
    have h9 : r ≠ r0 := fun z => by
      have h8 : gn M 17 r0 = 0 := by rw [← c2, gI_n, cl]
      rw [z, h8] at hr
      exact absurd hr (by decide)
    rw [eN, gn_rI, cl, if_neg (fun z => h9 z.2), gn_rIn (by decide), gn_rIn (by decide), gn_rIn (by decide), w.1 17 r (by decide), e2, e1]
    show gn (rI (sI M 0 0) 20 p (f_yearNow (sI M 0 0))) 17 r = 4 ∨ gn (rI (sI M 0 0) 20 p (f_yearNow (sI M 0 0))) 17 r = 5
    rw [gn_rIn (by decide)]
    exact hr
theorem mv_send {M : MS} {p1 : Int32} (h : MV M) : MV (f_send p1 M).2 := by
  unfold f_send
  split
  · split
    · split
      · exact h.thr
      · split
        · split
          · exact mv_sendG h (by assumption) (by assumption) (Or.inr rfl) rfl rfl rfl
          · exact mv_sendG h (by assumption) (by assumption) (Or.inl rfl) rfl rfl rfl
        · exact h.thr
    · exact h.thr
  · exact h.thr
/-- the year of a request moves on -/
theorem EK.y20 {M N : MS} {r : Nat} (h : EK M (nI r)) (hr : r < 40) (f : FrM [] [20] [11] M N) (hy : gn N 20 r = gn M 20 r ∨ P_isYear (gn N 20 r)) : EK N (nI r) := by
  have k : ∀ j, j ≠ 20 → gI N j (nI r) = gI M j (nI r) := fun j hj => f.i (by simp; exact hj) _
  have k20 : gI N 20 (nI r) = gn N 20 r := by rw [gI_n, nI_clamp (by omega)]
  have k20' : gI M 20 (nI r) = gn M 20 r := by rw [gI_n, nI_clamp (by omega)]
  have yr : P_isYear (gI M 20 (nI r)) → P_isYear (gI N 20 (nI r)) := fun z => by
    rw [k20]
    rcases hy with y | y
    · rw [y, ← k20']; exact z
    · exact y
  have k19 : gJ N 19 (nI r) = gJ M 19 (nI r) := f.j (by decide) _
  have et : f_total (nI r) N = f_total (nI r) M := ft_cg (fun x => f.i (by decide) x) (fun x => f.i (by decide) x) (fun x => f.i (by decide) x)
  have ec : ∀ t, CH M (nI r) t → CH N (nI r) t := fun t z => ch_cg (M := M) (f.1 3 (by decide)) (fun x => f.i (by decide) x) (f.i (by decide) _) (f.i (by decide) _) (fun x => f.i (by decide) x) (fun x => f.i (by decide) x) z
  obtain ⟨⟨g1, g2, g3, g4, ⟨t, g5⟩, g6, g7, g8, g9⟩, q1, q2, q3⟩ := h
  refine ⟨⟨by rw [k 16 (by decide)]; exact g1, by rw [k 15 (by decide), f.p (by decide)]; exact g2, by rw [k19]; exact ⟨g3.1, fun z => yr (g3.2 z)⟩, by rw [k 26 (by decide), f.p (by decide)]; exact g4, ⟨t, ec t g5⟩, fun z => by rw [et]; exact ec _ (g6 (by rw [← k 17 (by decide)]; exact z)), fun z => by rw [k 21 (by decide)]; exact g7 (by rw [← k 17 (by decide)]; exact z), fun z => yr (g8 (by rw [← k 17 (by decide)]; exact z)), by rw [k 17 (by decide)]; exact g9⟩, by rw [k 21 (by decide)]; exact q1, by rw [k 18 (by decide)]; exact q2, ?_⟩
  unfold CBd
  rw [k 17 (by decide), k19, et]
  exact q3.imp (fun z => ⟨z.1, yr z.2.1, z.2.2⟩) id
theorem closeAt_fr {o : Int32} {M : MS} : FrM [] [20] [11] M (closeAt o M) ∧ ∀ i, gn (closeAt o M) 20 i = gn M 20 i ∨ gn (closeAt o M) 20 i = o + 1 := by
  have k1 : ∀ n, Fr [] [11] M (it_cl1 o M n) := fun n => by
    induction n with
    | zero => exact Fr.rfl'
    | succ n ih => exact ih.trans cl1_fr
  have k2 : ∀ (K : MS) n, Fr [20] [] K (it_cl2 o K n) ∧ ∀ i, gn (it_cl2 o K n) 20 i = gn K 20 i ∨ gn (it_cl2 o K n) 20 i = o + 1 := fun K n => by
    induction n with
    | zero => exact ⟨Fr.rfl', fun _ => Or.inl rfl⟩
    | succ n ih =>
      show Fr [20] [] K (cl2 o (nI n) (it_cl2 o K n)) ∧ ∀ i, gn (cl2 o (nI n) (it_cl2 o K n)) 20 i = gn K 20 i ∨ gn (cl2 o (nI n) (it_cl2 o K n)) 20 i = o + 1
      rw [cl2_eq]
      split
      · split
        · refine ⟨ih.1.rI (by decide), fun i => ?_⟩
          rw [gn_rI]
          split
          · exact Or.inr rfl
          · exact ih.2 i
        · exact ih
      · exact ih
  unfold closeAt
  generalize (4 * mI M 14).toNatClampNeg = a
  generalize (mI M 14).toNatClampNeg = b
  have f3 := it_cl3_fr (M := it_cl2 o (it_cl1 o M a) b) (o := o) 6
  have f2 := k2 (it_cl1 o M a) b
  have f1 := k1 a
  refine ⟨((FrM.rfl'.of f1 (by decide) (by decide)).of f2.1 (by decide) (by decide)).of f3 (by decide) (by decide), fun i => ?_⟩
  rw [f3.2.2.1 20 (by decide)]
  exact (f2.2 i).imp (fun z => z.trans (f1.2.2.1 20 (by decide) i)) id
theorem mv_close {M : MS} {u : Nat} (h : MV M) (hu : u < 2) : MV (closeAt (nI u) M) := by
  obtain ⟨f, hy⟩ := closeAt_fr (M := M) (o := nI u)
  generalize closeAt (nI u) M = N at f hy
  obtain ⟨a1, a2, a3, a4, a5, a6, a7, a8, a9⟩ := h
  refine ⟨a1.fr f (by decide), a2.fr f (by decide) (by decide) (by decide) (by decide) (by decide), a3.fr f (by decide) (by decide) (by decide), a4.fr f (by decide) (by decide) (by decide) (by decide), a5.fr f (by decide) (by decide) (by decide) (by decide) (by decide), a6.fr f (by decide), ?_, a8.fr f (by decide) (by decide) (by decide) (by decide) (by decide), a9.fr f (by decide) (by decide) (by decide) (by decide)⟩
  obtain ⟨b1, b2, b3⟩ := a7
  refine ⟨by rw [f.c (by decide), f.1 14 (by decide)]; exact b1, fun r hr => ?_, fun i hi => ?_⟩
  · rw [f.c (by decide)] at hr
    refine (b2 r hr).y20 (by omega) f ((hy r).imp id (fun z => ?_))
    rw [z, nI_1]
    exact ⟨nI_pos' (by omega), show nI (u + 1) ≤ nI 2 from nI_le (by omega) (by decide)⟩
  · rw [f.c (by decide)] at hi
    rw [f.2.1 17 (by decide), f.2.1 18 (by decide), f.2.1 24 (by decide), f.2.1 25 (by decide), f.2.2 19 (by decide), f.2.2 22 (by decide)]
    exact b3 i hi
theorem mv_day {M : MS} {d : Nat} (h : MV M) (hd : d ≤ 1079) : MV (sI M 1 (nI d)) := by
  have f : FrM [1] [] [] M (sI M 1 (nI d)) := FrM.rfl'.cI (by decide)
  obtain ⟨a1, a2, a3, a4, a5, a6, a7, a8, a9⟩ := h
  exact ⟨⟨d, hd, mI_sIs⟩, a2.fr f (by decide) (by decide) (by decide) (by decide) (by decide), a3.fr f (by decide) (by decide) (by decide), a4.fr f (by decide) (by decide) (by decide) (by decide), a5.fr f (by decide) (by decide) (by decide) (by decide) (by decide), a6.fr f (by decide), a7.fr f (by decide) (by decide) (by decide) (by decide) (by decide), a8.fr f (by decide) (by decide) (by decide) (by decide) (by decide), a9.fr f (by decide) (by decide) (by decide) (by decide)⟩
theorem mv_pass {M : MS} {p1 : Int32} (h : MV M) : MV (f_pass p1 M).2 := by
  obtain ⟨d, hd, e1⟩ := h.1
  unfold f_pass
  by_cases c1 : P_in p1 1 360
  · rw [if_pos c1]
    by_cases c2 : mI M 1 + p1 ≤ 1079
    · rw [if_pos c2]
      obtain ⟨p, hp, rfl⟩ : ∃ p, p ≤ 360 ∧ p1 = nI p := in_cases (n := 360) (by decide) ⟨Int32.le_trans (by decide : (0 : Int32) ≤ 1) c1.1, c1.2⟩
      have hdp : d + p ≤ 1079 := by
        rw [e1, nI_add] at c2
        have h9 := mt (nI_ltI (a := 1079) (b := d + p) (by omega) (by omega)).mpr (Int32.not_lt.mpr (show nI (d + p) ≤ nI 1079 from c2))
        omega
      show MV (it_pass (sI M 0 0) (nI p).toNatClampNeg)
      rw [nI_clamp (by omega)]
      have m1 : mI (sI M 0 0) 1 = nI d := e1
      by_cases hy : d / 360 = (d + p) / 360
      · rw [it_low m1 p hy (by omega)]
        exact mv_day h.thr hdp
      · rw [it_high m1 p (by omega) (by omega)]
        exact mv_day (mv_close h.thr (by omega)) hdp
    · rw [if_neg c2]; exact h.thr
  · rw [if_neg c1]; exact h.thr
