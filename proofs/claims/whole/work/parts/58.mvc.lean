theorem ff_all {p : Int32} {M : MS} (h : 0 ≤ gJ M 19 p) : gJ (f_frees p (gJ M 19 p) M).2 19 p = 0 := by
  unfold f_frees
  rw [if_pos (show 0 ≤ lg_cmp (gJ M 19 p) (gJ M 19 p) by rw [lg_cmp_ge]; exact Int64.le_refl _)]
  by_cases c : lg_cmp (gJ M 19 p) 0 ≤ 0
  · rw [if_pos c]
    rw [lg_cmp_le] at c
    exact Int64.le_antisymm c h
  · rw [if_neg c]
    unfold f_commits
    rw [gJ_rJn rfl, gJ_rJs, ← Int64.sub_eq_add_neg, Int64.sub_self]
theorem fr19 {p : Int32} {v : Int64} {M : MS} {i : Nat} (h : i ≠ p.toNatClampNeg) : gl (f_frees p v M).2 19 i = gl M 19 i := by
  have st : ∀ u, gl (f_commits p u M) 19 i = gl M 19 i := fun u => by
    unfold f_commits
    rw [gl_rJn (by decide), gl_rJ, if_neg (fun z => h z.2)]
  unfold f_frees
  split <;> split <;> first | rfl | exact st _
theorem why_pt {M M' : MS} {v : Int32} {q : Nat} (e : gI M 40 v = nI q) (hq : q < 2 ^ 30) (h40 : gI M' 40 v = gI M 40 v) (hl : ∀ j, j ∈ [27, 28, 29, 30] → gn M' j q = gn M j q) (hv : ∀ j, j ∈ [41, 45] → gI M' j v = gI M j v) (h43 : gJ M' 43 v = gJ M 43 v) (hb : f_bookedPieces (gI M 40 v) M' = f_bookedPieces (gI M 40 v) M) : f_why v M' = f_why v M := by
  have k : ∀ j, j ∈ [27, 28, 29, 30] → gI M' j (nI q) = gI M j (nI q) := fun j hj => by rw [gI_n, gI_n, nI_clamp (by omega)]; exact hl j hj
  rw [e] at hb
  unfold f_why
  rw [h40, e, hb, h43, hv 41 (by decide), hv 45 (by decide), k 27 (by decide), k 28 (by decide), k 29 (by decide), k 30 (by decide)]
theorem ch_step {M : MS} {r : Nat} {t : Int64} (hr : r < 40) (h : CH M (nI r) t) (hlt : ¬ gI M 24 (nI r) ≤ gI M 25 (nI r)) : CH (rI M 25 (nI r) (gI M 25 (nI r) + 1)) (nI r) t := by
  obtain ⟨n, a, hn, ha, e1, e2, hj⟩ := h
  rw [e1, e2] at hlt
  have han : a < n := by
    rcases Nat.lt_or_ge a n with z | z
    · exact z
    · exact absurd (nI_le z (by omega)) hlt
  exact ⟨n, a + 1, hn, han, (gI_rIn rfl).trans e1, by rw [gI_rIs, e2, nI_1], hj⟩
theorem turn_lt {p p2 : Int32} {M : MS} (h : f_byTurn p M = p2) (hp : P_isPerson p2 M) : ¬ gI M 24 p ≤ gI M 25 p := fun z => by
  unfold f_byTurn at h
  rw [if_pos z] at h
  exact person_ne hp h.symm
/-- the total of a request -/
theorem tot_bd {M : MS} {r : Nat} (hL : MLn M) (hr : r < cnt M 14) (h40 : cnt M 14 ≤ 40) (h4 : ∃ n, n ≤ 4 ∧ gn M 18 r = nI n) : 0 ≤ (f_total (nI r) M).toInt ∧ (f_total (nI r) M).toInt ≤ 39600000 := by
  obtain ⟨n, hn, e⟩ := h4
  have key : ∀ i, i ≤ n → 0 ≤ (it_total (nI r) M i).toInt ∧ (it_total (nI r) M i).toInt ≤ 9900000 * i := fun i => by
    induction i with
    | zero => exact fun _ => ⟨by show 0 ≤ (0 : Int64).toInt; decide, by show (0 : Int64).toInt ≤ 9900000 * ((0 : Nat) : Int); decide⟩
    | succ i ih =>
      intro hi
      obtain ⟨i1, i2⟩ := ih (by omega)
      have hd : dm M 9 (4 * r + i) := by
        rw [dm9, show (4 * r + i) / 4 = r by omega, show (4 * r + i) % 4 = i by omega, e, nI_clamp (by omega)]
        exact ⟨hr, by omega⟩
      have h9 := hL.1 _ hd
      have p1 := in_int h9.1
      have p2 := in_int h9.2.1
      rw [show (1 : Int32).toInt = 1 from by decide, show (99 : Int32).toInt = 99 from by decide] at p1
      rw [show (1 : Int32).toInt = 1 from by decide, show (100000 : Int32).toInt = 100000 from by decide] at p2
      have q1 := mul_bd (a := (gn M 28 (4 * r + i)).toInt) (b := (gn M 29 (4 * r + i)).toInt) (A := 99) (B := 100000) (by omega) p1.2 (by omega) p2.2
      show 0 ≤ (st_total (nI r) M (4 * nI r + nI i) (it_total (nI r) M i)).toInt ∧ (st_total (nI r) M (4 * nI r + nI i) (it_total (nI r) M i)).toInt ≤ _
      unfold st_total
      rw [show (4 : Int32) * nI r + nI i = nI (4 * r + i) by rw [show (4 : Int32) = nI 4 from rfl, pk_mul, nI_add], gI_n, gI_n, nI_clamp (by omega)]
      have m := w_m64 (x := (gn M 28 (4 * r + i)).toInt64) (y := (gn M 29 (4 * r + i)).toInt64) (Int32.toInt_toInt64 _) (Int32.toInt_toInt64 _) (by omega) (by omega)
      rw [w_a64 rfl m (by omega) (by omega)]
      omega
  unfold f_total
  rw [gI_n, nI_clamp (by omega), e, nI_clamp (by omega)]
  have h9 := key n (Nat.le_refl _)
  omega
theorem EK.e18 {M : MS} {r : Nat} (h : EK M (nI r)) (hr : r < 40) : ∃ n, n ≤ 4 ∧ gn M 18 r = nI n := by
  obtain ⟨n, hn, e⟩ := h.2.2.1
  exact ⟨n, hn, by rw [← e, gI_n, nI_clamp (by omega)]⟩
set_option maxRecDepth 10000 in
theorem mv_approve {M : MS} {p1 : Int32} {p2 : Int32} (h : MV M) : MV (f_approve p1 p2 M).2 := by
  unfold f_approve
  by_cases c1 : P_isRequest p1 M
  · rw [if_pos c1]
    by_cases c2 : P_isPerson p2 M
    · rw [if_pos c2]
      by_cases c3 : P_can p1 p2 M
      · rw [if_pos c3]
        by_cases c4 : (f_byTurn p1 (sI M 0 0)) = p2
        · rw [if_pos c4]
          by_cases c5 : (f_left p1 (rI (sI M 0 0) 25 p1 ((gI M 25 p1) + 1))) = 0
          · rw [if_pos c5]
            obtain ⟨N, eN⟩ : ∃ N, N = (rI (rI (sI M 0 0) 25 p1 ((gI M 25 p1) + 1)) 17 p1 2) := ⟨_, rfl⟩
            have f : FrM [0] [17, 25] [] M N := by rw [eN]; exact (((FrM.rfl').cI (by decide)).rI (by decide)).rI (by decide)
            obtain ⟨a1, a2, a3, a4, a5, a6, a7, a8, a9⟩ := h
            obtain ⟨r0, hr0, er⟩ := rq_of a7.1 c1
            have h40 := a7.1.1
            have cl : p1.toNatClampNeg = r0 := by rw [er, nI_clamp (by omega)]
            have hk := a7.2.1 r0 hr0
            have c3 := (show gI M 17 p1 = 1 ∧ _ from c3).1
            show MV (rI (rI (sI M 0 0) 25 p1 ((gI M 25 p1) + 1)) 17 p1 2)
            rw [← eN]
            refine ⟨?_, ?_, ?_, ?_, ?_, ?_, ?_, ?_, ?_⟩
            · exact a1.fr f (by decide)
            · exact a2.fr f (by decide) (by decide) (by decide) (by decide) (by decide)
            · exact a3.fr f (by decide) (by decide) (by decide)
            · exact a4.fr f (by decide) (by decide) (by decide) (by decide)
            · exact a5.fr f (by decide) (by decide) (by decide) (by decide) (by decide)
            · exact a6.fr f (by decide)
            · refine MRq.one a7 f (by decide) (by decide) (by decide) (by decide) hr0 (fun j hj r hr => ?_) (fun r hr j hj => f.2.1 23 (by decide) _) (fun r hr l hl => ⟨f.2.1 28 (by decide) _, f.2.1 29 (by decide) _⟩) (fun r hr => ⟨f.2.2 19 (by decide) _, f.2.2 22 (by decide) _⟩) ?_
              · rw [eN, gn_rI, cl, if_neg (fun z => hr z.2), gn_rI, cl, if_neg (fun z => hr z.2)]
                rfl
              · rw [← er] at hk ⊢
                have k : ∀ j, j ≠ 17 → j ≠ 25 → gI N j p1 = gI M j p1 := fun j z1 z2 => f.i (by simp; omega) p1
                have k17 : gI N 17 p1 = 2 := by rw [eN]; exact gI_rIs
                have k19 : gJ N 19 p1 = gJ M 19 p1 := f.j (by decide) p1
                have et : f_total p1 N = f_total p1 M := ft_cg (fun x => f.i (by decide) x) (fun x => f.i (by decide) x) (fun x => f.i (by decide) x)
                have ec : ∀ t, CH M p1 t → CH N p1 t := fun t z => by
                  rw [eN]
                  have h9 := ch_step (M := M) (r := r0) (t := t) (by omega) (er ▸ z) (er ▸ turn_lt (M := M) c4 c2)
                  rw [← er] at h9
                  exact ch_cg (M := rI M 25 p1 (gI M 25 p1 + 1)) rfl (fun x => gI_rIn rfl) (gI_rIn rfl) (gI_rIn rfl) (fun x => gI_rIn rfl) (fun x => gI_rIn rfl) h9
                obtain ⟨⟨g1, g2, g3, g4, ⟨t, g5⟩, g6, g7, g8, g9⟩, q1, q2, q3⟩ := hk
                refine ⟨⟨by rw [k 16 (by decide) (by decide)]; exact g1, by rw [k 15 (by decide) (by decide), f.p (by decide)]; exact g2, by rw [k19, k 20 (by decide) (by decide)]; exact g3, by rw [k 26 (by decide) (by decide), f.p (by decide)]; exact g4, ⟨t, ec t g5⟩, fun _ => by rw [et]; exact ec _ (g6 c3), fun z => ?_, fun z => ?_, by rw [k17]; decide⟩, by rw [k 21 (by decide) (by decide)]; exact q1, by rw [k 18 (by decide) (by decide)]; exact q2, ?_⟩
                · rw [k17] at z; exact absurd z (by decide)
                · rw [k17] at z; exact absurd z (by decide)
                · unfold CBd
                  rw [k17, k 20 (by decide) (by decide), k19, et]
                  rcases q3 with ⟨_, z1, z2⟩ | ⟨z, _⟩
                  · exact Or.inl ⟨by decide, z1, z2⟩
                  · rw [c3] at z
                    exact absurd z (by decide)
            · exact a8.fr f (by decide) (by decide) (by decide) (by decide) (by decide)
            · refine MIv.st a9 f (by decide) (by decide) (by decide) (by decide) (fun r hr => ?_)
              have h9 : r ≠ p1.toNatClampNeg := fun z => by
                rw [z] at hr
                change gI M 17 p1 = 4 ∨ gI M 17 p1 = 5 at hr
                rw [c3] at hr
                exact absurd hr (by decide)
              rw [eN, gn_rI, if_neg (fun z => h9 z.2), gn_rIn (by decide)]
              exact hr
          · rw [if_neg c5]
            obtain ⟨N, eN⟩ : ∃ N, N = (rI (rI (sI M 0 0) 25 p1 ((gI M 25 p1) + 1)) 17 p1 1) := ⟨_, rfl⟩
            have f : FrM [0] [17, 25] [] M N := by rw [eN]; exact (((FrM.rfl').cI (by decide)).rI (by decide)).rI (by decide)
            obtain ⟨a1, a2, a3, a4, a5, a6, a7, a8, a9⟩ := h
            obtain ⟨r0, hr0, er⟩ := rq_of a7.1 c1
            have h40 := a7.1.1
            have cl : p1.toNatClampNeg = r0 := by rw [er, nI_clamp (by omega)]
            have hk := a7.2.1 r0 hr0
            have c3 := (show gI M 17 p1 = 1 ∧ _ from c3).1
            show MV (rI (rI (sI M 0 0) 25 p1 ((gI M 25 p1) + 1)) 17 p1 1)
            rw [← eN]
            refine ⟨?_, ?_, ?_, ?_, ?_, ?_, ?_, ?_, ?_⟩
            · exact a1.fr f (by decide)
            · exact a2.fr f (by decide) (by decide) (by decide) (by decide) (by decide)
            · exact a3.fr f (by decide) (by decide) (by decide)
            · exact a4.fr f (by decide) (by decide) (by decide) (by decide)
            · exact a5.fr f (by decide) (by decide) (by decide) (by decide) (by decide)
            · exact a6.fr f (by decide)
            · refine MRq.one a7 f (by decide) (by decide) (by decide) (by decide) hr0 (fun j hj r hr => ?_) (fun r hr j hj => f.2.1 23 (by decide) _) (fun r hr l hl => ⟨f.2.1 28 (by decide) _, f.2.1 29 (by decide) _⟩) (fun r hr => ⟨f.2.2 19 (by decide) _, f.2.2 22 (by decide) _⟩) ?_
              · rw [eN, gn_rI, cl, if_neg (fun z => hr z.2), gn_rI, cl, if_neg (fun z => hr z.2)]
                rfl
              · rw [← er] at hk ⊢
                have k : ∀ j, j ≠ 17 → j ≠ 25 → gI N j p1 = gI M j p1 := fun j z1 z2 => f.i (by simp; omega) p1
                have k17 : gI N 17 p1 = 1 := by rw [eN]; exact gI_rIs
                have k19 : gJ N 19 p1 = gJ M 19 p1 := f.j (by decide) p1
                have et : f_total p1 N = f_total p1 M := ft_cg (fun x => f.i (by decide) x) (fun x => f.i (by decide) x) (fun x => f.i (by decide) x)
                have ec : ∀ t, CH M p1 t → CH N p1 t := fun t z => by
                  rw [eN]
                  have h9 := ch_step (M := M) (r := r0) (t := t) (by omega) (er ▸ z) (er ▸ turn_lt (M := M) c4 c2)
                  rw [← er] at h9
                  exact ch_cg (M := rI M 25 p1 (gI M 25 p1 + 1)) rfl (fun x => gI_rIn rfl) (gI_rIn rfl) (gI_rIn rfl) (fun x => gI_rIn rfl) (fun x => gI_rIn rfl) h9
                obtain ⟨⟨g1, g2, g3, g4, ⟨t, g5⟩, g6, g7, g8, g9⟩, q1, q2, q3⟩ := hk
                refine ⟨⟨by rw [k 16 (by decide) (by decide)]; exact g1, by rw [k 15 (by decide) (by decide), f.p (by decide)]; exact g2, by rw [k19, k 20 (by decide) (by decide)]; exact g3, by rw [k 26 (by decide) (by decide), f.p (by decide)]; exact g4, ⟨t, ec t g5⟩, fun _ => by rw [et]; exact ec _ (g6 c3), fun z => ?_, fun z => ?_, by rw [k17]; decide⟩, by rw [k 21 (by decide) (by decide)]; exact q1, by rw [k 18 (by decide) (by decide)]; exact q2, ?_⟩
                · rw [k17] at z; exact absurd z (by decide)
                · rw [k17] at z; exact absurd z (by decide)
                · unfold CBd
                  rw [k17, k 20 (by decide) (by decide), k19, et]
                  rcases q3 with ⟨_, z1, z2⟩ | ⟨z, _⟩
                  · exact Or.inl ⟨by decide, z1, z2⟩
                  · rw [c3] at z
                    exact absurd z (by decide)
            · exact a8.fr f (by decide) (by decide) (by decide) (by decide) (by decide)
            · refine MIv.st a9 f (by decide) (by decide) (by decide) (by decide) (fun r hr => ?_)
              have h9 : r ≠ p1.toNatClampNeg := fun z => by
                rw [z] at hr
                change gI M 17 p1 = 4 ∨ gI M 17 p1 = 5 at hr
                rw [c3] at hr
                exact absurd hr (by decide)
              rw [eN, gn_rI, if_neg (fun z => h9 z.2), gn_rIn (by decide)]
              exact hr
        · rw [if_neg c4]
          by_cases c6 : (f_left p1 (rI (sI M 0 0) 26 p1 (-1))) = 0
          · rw [if_pos c6]
            obtain ⟨N, eN⟩ : ∃ N, N = (rI (rI (sI M 0 0) 26 p1 (-1)) 17 p1 2) := ⟨_, rfl⟩
            have f : FrM [0] [17, 26] [] M N := by rw [eN]; exact (((FrM.rfl').cI (by decide)).rI (by decide)).rI (by decide)
            obtain ⟨a1, a2, a3, a4, a5, a6, a7, a8, a9⟩ := h
            obtain ⟨r0, hr0, er⟩ := rq_of a7.1 c1
            have h40 := a7.1.1
            have cl : p1.toNatClampNeg = r0 := by rw [er, nI_clamp (by omega)]
            have hk := a7.2.1 r0 hr0
            have c3 := (show gI M 17 p1 = 1 ∧ _ from c3).1
            show MV (rI (rI (sI M 0 0) 26 p1 (-1)) 17 p1 2)
            rw [← eN]
            refine ⟨?_, ?_, ?_, ?_, ?_, ?_, ?_, ?_, ?_⟩
            · exact a1.fr f (by decide)
            · exact a2.fr f (by decide) (by decide) (by decide) (by decide) (by decide)
            · exact a3.fr f (by decide) (by decide) (by decide)
            · exact a4.fr f (by decide) (by decide) (by decide) (by decide)
            · exact a5.fr f (by decide) (by decide) (by decide) (by decide) (by decide)
            · exact a6.fr f (by decide)
            · refine MRq.one a7 f (by decide) (by decide) (by decide) (by decide) hr0 (fun j hj r hr => ?_) (fun r hr j hj => f.2.1 23 (by decide) _) (fun r hr l hl => ⟨f.2.1 28 (by decide) _, f.2.1 29 (by decide) _⟩) (fun r hr => ⟨f.2.2 19 (by decide) _, f.2.2 22 (by decide) _⟩) ?_
              · rw [eN, gn_rI, cl, if_neg (fun z => hr z.2), gn_rI, cl, if_neg (fun z => hr z.2)]
                rfl
              · rw [← er] at hk ⊢
                have k : ∀ j, j ≠ 17 → j ≠ 26 → gI N j p1 = gI M j p1 := fun j z1 z2 => f.i (by simp; omega) p1
                have k17 : gI N 17 p1 = 2 := by rw [eN]; exact gI_rIs
                have k19 : gJ N 19 p1 = gJ M 19 p1 := f.j (by decide) p1
                have et : f_total p1 N = f_total p1 M := ft_cg (fun x => f.i (by decide) x) (fun x => f.i (by decide) x) (fun x => f.i (by decide) x)
                have ec : ∀ t, CH M p1 t → CH N p1 t := fun t z => by
                  rw [eN]
                  exact ch_cg (M := M) rfl (fun x => by rw [gI_rIn rfl, gI_rIn rfl]; rfl) (by rw [gI_rIn rfl, gI_rIn rfl]; rfl) (by rw [gI_rIn rfl, gI_rIn rfl]; rfl) (fun x => by rw [gI_rIn rfl, gI_rIn rfl]; rfl) (fun x => by rw [gI_rIn rfl, gI_rIn rfl]; rfl) z
                obtain ⟨⟨g1, g2, g3, g4, ⟨t, g5⟩, g6, g7, g8, g9⟩, q1, q2, q3⟩ := hk
                refine ⟨⟨by rw [k 16 (by decide) (by decide)]; exact g1, by rw [k 15 (by decide) (by decide), f.p (by decide)]; exact g2, by rw [k19, k 20 (by decide) (by decide)]; exact g3, by rw [eN, gI_rIn rfl, gI_rIs]; exact Or.inl rfl, ⟨t, ec t g5⟩, fun _ => by rw [et]; exact ec _ (g6 c3), fun z => ?_, fun z => ?_, by rw [k17]; decide⟩, by rw [k 21 (by decide) (by decide)]; exact q1, by rw [k 18 (by decide) (by decide)]; exact q2, ?_⟩
                · rw [k17] at z; exact absurd z (by decide)
                · rw [k17] at z; exact absurd z (by decide)
                · unfold CBd
                  rw [k17, k 20 (by decide) (by decide), k19, et]
                  rcases q3 with ⟨_, z1, z2⟩ | ⟨z, _⟩
                  · exact Or.inl ⟨by decide, z1, z2⟩
                  · rw [c3] at z
                    exact absurd z (by decide)
            · exact a8.fr f (by decide) (by decide) (by decide) (by decide) (by decide)
            · refine MIv.st a9 f (by decide) (by decide) (by decide) (by decide) (fun r hr => ?_)
              have h9 : r ≠ p1.toNatClampNeg := fun z => by
                rw [z] at hr
                change gI M 17 p1 = 4 ∨ gI M 17 p1 = 5 at hr
                rw [c3] at hr
                exact absurd hr (by decide)
              rw [eN, gn_rI, if_neg (fun z => h9 z.2), gn_rIn (by decide)]
              exact hr
          · rw [if_neg c6]
            obtain ⟨N, eN⟩ : ∃ N, N = (rI (rI (sI M 0 0) 26 p1 (-1)) 17 p1 1) := ⟨_, rfl⟩
            have f : FrM [0] [17, 26] [] M N := by rw [eN]; exact (((FrM.rfl').cI (by decide)).rI (by decide)).rI (by decide)
            obtain ⟨a1, a2, a3, a4, a5, a6, a7, a8, a9⟩ := h
            obtain ⟨r0, hr0, er⟩ := rq_of a7.1 c1
            have h40 := a7.1.1
            have cl : p1.toNatClampNeg = r0 := by rw [er, nI_clamp (by omega)]
            have hk := a7.2.1 r0 hr0
            have c3 := (show gI M 17 p1 = 1 ∧ _ from c3).1
            show MV (rI (rI (sI M 0 0) 26 p1 (-1)) 17 p1 1)
            rw [← eN]
            refine ⟨?_, ?_, ?_, ?_, ?_, ?_, ?_, ?_, ?_⟩
            · exact a1.fr f (by decide)
            · exact a2.fr f (by decide) (by decide) (by decide) (by decide) (by decide)
            · exact a3.fr f (by decide) (by decide) (by decide)
            · exact a4.fr f (by decide) (by decide) (by decide) (by decide)
            · exact a5.fr f (by decide) (by decide) (by decide) (by decide) (by decide)
            · exact a6.fr f (by decide)
            · refine MRq.one a7 f (by decide) (by decide) (by decide) (by decide) hr0 (fun j hj r hr => ?_) (fun r hr j hj => f.2.1 23 (by decide) _) (fun r hr l hl => ⟨f.2.1 28 (by decide) _, f.2.1 29 (by decide) _⟩) (fun r hr => ⟨f.2.2 19 (by decide) _, f.2.2 22 (by decide) _⟩) ?_
              · rw [eN, gn_rI, cl, if_neg (fun z => hr z.2), gn_rI, cl, if_neg (fun z => hr z.2)]
                rfl
              · rw [← er] at hk ⊢
                have k : ∀ j, j ≠ 17 → j ≠ 26 → gI N j p1 = gI M j p1 := fun j z1 z2 => f.i (by simp; omega) p1
                have k17 : gI N 17 p1 = 1 := by rw [eN]; exact gI_rIs
                have k19 : gJ N 19 p1 = gJ M 19 p1 := f.j (by decide) p1
                have et : f_total p1 N = f_total p1 M := ft_cg (fun x => f.i (by decide) x) (fun x => f.i (by decide) x) (fun x => f.i (by decide) x)
                have ec : ∀ t, CH M p1 t → CH N p1 t := fun t z => by
                  rw [eN]
                  exact ch_cg (M := M) rfl (fun x => by rw [gI_rIn rfl, gI_rIn rfl]; rfl) (by rw [gI_rIn rfl, gI_rIn rfl]; rfl) (by rw [gI_rIn rfl, gI_rIn rfl]; rfl) (fun x => by rw [gI_rIn rfl, gI_rIn rfl]; rfl) (fun x => by rw [gI_rIn rfl, gI_rIn rfl]; rfl) z
                obtain ⟨⟨g1, g2, g3, g4, ⟨t, g5⟩, g6, g7, g8, g9⟩, q1, q2, q3⟩ := hk
                refine ⟨⟨by rw [k 16 (by decide) (by decide)]; exact g1, by rw [k 15 (by decide) (by decide), f.p (by decide)]; exact g2, by rw [k19, k 20 (by decide) (by decide)]; exact g3, by rw [eN, gI_rIn rfl, gI_rIs]; exact Or.inl rfl, ⟨t, ec t g5⟩, fun _ => by rw [et]; exact ec _ (g6 c3), fun z => ?_, fun z => ?_, by rw [k17]; decide⟩, by rw [k 21 (by decide) (by decide)]; exact q1, by rw [k 18 (by decide) (by decide)]; exact q2, ?_⟩
                · rw [k17] at z; exact absurd z (by decide)
                · rw [k17] at z; exact absurd z (by decide)
                · unfold CBd
                  rw [k17, k 20 (by decide) (by decide), k19, et]
                  rcases q3 with ⟨_, z1, z2⟩ | ⟨z, _⟩
                  · exact Or.inl ⟨by decide, z1, z2⟩
                  · rw [c3] at z
                    exact absurd z (by decide)
            · exact a8.fr f (by decide) (by decide) (by decide) (by decide) (by decide)
            · refine MIv.st a9 f (by decide) (by decide) (by decide) (by decide) (fun r hr => ?_)
              have h9 : r ≠ p1.toNatClampNeg := fun z => by
                rw [z] at hr
                change gI M 17 p1 = 4 ∨ gI M 17 p1 = 5 at hr
                rw [c3] at hr
                exact absurd hr (by decide)
              rw [eN, gn_rI, if_neg (fun z => h9 z.2), gn_rIn (by decide)]
              exact hr
      · rw [if_neg c3]
        exact h.thr
    · rw [if_neg c2]
      exact h.thr
  · rw [if_neg c1]
    exact h.thr
set_option maxRecDepth 10000 in
theorem mv_refuse {M : MS} {p1 : Int32} {p2 : Int32} (h : MV M) : MV (f_refuse p1 p2 M) := by
  unfold f_refuse
  by_cases c1 : P_isRequest p1 M
  · rw [if_pos c1]
    by_cases c2 : P_isPerson p2 M
    · rw [if_pos c2]
      by_cases c3 : P_can p1 p2 M
      · rw [if_pos c3]
        obtain ⟨N, eN⟩ : ∃ N, N = (f_frees p1 (gJ M 19 p1) (rI (sI M 0 0) 17 p1 3)).2 := ⟨_, rfl⟩
        have f : FrM [0] [17] [11, 19] M N := by rw [eN]; exact (((FrM.rfl').cI (by decide)).rI (by decide)).of (Fr.frees (A := []) (B := [19, 11]) Fr.rfl' (by decide) (by decide)) (by decide) (by decide)
        obtain ⟨a1, a2, a3, a4, a5, a6, a7, a8, a9⟩ := h
        obtain ⟨r0, hr0, er⟩ := rq_of a7.1 c1
        have h40 := a7.1.1
        have cl : p1.toNatClampNeg = r0 := by rw [er, nI_clamp (by omega)]
        have hk := a7.2.1 r0 hr0
        rw [← eN]
        refine ⟨?_, ?_, ?_, ?_, ?_, ?_, ?_, ?_, ?_⟩
        · exact a1.fr f (by decide)
        · exact a2.fr f (by decide) (by decide) (by decide) (by decide) (by decide)
        · exact a3.fr f (by decide) (by decide) (by decide)
        · exact a4.fr f (by decide) (by decide) (by decide) (by decide)
        · exact a5.fr f (by decide) (by decide) (by decide) (by decide) (by decide)
        · exact a6.fr f (by decide)
        · have hk0 := hk.1.2.2.1.1
          rw [← er] at hk0
          refine MRq.one a7 f (by decide) (by decide) (by decide) (by decide) hr0 (fun j hj r hr => ?_) (fun r hr j hj => f.2.1 23 (by decide) _) (fun r hr l hl => ⟨f.2.1 28 (by decide) _, f.2.1 29 (by decide) _⟩) (fun r hr => ⟨?_, f.2.2 22 (by decide) _⟩) ?_
          · have h9 : gn N j r = gn (rI (sI M 0 0) 17 p1 3) j r := by
              rw [eN]
              exact (Fr.frees (A := []) (B := [19, 11]) Fr.rfl' (by decide) (by decide)).2.2.1 j (by simp) r
            rw [h9, gn_rI, cl, if_neg (fun z => hr z.2)]
            rfl
          · rw [eN, fr19 (by rw [cl]; exact hr)]
            rfl
          · rw [← er] at hk ⊢
            have k : ∀ j, j ≠ 17 → gI N j p1 = gI M j p1 := fun j z1 => f.i (by simp; omega) p1
            have k17 : gI N 17 p1 = 3 := by
              rw [eN]
              exact ((Fr.frees (A := []) (B := [19, 11]) Fr.rfl' (by decide) (by decide)).i (by decide) p1).trans gI_rIs
            have k19 : gJ N 19 p1 = 0 := by
              rw [eN]
              exact ff_all (M := rI (sI M 0 0) 17 p1 3) hk0
            have ec : ∀ t, CH M p1 t → CH N p1 t := fun t z => ch_cg (M := M) (f.1 3 (by decide)) (fun x => f.i (by decide) x) (f.i (by decide) p1) (f.i (by decide) p1) (fun x => f.i (by decide) x) (fun x => f.i (by decide) x) z
            obtain ⟨⟨g1, g2, g3, g4, ⟨t, g5⟩, g6, g7, g8, g9⟩, q1, q2, q3⟩ := hk
            refine ⟨⟨by rw [k 16 (by decide)]; exact g1, by rw [k 15 (by decide), f.p (by decide)]; exact g2, by rw [k19]; exact ⟨Int64.le_refl _, fun z => absurd z (by decide)⟩, by rw [k 26 (by decide), f.p (by decide)]; exact g4, ⟨t, ec t g5⟩, fun z => ?_, fun z => ?_, fun z => ?_, by rw [k17]; decide⟩, by rw [k 21 (by decide)]; exact q1, by rw [k 18 (by decide)]; exact q2, Or.inr ⟨by rw [k17]; decide, k19⟩⟩
            · rw [k17] at z; exact absurd z (by decide)
            · rw [k17] at z; exact absurd z (by decide)
            · rw [k17] at z; exact absurd z (by decide)
        · exact a8.fr f (by decide) (by decide) (by decide) (by decide) (by decide)
        · have hk17 := (show gI M 17 p1 = 1 ∧ _ from c3).1
          refine MIv.st a9 f (by decide) (by decide) (by decide) (by decide) (fun r hr => ?_)
          have h9 : r ≠ p1.toNatClampNeg := fun z => by
            rw [z] at hr
            change gI M 17 p1 = 4 ∨ gI M 17 p1 = 5 at hr
            rw [hk17] at hr
            exact absurd hr (by decide)
          have e9 : gn N 17 r = gn (rI (sI M 0 0) 17 p1 3) 17 r := by
            rw [eN]
            exact (Fr.frees (A := []) (B := [19, 11]) Fr.rfl' (by decide) (by decide)).2.2.1 17 (by decide) r
          rw [e9, gn_rI, if_neg (fun z => h9 z.2)]
          exact hr
      · rw [if_neg c3]
        exact h.thr
    · rw [if_neg c2]
      exact h.thr
  · rw [if_neg c1]
    exact h.thr
set_option maxRecDepth 10000 in
theorem mv_end {M : MS} {p1 : Int32} (h : MV M) : MV (f_end p1 M).2 := by
  unfold f_end
  by_cases c1 : P_isRequest p1 M
  · rw [if_pos c1]
    by_cases c2 : (gI M 17 p1) = 4
    · rw [if_pos c2]
      by_cases c3 : ((((0 + (f_heldPieces ((4 * p1) + 0) M)) + (f_heldPieces ((4 * p1) + 1) M)) + (f_heldPieces ((4 * p1) + 2) M)) + (f_heldPieces ((4 * p1) + 3) M)) ≤ 0
      · rw [if_pos c3]
        obtain ⟨N, eN⟩ : ∃ N, N = (f_frees p1 (gJ M 19 p1) (rI (sI M 0 0) 17 p1 5)).2 := ⟨_, rfl⟩
        have f : FrM [0] [17] [11, 19] M N := by rw [eN]; exact (((FrM.rfl').cI (by decide)).rI (by decide)).of (Fr.frees (A := []) (B := [19, 11]) Fr.rfl' (by decide) (by decide)) (by decide) (by decide)
        obtain ⟨a1, a2, a3, a4, a5, a6, a7, a8, a9⟩ := h
        obtain ⟨r0, hr0, er⟩ := rq_of a7.1 c1
        have h40 := a7.1.1
        have cl : p1.toNatClampNeg = r0 := by rw [er, nI_clamp (by omega)]
        have hk := a7.2.1 r0 hr0
        show MV (f_frees p1 (gJ M 19 p1) (rI (sI M 0 0) 17 p1 5)).2
        rw [← eN]
        refine ⟨?_, ?_, ?_, ?_, ?_, ?_, ?_, ?_, ?_⟩
        · exact a1.fr f (by decide)
        · exact a2.fr f (by decide) (by decide) (by decide) (by decide) (by decide)
        · exact a3.fr f (by decide) (by decide) (by decide)
        · exact a4.fr f (by decide) (by decide) (by decide) (by decide)
        · exact a5.fr f (by decide) (by decide) (by decide) (by decide) (by decide)
        · exact a6.fr f (by decide)
        · have hk0 := hk.1.2.2.1.1
          rw [← er] at hk0
          refine MRq.one a7 f (by decide) (by decide) (by decide) (by decide) hr0 (fun j hj r hr => ?_) (fun r hr j hj => f.2.1 23 (by decide) _) (fun r hr l hl => ⟨f.2.1 28 (by decide) _, f.2.1 29 (by decide) _⟩) (fun r hr => ⟨?_, f.2.2 22 (by decide) _⟩) ?_
          · have h9 : gn N j r = gn (rI (sI M 0 0) 17 p1 5) j r := by
              rw [eN]
              exact (Fr.frees (A := []) (B := [19, 11]) Fr.rfl' (by decide) (by decide)).2.2.1 j (by simp) r
            rw [h9, gn_rI, cl, if_neg (fun z => hr z.2)]
            rfl
          · rw [eN, fr19 (by rw [cl]; exact hr)]
            rfl
          · rw [← er] at hk ⊢
            have k : ∀ j, j ≠ 17 → gI N j p1 = gI M j p1 := fun j z1 => f.i (by simp; omega) p1
            have k17 : gI N 17 p1 = 5 := by
              rw [eN]
              exact ((Fr.frees (A := []) (B := [19, 11]) Fr.rfl' (by decide) (by decide)).i (by decide) p1).trans gI_rIs
            have k19 : gJ N 19 p1 = 0 := by
              rw [eN]
              exact ff_all (M := rI (sI M 0 0) 17 p1 5) hk0
            have ec : ∀ t, CH M p1 t → CH N p1 t := fun t z => ch_cg (M := M) (f.1 3 (by decide)) (fun x => f.i (by decide) x) (f.i (by decide) p1) (f.i (by decide) p1) (fun x => f.i (by decide) x) (fun x => f.i (by decide) x) z
            obtain ⟨⟨g1, g2, g3, g4, ⟨t, g5⟩, g6, g7, g8, g9⟩, q1, q2, q3⟩ := hk
            refine ⟨⟨by rw [k 16 (by decide)]; exact g1, by rw [k 15 (by decide), f.p (by decide)]; exact g2, by rw [k19]; exact ⟨Int64.le_refl _, fun z => absurd z (by decide)⟩, by rw [k 26 (by decide), f.p (by decide)]; exact g4, ⟨t, ec t g5⟩, fun z => ?_, fun z => ?_, fun z => ?_, by rw [k17]; decide⟩, by rw [k 21 (by decide)]; exact q1, by rw [k 18 (by decide)]; exact q2, Or.inr ⟨by rw [k17]; decide, k19⟩⟩
            · rw [k17] at z; exact absurd z (by decide)
            · rw [k 21 (by decide)]; exact g7 (Or.inl c2)
            · rw [k17] at z; exact absurd z (by decide)
        · exact a8.fr f (by decide) (by decide) (by decide) (by decide) (by decide)
        · refine MIv.st a9 f (by decide) (by decide) (by decide) (by decide) (fun r hr => ?_)
          have e9 : gn N 17 r = gn (rI (sI M 0 0) 17 p1 5) 17 r := by
            rw [eN]
            exact (Fr.frees (A := []) (B := [19, 11]) Fr.rfl' (by decide) (by decide)).2.2.1 17 (by decide) r
          rw [e9, gn_rI]
          split
          · exact Or.inr rfl
          · exact hr
      · rw [if_neg c3]
        exact h.thr
    · rw [if_neg c2]
      exact h.thr
  · rw [if_neg c1]
    exact h.thr
set_option maxRecDepth 10000 in
theorem mv_order {M : MS} {p1 : Int32} {p2 : Int32} (h : MV M) : MV (f_order p1 p2 M) := by
  unfold f_order
  by_cases c1 : P_isRequest p1 M
  · rw [if_pos c1]
    by_cases c2 : P_in p2 0 5
    · rw [if_pos c2]
      by_cases c3 : (gI M 17 p1) = 2
      · rw [if_pos c3]
        obtain ⟨N, eN⟩ : ∃ N, N = (rJ (rI (rI (sI M 0 0) 17 p1 4) 21 p1 p2) 22 p1 (f_total p1 (rI (rI (sI M 0 0) 17 p1 4) 21 p1 p2))) := ⟨_, rfl⟩
        have f : FrM [0] [17, 21] [22] M N := by rw [eN]; exact ((((FrM.rfl').cI (by decide)).rI (by decide)).rI (by decide)).rJ (by decide)
        obtain ⟨a1, a2, a3, a4, a5, a6, a7, a8, a9⟩ := h
        obtain ⟨r0, hr0, er⟩ := rq_of a7.1 c1
        have h40 := a7.1.1
        have cl : p1.toNatClampNeg = r0 := by rw [er, nI_clamp (by omega)]
        have hk := a7.2.1 r0 hr0
        rw [← eN]
        refine ⟨?_, ?_, ?_, ?_, ?_, ?_, ?_, ?_, ?_⟩
        · exact a1.fr f (by decide)
        · exact a2.fr f (by decide) (by decide) (by decide) (by decide) (by decide)
        · exact a3.fr f (by decide) (by decide) (by decide)
        · exact a4.fr f (by decide) (by decide) (by decide) (by decide)
        · exact a5.fr f (by decide) (by decide) (by decide) (by decide) (by decide)
        · exact a6.fr f (by decide)
        · refine MRq.one a7 f (by decide) (by decide) (by decide) (by decide) hr0 (fun j hj r hr => ?_) (fun r hr j hj => f.2.1 23 (by decide) _) (fun r hr l hl => ⟨f.2.1 28 (by decide) _, f.2.1 29 (by decide) _⟩) (fun r hr => ⟨f.2.2 19 (by decide) _, ?_⟩) ?_
          · rw [eN]
            show gn (rI (rI (sI M 0 0) 17 p1 4) 21 p1 p2) j r = _
            rw [gn_rI, cl, if_neg (fun z => hr z.2), gn_rI, cl, if_neg (fun z => hr z.2)]
            rfl
          · rw [eN, gl_rJ, cl, if_neg (fun z => hr z.2)]
            rfl
          · rw [← er] at hk ⊢
            have k : ∀ j, j ≠ 17 → j ≠ 21 → gI N j p1 = gI M j p1 := fun j z1 z2 => f.i (by simp; omega) p1
            have k17 : gI N 17 p1 = 4 := by
              rw [eN]
              show gI (rI (rI (sI M 0 0) 17 p1 4) 21 p1 p2) 17 p1 = 4
              rw [gI_rIn rfl, gI_rIs]
            have k21 : gI N 21 p1 = p2 := by
              rw [eN]
              show gI (rI (rI (sI M 0 0) 17 p1 4) 21 p1 p2) 21 p1 = p2
              rw [gI_rIs]
            have k19 : gJ N 19 p1 = gJ M 19 p1 := f.j (by decide) p1
            have et : f_total p1 N = f_total p1 M := ft_cg (fun x => f.i (by decide) x) (fun x => f.i (by decide) x) (fun x => f.i (by decide) x)
            have ec : ∀ t, CH M p1 t → CH N p1 t := fun t z => ch_cg (M := M) (f.1 3 (by decide)) (fun x => f.i (by decide) x) (f.i (by decide) p1) (f.i (by decide) p1) (fun x => f.i (by decide) x) (fun x => f.i (by decide) x) z
            obtain ⟨⟨g1, g2, g3, g4, ⟨t, g5⟩, g6, g7, g8, g9⟩, q1, q2, q3⟩ := hk
            rcases q3 with ⟨_, z1, z2⟩ | ⟨z, _⟩
            · refine ⟨⟨by rw [k 16 (by decide) (by decide)]; exact g1, by rw [k 15 (by decide) (by decide), f.p (by decide)]; exact g2, by rw [k19, k 20 (by decide) (by decide)]; exact g3, by rw [k 26 (by decide) (by decide), f.p (by decide)]; exact g4, ⟨t, ec t g5⟩, fun z => ?_, fun z => by rw [k21]; exact c2, fun z => by rw [k 20 (by decide) (by decide)]; exact z1, by rw [k17]; decide⟩, by rw [k21]; exact Or.inr c2, by rw [k 18 (by decide) (by decide)]; exact q2, Or.inl ⟨by rw [k17]; decide, by rw [k 20 (by decide) (by decide)]; exact z1, by rw [k19, et]; exact z2⟩⟩
              rw [k17] at z; exact absurd z (by decide)
            · rw [c3] at z
              exact absurd z (by decide)
        · exact a8.fr f (by decide) (by decide) (by decide) (by decide) (by decide)
        · refine MIv.st a9 f (by decide) (by decide) (by decide) (by decide) (fun r hr => ?_)
          have e9 : gn N 17 r = gn (rI (sI M 0 0) 17 p1 4) 17 r := by
            rw [eN]
            show gn (rI (rI (sI M 0 0) 17 p1 4) 21 p1 p2) 17 r = _
            rw [gn_rIn (by decide)]
          rw [e9, gn_rI]
          split
          · exact Or.inl rfl
          · exact hr
      · rw [if_neg c3]
        exact h.thr
    · rw [if_neg c2]
      exact h.thr
  · rw [if_neg c1]
    exact h.thr
