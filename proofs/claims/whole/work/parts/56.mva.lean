/-- only counters of C and rows of A and B are written -/
def FrM (C A B : List Nat) (M M' : MS) : Prop := (∀ j, j ∉ C → mI M' j = mI M j) ∧ (∀ j, j ∉ A → ∀ i, gn M' j i = gn M j i) ∧ ∀ j, j ∉ B → ∀ i, gl M' j i = gl M j i
section FM
variable {C A B : List Nat} {M M' M'' : MS}
theorem FrM.rfl' : FrM C A B M M := ⟨fun _ _ => rfl, fun _ _ _ => rfl, fun _ _ _ => rfl⟩
theorem FrM.trans (h : FrM C A B M M') (h2 : FrM C A B M' M'') : FrM C A B M M'' := ⟨fun j z => (h2.1 j z).trans (h.1 j z), fun j z i => (h2.2.1 j z i).trans (h.2.1 j z i), fun j z i => (h2.2.2 j z i).trans (h.2.2 j z i)⟩
theorem FrM.cI {j : Nat} {v : Int32} (h : FrM C A B M M') (hj : j ∈ C) : FrM C A B M (sI M' j v) := ⟨fun a z => (show mI (sI M' j v) a = mI M' a from if_neg (fun e => z (by rw [e]; exact hj))).trans (h.1 a z), h.2.1, h.2.2⟩
theorem FrM.sJ {j : Nat} {v : Int64} (h : FrM C A B M M') : FrM C A B M (sJ M' j v) := ⟨h.1, h.2.1, h.2.2⟩
theorem FrM.rI {j : Nat} {x v : Int32} (h : FrM C A B M M') (hj : j ∈ A) : FrM C A B M (rI M' j x v) := ⟨h.1, fun a z i => (gn_rIn (fun e => z (by rw [e]; exact hj))).trans (h.2.1 a z i), h.2.2⟩
theorem FrM.rJ {j : Nat} {x : Int32} {v : Int64} (h : FrM C A B M M') (hj : j ∈ B) : FrM C A B M (rJ M' j x v) := ⟨h.1, h.2.1, fun a z i => (gl_rJn (fun e => z (by rw [e]; exact hj))).trans (h.2.2 a z i)⟩
theorem FrM.of {A' B' : List Nat} (h : FrM C A B M M') (h2 : Fr A' B' M' M'') (hA : ∀ j, j ∈ A' → j ∈ A) (hB : ∀ j, j ∈ B' → j ∈ B) : FrM C A B M M'' := ⟨fun j z => (congrFun h2.1 j).trans (h.1 j z), fun j z i => (h2.2.2.1 j (fun y => z (hA j y)) i).trans (h.2.1 j z i), fun j z i => (h2.2.2.2 j (fun y => z (hB j y)) i).trans (h.2.2 j z i)⟩
theorem FrM.i (h : FrM C A B M M') {j : Nat} (hj : j ∉ A) (x : Int32) : gI M' j x = gI M j x := h.2.1 j hj _
theorem FrM.j (h : FrM C A B M M') {j : Nat} (hj : j ∉ B) (x : Int32) : gJ M' j x = gJ M j x := h.2.2 j hj _
theorem FrM.c (h : FrM C A B M M') {j : Nat} (hj : j ∉ C) : cnt M' j = cnt M j := by unfold cnt; rw [h.1 j hj]
theorem FrM.p (h : FrM C A B M M') (hj : 3 ∉ C) {b : Int32} : P_isPerson b M' ↔ P_isPerson b M := by
  unfold P_isPerson
  rw [h.1 3 hj]
theorem dm9 {i : Nat} : dm M 9 i ↔ i / 4 < cnt M 14 ∧ i % 4 < (gn M 18 (i / 4)).toNatClampNeg := Iff.rfl
theorem FrM.d9 (h : FrM C A B M M') (h14 : 14 ∉ C) (h18 : 18 ∉ A) {i : Nat} : dm M' 9 i ↔ dm M 9 i := by
  rw [dm9, dm9, h.c h14, h.2.1 18 h18]
end FM
def MDay (M : MS) : Prop := ∃ d : Nat, d ≤ 1079 ∧ mI M 1 = nI d
def MPe (M : MS) : Prop := (cnt M 3 ≤ 12 ∧ mI M 3 = nI (cnt M 3)) ∧ (mI M 3 = 0 → mI M 10 = 0) ∧ (¬ mI M 3 = 0 → P_isPerson (mI M 10) M) ∧ BO M ∧ (∀ b, P_isPerson b M → P_isPerson (gI M 7 b) M) ∧ ∀ i, cnt M 3 ≤ i → gn M 4 i = 0 ∧ gn M 6 i = 0 ∧ gn M 7 i = 0
def MZe (M : MS) : Prop := ∀ i, cnt M 3 ≤ i → gl M 8 i = 0 ∧ gl M 9 i = 0
def MSu (M : MS) : Prop := (∀ i, i < 6 → (gn M 12 i = 0 ∨ gn M 12 i = 1) ∧ P_in (gn M 32 i) 0 2 ∧ P_in (gn M 35 i) 0 30) ∧ ∀ i, i < 4 → P_in (gn M 56 i) 0 50000
def MCa (M : MS) : Prop := (cnt M 59 ≤ 40 ∧ mI M 59 = nI (cnt M 59)) ∧ (∀ i, i < cnt M 59 → P_isPerson (gn M 60 i) M ∧ P_in (gn M 61 i) 1 1000000 ∧ (gn M 62 i = 0 ∨ gn M 62 i = 1)) ∧ ∀ i, cnt M 59 ≤ i → gn M 62 i = 0
def MTr (M : MS) : Prop := cnt M 57 ≤ 30 ∧ mI M 57 = nI (cnt M 57)
/-- what is committed is no more than the total -/
def CBd (M : MS) (p : Int32) : Prop := ((gI M 17 p = 1 ∨ gI M 17 p = 2 ∨ gI M 17 p = 4) ∧ P_isYear (gI M 20 p) ∧ (gJ M 19 p).toInt ≤ (f_total p M).toInt) ∨ ((gI M 17 p = 0 ∨ gI M 17 p = 3 ∨ gI M 17 p = 5) ∧ gJ M 19 p = 0)
def EK (M : MS) (p : Int32) : Prop := QK M p ∧ (gI M 21 p = -1 ∨ P_in (gI M 21 p) 0 5) ∧ (∃ n, n ≤ 4 ∧ gI M 18 p = nI n) ∧ CBd M p
def MRq (M : MS) : Prop := (cnt M 14 ≤ 40 ∧ mI M 14 = nI (cnt M 14)) ∧ (∀ r, r < cnt M 14 → EK M (nI r)) ∧ ∀ i, cnt M 14 ≤ i → (gn M 17 i = 0 ∧ gn M 18 i = 0 ∧ gn M 24 i = 0 ∧ gn M 25 i = 0) ∧ gl M 19 i = 0 ∧ gl M 22 i = 0
def MLn (M : MS) : Prop := (∀ q, dm M 9 q → P_in (gn M 28 q) 1 99 ∧ P_in (gn M 29 q) 1 100000 ∧ P_in (gn M 30 q) 0 99) ∧ ∀ q, ¬ dm M 9 q → gn M 30 q = 0
def GK (M : MS) (i : Nat) : Prop := (dm M 9 (gn M 40 i).toNatClampNeg ∧ nI (gn M 40 i).toNatClampNeg = gn M 40 i) ∧ (gn M 17 ((gn M 40 i).toNatClampNeg / 4) = 4 ∨ gn M 17 ((gn M 40 i).toNatClampNeg / 4) = 5) ∧ P_in (gn M 41 i) 1 99 ∧ (gn M 53 i = 0 ∨ gn M 53 i = 1) ∧ (¬ gn M 44 i = 0 → P_in (gn M 49 i) 0 1079)
def MWh (M : MS) : Prop := ∀ i, i < cnt M 39 → gn M 44 i = 0 → ¬ f_why (nI i) M = 0
def MIv (M : MS) : Prop := (cnt M 39 ≤ 60 ∧ mI M 39 = nI (cnt M 39)) ∧ (∀ i, i < cnt M 39 → GK M i) ∧ (∀ i, cnt M 39 ≤ i → (gn M 44 i = 0 ∧ gn M 45 i = 0 ∧ gn M 51 i = 0 ∧ gn M 53 i = 0) ∧ gl M 46 i = 0 ∧ gl M 47 i = 0 ∧ gl M 54 i = 0 ∧ gl M 55 i = 0) ∧ MWh M
def MV (M : MS) : Prop := MDay M ∧ MPe M ∧ MZe M ∧ MSu M ∧ MCa M ∧ MTr M ∧ MRq M ∧ MLn M ∧ MIv M
section FG
variable {C A B : List Nat} {M M' : MS}
theorem MDay.fr (h : MDay M) (f : FrM C A B M M') (h1 : 1 ∉ C) : MDay M' := by
  obtain ⟨d, hd, e⟩ := h
  exact ⟨d, hd, (f.1 1 h1).trans e⟩
theorem MPe.fr (h : MPe M) (f : FrM C A B M M') (h3 : 3 ∉ C) (h10 : 10 ∉ C) (h4 : 4 ∉ A) (h6 : 6 ∉ A) (h7 : 7 ∉ A) : MPe M' := by
  obtain ⟨a1, a2, a3, a4, a5, a6⟩ := h
  unfold MPe BO
  simp only [f.c h3, f.1 3 h3, f.1 10 h10, f.p h3, f.2.1 4 h4, f.2.1 6 h6, f.2.1 7 h7, f.i h7]
  exact ⟨a1, a2, a3, a4, a5, a6⟩
theorem MZe.fr (h : MZe M) (f : FrM C A B M M') (h3 : 3 ∉ C) (h8 : 8 ∉ B) (h9 : 9 ∉ B) : MZe M' := by
  unfold MZe
  simp only [f.c h3, f.2.2 8 h8, f.2.2 9 h9]
  exact h
theorem MSu.fr (h : MSu M) (f : FrM C A B M M') (h1 : 12 ∉ A) (h2 : 32 ∉ A) (h3 : 35 ∉ A) (h4 : 56 ∉ A) : MSu M' := by
  unfold MSu
  simp only [f.2.1 12 h1, f.2.1 32 h2, f.2.1 35 h3, f.2.1 56 h4]
  exact h
theorem MCa.fr (h : MCa M) (f : FrM C A B M M') (h3 : 3 ∉ C) (h59 : 59 ∉ C) (h1 : 60 ∉ A) (h2 : 61 ∉ A) (h4 : 62 ∉ A) : MCa M' := by
  unfold MCa
  simp only [f.c h59, f.1 59 h59, f.p h3, f.2.1 60 h1, f.2.1 61 h2, f.2.1 62 h4]
  exact h
theorem MTr.fr (h : MTr M) (f : FrM C A B M M') (h57 : 57 ∉ C) : MTr M' := by
  unfold MTr
  rw [f.c h57, f.1 57 h57]
  exact h
theorem EK.fr {p : Int32} (h : EK M p) (f : FrM C A B M M') (h3 : 3 ∉ C) (hA : ∀ j, j ∈ [4, 5, 15, 16, 17, 18, 20, 21, 23, 24, 25, 26, 28, 29] → j ∉ A) (h19 : 19 ∉ B) : EK M' p := by
  have k := fun j hj => f.i (hA j hj)
  have et : f_total p M' = f_total p M := ft_cg (fun x => k 28 (by decide) x) (fun x => k 29 (by decide) x) (fun x => k 18 (by decide) x)
  obtain ⟨q, a1, a2, a3⟩ := h
  refine ⟨qk_cg (M := M) (f.1 3 h3) (fun j hj x => k j (by simp; omega) x) ⟨by rw [f.j h19]; exact q.2.2.1.1, fun z => by rw [← f.j h19 (x := p)]; exact z⟩ q, by rw [k 21 (by decide)]; exact a1, by rw [k 18 (by decide)]; exact a2, ?_⟩
  unfold CBd
  rw [k 17 (by decide), k 20 (by decide), f.j h19, et]
  exact a3
theorem MRq.fr (h : MRq M) (f : FrM C A B M M') (h3 : 3 ∉ C) (h14 : 14 ∉ C) (hA : ∀ j, j ∈ [4, 5, 15, 16, 17, 18, 20, 21, 23, 24, 25, 26, 28, 29] → j ∉ A) (h19 : 19 ∉ B) (h22 : 22 ∉ B) : MRq M' := by
  obtain ⟨a1, a2, a3⟩ := h
  refine ⟨by rw [f.c h14, f.1 14 h14]; exact a1, fun r hr => (a2 r (by rw [← f.c h14]; exact hr)).fr f h3 hA h19, ?_⟩
  simp only [f.c h14, f.2.1 17 (hA 17 (by decide)), f.2.1 18 (hA 18 (by decide)), f.2.1 24 (hA 24 (by decide)), f.2.1 25 (hA 25 (by decide)), f.2.2 19 h19, f.2.2 22 h22]
  exact a3
theorem MLn.fr (h : MLn M) (f : FrM C A B M M') (h14 : 14 ∉ C) (h18 : 18 ∉ A) (h28 : 28 ∉ A) (h29 : 29 ∉ A) (h30 : 30 ∉ A) : MLn M' := by
  unfold MLn
  simp only [f.d9 h14 h18, f.2.1 28 h28, f.2.1 29 h29, f.2.1 30 h30]
  exact h
theorem why_cg {v : Int32} (h : ∀ j, j ∈ [27, 28, 29, 30, 40, 41, 45] → ∀ x, gI M' j x = gI M j x) (h43 : gJ M' 43 v = gJ M 43 v) (hb : f_bookedPieces (gI M 40 v) M' = f_bookedPieces (gI M 40 v) M) : f_why v M' = f_why v M := by
  unfold f_why
  simp only [h 27 (by decide), h 28 (by decide), h 29 (by decide), h 30 (by decide), h 40 (by decide), h 41 (by decide), h 45 (by decide), h43, hb]
theorem MIv.fr (h : MIv M) (f : FrM C A B M M') (h14 : 14 ∉ C) (h39 : 39 ∉ C) (hA : ∀ j, j ∈ [17, 18, 27, 28, 29, 30, 40, 41, 44, 45, 49, 51, 53] → j ∉ A) (hB : ∀ j, j ∈ [43, 46, 47, 54, 55] → j ∉ B) : MIv M' := by
  have k := fun j hj => f.2.1 j (hA j hj)
  have kB := fun j hj => f.2.2 j (hB j hj)
  obtain ⟨a1, a2, a3, a4⟩ := h
  refine ⟨by rw [f.c h39, f.1 39 h39]; exact a1, ?_, ?_, ?_⟩
  · unfold GK
    simp only [f.c h39, f.d9 h14 (hA 18 (by decide)), k 40 (by decide), k 17 (by decide), k 41 (by decide), k 53 (by decide), k 44 (by decide), k 49 (by decide)]
    exact a2
  · simp only [f.c h39, k 44 (by decide), k 45 (by decide), k 51 (by decide), k 53 (by decide), kB 46 (by decide), kB 47 (by decide), kB 54 (by decide), kB 55 (by decide)]
    exact a3
  · intro i hi h0
    rw [why_cg (M := M) (fun j hj x => k j (by revert hj; revert j; decide) _) (kB 43 (by decide) _) (fb_cg (M := M) (f.1 39 h39) (fun i => k 40 (by decide) i) (fun i => k 41 (by decide) i) (fun i => k 44 (by decide) i)).1]
    exact a4 i (by rw [← f.c h39]; exact hi) (by rw [← k 44 (by decide)]; exact h0)
theorem MV.thr (h : MV M) {v : Int32} : MV (sI M 0 v) := by
  have f : FrM [0] [] [] M (sI M 0 v) := FrM.rfl'.cI (by decide)
  obtain ⟨a1, a2, a3, a4, a5, a6, a7, a8, a9⟩ := h
  exact ⟨a1.fr f (by decide), a2.fr f (by decide) (by decide) (by decide) (by decide) (by decide), a3.fr f (by decide) (by decide) (by decide), a4.fr f (by decide) (by decide) (by decide) (by decide), a5.fr f (by decide) (by decide) (by decide) (by decide) (by decide), a6.fr f (by decide), a7.fr f (by decide) (by decide) (by decide) (by decide) (by decide), a8.fr f (by decide) (by decide) (by decide) (by decide) (by decide), a9.fr f (by decide) (by decide) (by decide) (by decide)⟩
end FG
theorem per_some {b : Int32} {M : MS} (hb : P_isPerson b M) : ¬ mI M 3 = 0 := fun e => by
  have h1 := hb.1
  have h2 : b ≤ mI M 3 - 1 := hb.2
  rw [e] at h2
  exact absurd (Int32.le_trans h1 h2) (by decide)
theorem cn_of {x b : Int32} {n N : Nat} (h : n ≤ N ∧ x = nI n) (hN : N < 2 ^ 30) (hb : P_in b 0 (x - 1)) : ∃ i, i < n ∧ b = nI i := by
  rw [h.2] at hb
  exact P_num_nI ((num_in (n := n) (by omega)).mpr hb) (by omega)
theorem of_cn {x : Int32} {n N i : Nat} (h : n ≤ N ∧ x = nI n) (hN : N < 2 ^ 30) (hi : i < n) : P_in (nI i) 0 (x - 1) := by
  rw [h.2]
  exact (num_in (n := n) (by omega)).mp ⟨nI_pos' (by omega), nI_lt hi (by omega)⟩
theorem per_of {b : Int32} {M : MS} (h : cnt M 3 ≤ 12 ∧ mI M 3 = nI (cnt M 3)) (hb : P_isPerson b M) : ∃ i, i < cnt M 3 ∧ b = nI i := cn_of h (by decide) hb
theorem cn_s {M : MS} {j n N : Nat} (e : mI M j = nI (n + 1)) (h : n < N) (hN : N < 1000 := by decide) : cnt M j ≤ N ∧ mI M j = nI (cnt M j) := by
  have e2 : cnt M j = n + 1 := by unfold cnt; rw [e, nI_clamp (by omega)]
  rw [e2]
  exact ⟨h, e⟩
theorem mv_budget {M : MS} {p1 : Int32} {p2 : Int32} {p3 : Int32} (h : MV M) : MV (f_budget p1 p2 p3 M).2 := by
  unfold f_budget
  by_cases c1 : P_isCentre p1
  · rw [if_pos c1]
    by_cases c2 : P_isYear p2
    · rw [if_pos c2]
      by_cases c3 : P_in p3 0 100000000
      · rw [if_pos c3]
        obtain ⟨N, eN⟩ : ∃ N, N = (rJ (sI M 0 0) 11 (f_at p1 p2 0) (p3.toInt64)) := ⟨_, rfl⟩
        have f : FrM [0] [] [11] M N := by rw [eN]; exact ((FrM.rfl').cI (by decide)).rJ (by decide)
        obtain ⟨a1, a2, a3, a4, a5, a6, a7, a8, a9⟩ := h
        show MV (rJ (sI M 0 0) 11 (f_at p1 p2 0) (p3.toInt64))
        rw [← eN]
        refine ⟨?_, ?_, ?_, ?_, ?_, ?_, ?_, ?_, ?_⟩
        · exact a1.fr f (by decide)
        · exact a2.fr f (by decide) (by decide) (by decide) (by decide) (by decide)
        · exact a3.fr f (by decide) (by decide) (by decide)
        · exact a4.fr f (by decide) (by decide) (by decide) (by decide)
        · exact a5.fr f (by decide) (by decide) (by decide) (by decide) (by decide)
        · exact a6.fr f (by decide)
        · exact a7.fr f (by decide) (by decide) (by decide) (by decide) (by decide)
        · exact a8.fr f (by decide) (by decide) (by decide) (by decide) (by decide)
        · exact a9.fr f (by decide) (by decide) (by decide) (by decide)
      · rw [if_neg c3]
        exact h.thr
    · rw [if_neg c2]
      exact h.thr
  · rw [if_neg c1]
    exact h.thr
theorem mv_transfer {M : MS} {p1 : Int32} {p2 : Int32} {p3 : Int32} {p4 : Int32} (h : MV M) : MV (f_transfer p1 p2 p3 p4 M).2 := by
  unfold f_transfer
  by_cases c1 : P_isCentre p1
  · rw [if_pos c1]
    by_cases c2 : P_isCentre p2
    · rw [if_pos c2]
      by_cases c3 : P_isYear p3
      · rw [if_pos c3]
        by_cases c4 : p1 = p2
        · rw [if_pos c4]
          exact h.thr
        · rw [if_neg c4]
          by_cases c5 : P_in p4 1 100000000
          · rw [if_pos c5]
            by_cases c6 : 0 ≤ (lg_cmp (f_free p1 p3 M) (p4.toInt64))
            · rw [if_pos c6]
              obtain ⟨N, eN⟩ : ∃ N, N = (rJ (rJ (sI M 0 0) 11 (f_at p1 p3 0) ((gJ M 11 (f_at p1 p3 0)) - (p4.toInt64))) 11 (f_at p2 p3 0) ((gJ (rJ (sI M 0 0) 11 (f_at p1 p3 0) ((gJ M 11 (f_at p1 p3 0)) - (p4.toInt64))) 11 (f_at p2 p3 0)) + (p4.toInt64))) := ⟨_, rfl⟩
              have f : FrM [0] [] [11] M N := by rw [eN]; exact (((FrM.rfl').cI (by decide)).rJ (by decide)).rJ (by decide)
              obtain ⟨a1, a2, a3, a4, a5, a6, a7, a8, a9⟩ := h
              show MV (rJ (rJ (sI M 0 0) 11 (f_at p1 p3 0) ((gJ M 11 (f_at p1 p3 0)) - (p4.toInt64))) 11 (f_at p2 p3 0) ((gJ (rJ (sI M 0 0) 11 (f_at p1 p3 0) ((gJ M 11 (f_at p1 p3 0)) - (p4.toInt64))) 11 (f_at p2 p3 0)) + (p4.toInt64)))
              rw [← eN]
              refine ⟨?_, ?_, ?_, ?_, ?_, ?_, ?_, ?_, ?_⟩
              · exact a1.fr f (by decide)
              · exact a2.fr f (by decide) (by decide) (by decide) (by decide) (by decide)
              · exact a3.fr f (by decide) (by decide) (by decide)
              · exact a4.fr f (by decide) (by decide) (by decide) (by decide)
              · exact a5.fr f (by decide) (by decide) (by decide) (by decide) (by decide)
              · exact a6.fr f (by decide)
              · exact a7.fr f (by decide) (by decide) (by decide) (by decide) (by decide)
              · exact a8.fr f (by decide) (by decide) (by decide) (by decide) (by decide)
              · exact a9.fr f (by decide) (by decide) (by decide) (by decide)
            · rw [if_neg c6]
              exact h.thr
          · rw [if_neg c5]
            exact h.thr
      · rw [if_neg c3]
        exact h.thr
    · rw [if_neg c2]
      exact h.thr
  · rw [if_neg c1]
    exact h.thr
theorem mv_carried {M : MS} {p1 : Int32} (h : MV M) : MV (f_carried p1 M).2 := by
  unfold f_carried
  by_cases c1 : P_in p1 0 100
  · rw [if_pos c1]
    obtain ⟨N, eN⟩ : ∃ N, N = (sI (sI M 0 0) 13 p1) := ⟨_, rfl⟩
    have f : FrM [0, 13] [] [] M N := by rw [eN]; exact ((FrM.rfl').cI (by decide)).cI (by decide)
    obtain ⟨a1, a2, a3, a4, a5, a6, a7, a8, a9⟩ := h
    show MV (sI (sI M 0 0) 13 p1)
    rw [← eN]
    refine ⟨?_, ?_, ?_, ?_, ?_, ?_, ?_, ?_, ?_⟩
    · exact a1.fr f (by decide)
    · exact a2.fr f (by decide) (by decide) (by decide) (by decide) (by decide)
    · exact a3.fr f (by decide) (by decide) (by decide)
    · exact a4.fr f (by decide) (by decide) (by decide) (by decide)
    · exact a5.fr f (by decide) (by decide) (by decide) (by decide) (by decide)
    · exact a6.fr f (by decide)
    · exact a7.fr f (by decide) (by decide) (by decide) (by decide) (by decide)
    · exact a8.fr f (by decide) (by decide) (by decide) (by decide) (by decide)
    · exact a9.fr f (by decide) (by decide) (by decide) (by decide)
  · rw [if_neg c1]
    exact h.thr
theorem mv_rate {M : MS} {p1 : Int32} {p2 : Int32} (h : MV M) : MV (f_rate p1 p2 M).2 := by
  unfold f_rate
  by_cases c1 : P_in p1 1 2
  · rw [if_pos c1]
    by_cases c2 : P_in p2 100 10000
    · rw [if_pos c2]
      obtain ⟨N, eN⟩ : ∃ N, N = (rI (sI M 0 0) 36 p1 p2) := ⟨_, rfl⟩
      have f : FrM [0] [36] [] M N := by rw [eN]; exact ((FrM.rfl').cI (by decide)).rI (by decide)
      obtain ⟨a1, a2, a3, a4, a5, a6, a7, a8, a9⟩ := h
      show MV (rI (sI M 0 0) 36 p1 p2)
      rw [← eN]
      refine ⟨?_, ?_, ?_, ?_, ?_, ?_, ?_, ?_, ?_⟩
      · exact a1.fr f (by decide)
      · exact a2.fr f (by decide) (by decide) (by decide) (by decide) (by decide)
      · exact a3.fr f (by decide) (by decide) (by decide)
      · exact a4.fr f (by decide) (by decide) (by decide) (by decide)
      · exact a5.fr f (by decide) (by decide) (by decide) (by decide) (by decide)
      · exact a6.fr f (by decide)
      · exact a7.fr f (by decide) (by decide) (by decide) (by decide) (by decide)
      · exact a8.fr f (by decide) (by decide) (by decide) (by decide) (by decide)
      · exact a9.fr f (by decide) (by decide) (by decide) (by decide)
    · rw [if_neg c2]
      exact h.thr
  · rw [if_neg c1]
    exact h.thr
theorem mv_taxes {M : MS} {p1 : Int32} {p2 : Int32} (h : MV M) : MV (f_taxes p1 p2 M) := by
  unfold f_taxes
  by_cases c1 : P_in p1 0 30
  · rw [if_pos c1]
    by_cases c2 : P_in p2 0 100
    · rw [if_pos c2]
      obtain ⟨N, eN⟩ : ∃ N, N = (sI (sI (sI M 0 0) 37 p1) 38 p2) := ⟨_, rfl⟩
      have f : FrM [0, 37, 38] [] [] M N := by rw [eN]; exact (((FrM.rfl').cI (by decide)).cI (by decide)).cI (by decide)
      obtain ⟨a1, a2, a3, a4, a5, a6, a7, a8, a9⟩ := h
      rw [← eN]
      refine ⟨?_, ?_, ?_, ?_, ?_, ?_, ?_, ?_, ?_⟩
      · exact a1.fr f (by decide)
      · exact a2.fr f (by decide) (by decide) (by decide) (by decide) (by decide)
      · exact a3.fr f (by decide) (by decide) (by decide)
      · exact a4.fr f (by decide) (by decide) (by decide) (by decide)
      · exact a5.fr f (by decide) (by decide) (by decide) (by decide) (by decide)
      · exact a6.fr f (by decide)
      · exact a7.fr f (by decide) (by decide) (by decide) (by decide) (by decide)
      · exact a8.fr f (by decide) (by decide) (by decide) (by decide) (by decide)
      · exact a9.fr f (by decide) (by decide) (by decide) (by decide)
    · rw [if_neg c2]
      exact h.thr
  · rw [if_neg c1]
    exact h.thr
theorem mv_payCard {M : MS}  (h : MV M) : MV (f_payCard  M).2 := by
  unfold f_payCard
  obtain ⟨N, eN⟩ : ∃ N, N = (rJ (rJ (sJ (sI M 0 0) 63 0) 2 7 ((gJ M 2 7) + (mJ M 63))) 2 2 ((gJ M 2 2) - (mJ M 63))) := ⟨_, rfl⟩
  have f : FrM [0] [] [2] M N := by rw [eN]; exact ((((FrM.rfl').cI (by decide)).sJ).rJ (by decide)).rJ (by decide)
  obtain ⟨a1, a2, a3, a4, a5, a6, a7, a8, a9⟩ := h
  show MV (rJ (rJ (sJ (sI M 0 0) 63 0) 2 7 ((gJ M 2 7) + (mJ M 63))) 2 2 ((gJ M 2 2) - (mJ M 63)))
  rw [← eN]
  refine ⟨?_, ?_, ?_, ?_, ?_, ?_, ?_, ?_, ?_⟩
  · exact a1.fr f (by decide)
  · exact a2.fr f (by decide) (by decide) (by decide) (by decide) (by decide)
  · exact a3.fr f (by decide) (by decide) (by decide)
  · exact a4.fr f (by decide) (by decide) (by decide) (by decide)
  · exact a5.fr f (by decide) (by decide) (by decide) (by decide) (by decide)
  · exact a6.fr f (by decide)
  · exact a7.fr f (by decide) (by decide) (by decide) (by decide) (by decide)
  · exact a8.fr f (by decide) (by decide) (by decide) (by decide) (by decide)
  · exact a9.fr f (by decide) (by decide) (by decide) (by decide)
theorem mv_sample {M : MS} {p1 : Int32} {p2 : Int32} (h : MV M) : MV (f_sample p1 p2 M) := by
  unfold f_sample
  by_cases c1 : P_in p2 0 100
  · rw [if_pos c1]
    obtain ⟨N, eN⟩ : ∃ N, N = (sI (sI (sI M 0 0) 64 p1) 65 p2) := ⟨_, rfl⟩
    have f : FrM [0, 64, 65] [] [] M N := by rw [eN]; exact (((FrM.rfl').cI (by decide)).cI (by decide)).cI (by decide)
    obtain ⟨a1, a2, a3, a4, a5, a6, a7, a8, a9⟩ := h
    rw [← eN]
    refine ⟨?_, ?_, ?_, ?_, ?_, ?_, ?_, ?_, ?_⟩
    · exact a1.fr f (by decide)
    · exact a2.fr f (by decide) (by decide) (by decide) (by decide) (by decide)
    · exact a3.fr f (by decide) (by decide) (by decide)
    · exact a4.fr f (by decide) (by decide) (by decide) (by decide)
    · exact a5.fr f (by decide) (by decide) (by decide) (by decide) (by decide)
    · exact a6.fr f (by decide)
    · exact a7.fr f (by decide) (by decide) (by decide) (by decide) (by decide)
    · exact a8.fr f (by decide) (by decide) (by decide) (by decide) (by decide)
    · exact a9.fr f (by decide) (by decide) (by decide) (by decide)
  · rw [if_neg c1]
    exact h.thr
theorem mv_controller {M : MS} {p1 : Int32} (h : MV M) : MV (f_controller p1 M).2 := by
  unfold f_controller
  by_cases c1 : P_isPerson p1 M
  · rw [if_pos c1]
    obtain ⟨N, eN⟩ : ∃ N, N = (sI (sI M 0 0) 10 p1) := ⟨_, rfl⟩
    have f : FrM [0, 10] [] [] M N := by rw [eN]; exact ((FrM.rfl').cI (by decide)).cI (by decide)
    obtain ⟨a1, a2, a3, a4, a5, a6, a7, a8, a9⟩ := h
    show MV (sI (sI M 0 0) 10 p1)
    rw [← eN]
    refine ⟨?_, ?_, ?_, ?_, ?_, ?_, ?_, ?_, ?_⟩
    · exact a1.fr f (by decide)
    · obtain ⟨b1, b2, b3, b4, b5, b6⟩ := a2
      have e3 : mI N 3 = mI M 3 := f.1 3 (by decide)
      have e10 : mI N 10 = p1 := by rw [eN]; exact mI_sIs
      unfold MPe BO
      simp only [f.c (show 3 ∉ [0, 10] by decide), e3, e10, f.p (show 3 ∉ [0, 10] by decide), f.2.1 4 (by decide), f.2.1 6 (by decide), f.2.1 7 (by decide), f.i (show 7 ∉ [] by decide)]
      exact ⟨b1, fun z => absurd z (per_some c1), fun _ => c1, b4, b5, b6⟩
    · exact a3.fr f (by decide) (by decide) (by decide)
    · exact a4.fr f (by decide) (by decide) (by decide) (by decide)
    · exact a5.fr f (by decide) (by decide) (by decide) (by decide) (by decide)
    · exact a6.fr f (by decide)
    · exact a7.fr f (by decide) (by decide) (by decide) (by decide) (by decide)
    · exact a8.fr f (by decide) (by decide) (by decide) (by decide) (by decide)
    · exact a9.fr f (by decide) (by decide) (by decide) (by decide)
  · rw [if_neg c1]
    exact h.thr
theorem mv_absent {M : MS} {p1 : Int32} {p2 : Int32} {p3 : Int32} (h : MV M) : MV (f_absent p1 p2 p3 M) := by
  unfold f_absent
  by_cases c1 : P_isPerson p1 M
  · rw [if_pos c1]
    by_cases c2 : P_isPerson p3 M
    · rw [if_pos c2]
      by_cases c3 : P_in p2 0 1079
      · rw [if_pos c3]
        by_cases c4 : p1 = p3
        · rw [if_pos c4]
          exact h.thr
        · rw [if_neg c4]
          obtain ⟨N, eN⟩ : ∃ N, N = (rI (rI (sI M 0 0) 6 p1 p2) 7 p1 p3) := ⟨_, rfl⟩
          have f : FrM [0] [6, 7] [] M N := by rw [eN]; exact (((FrM.rfl').cI (by decide)).rI (by decide)).rI (by decide)
          obtain ⟨a1, a2, a3, a4, a5, a6, a7, a8, a9⟩ := h
          rw [← eN]
          refine ⟨?_, ?_, ?_, ?_, ?_, ?_, ?_, ?_, ?_⟩
          · exact a1.fr f (by decide)
          · obtain ⟨b1, b2, b3, b4, b5, b6⟩ := a2
            obtain ⟨i, hi, e⟩ := per_of b1 c1
            have g6 : ∀ k, gn N 6 k = if k = i then p2 else gn M 6 k := fun k => by
              rw [eN]
              show gn (rI (rI M 6 p1 p2) 7 p1 p3) 6 k = _
              rw [gn_rIn (by decide), gn_rI, e, nI_clamp (by omega)]
              by_cases z : k = i
              · rw [if_pos ⟨rfl, z⟩, if_pos z]
              · rw [if_neg (fun y => z y.2), if_neg z]
            have g7 : ∀ k, gn N 7 k = if k = i then p3 else gn M 7 k := fun k => by
              rw [eN]
              show gn (rI (rI M 6 p1 p2) 7 p1 p3) 7 k = _
              rw [gn_rI, e, nI_clamp (by omega)]
              by_cases z : k = i
              · rw [if_pos ⟨rfl, z⟩, if_pos z]
              · rw [if_neg (fun y => z y.2), gn_rIn (by decide), if_neg z]
            refine ⟨by rw [f.c (by decide), f.1 3 (by decide)]; exact b1, fun z => by rw [f.1 10 (by decide)]; exact b2 (by rw [← f.1 3 (by decide)]; exact z), fun z => by rw [f.1 10 (by decide), f.p (by decide)]; exact b3 (by rw [← f.1 3 (by decide)]; exact z), fun k hk => by rw [f.2.1 4 (by decide)]; exact b4 k (by rw [← f.c (show 3 ∉ [0] by decide)]; exact hk), fun b hb => ?_, fun k hk => ?_⟩
            · rw [f.p (by decide)] at hb
              rw [f.p (by decide), gI_n, g7]
              by_cases z : b.toNatClampNeg = i
              · rw [if_pos z]
                exact c2
              · rw [if_neg z]
                exact b5 b hb
            · rw [f.c (by decide)] at hk
              rw [f.2.1 4 (by decide), g6, g7, if_neg (by omega), if_neg (by omega)]
              exact b6 k hk
          · exact a3.fr f (by decide) (by decide) (by decide)
          · exact a4.fr f (by decide) (by decide) (by decide) (by decide)
          · exact a5.fr f (by decide) (by decide) (by decide) (by decide) (by decide)
          · exact a6.fr f (by decide)
          · exact a7.fr f (by decide) (by decide) (by decide) (by decide) (by decide)
          · exact a8.fr f (by decide) (by decide) (by decide) (by decide) (by decide)
          · exact a9.fr f (by decide) (by decide) (by decide) (by decide)
      · rw [if_neg c3]
        exact h.thr
    · rw [if_neg c2]
      exact h.thr
  · rw [if_neg c1]
    exact h.thr
theorem mv_soft {M : MS} {p1 : Int32} {p2 : Int32} (h : MV M) (hb : p2 = 0 ∨ p2 = 1) : MV (f_soft p1 p2 M).2 := by
  unfold f_soft
  by_cases c1 : P_isCentre p1
  · rw [if_pos c1]
    obtain ⟨N, eN⟩ : ∃ N, N = (rI (sI M 0 0) 12 p1 p2) := ⟨_, rfl⟩
    have f : FrM [0] [12] [] M N := by rw [eN]; exact ((FrM.rfl').cI (by decide)).rI (by decide)
    obtain ⟨a1, a2, a3, a4, a5, a6, a7, a8, a9⟩ := h
    show MV (rI (sI M 0 0) 12 p1 p2)
    rw [← eN]
    refine ⟨?_, ?_, ?_, ?_, ?_, ?_, ?_, ?_, ?_⟩
    · exact a1.fr f (by decide)
    · exact a2.fr f (by decide) (by decide) (by decide) (by decide) (by decide)
    · exact a3.fr f (by decide) (by decide) (by decide)
    · obtain ⟨q, hq, e⟩ := cent_of c1
      refine ⟨fun i hi => ?_, fun i hi => ?_⟩
      · rw [f.2.1 32 (by decide), f.2.1 35 (by decide)]
        refine ⟨?_, (a4.1 i hi).2⟩
        rw [eN, gn_rI, e, nI_clamp (by omega)]
        by_cases z : 12 = 12 ∧ i = q
        · rw [if_pos z]; exact hb
        · rw [if_neg z]; exact (a4.1 i hi).1
      · rw [f.2.1 56 (by decide)]
        exact a4.2 i hi
    · exact a5.fr f (by decide) (by decide) (by decide) (by decide) (by decide)
    · exact a6.fr f (by decide)
    · exact a7.fr f (by decide) (by decide) (by decide) (by decide) (by decide)
    · exact a8.fr f (by decide) (by decide) (by decide) (by decide) (by decide)
    · exact a9.fr f (by decide) (by decide) (by decide) (by decide)
  · rw [if_neg c1]
    exact h.thr
theorem mv_supplier {M : MS} {p1 : Int32} {p2 : Int32} {p3 : Int32} {p4 : Int32} {p5 : Int32} {p6 : Int32} (h : MV M) : MV (f_supplier p1 p2 p3 p4 p5 p6 M) := by
  unfold f_supplier
  by_cases c1 : P_in p1 0 5
  · rw [if_pos c1]
    by_cases c2 : P_in p2 0 2
    · rw [if_pos c2]
      by_cases c3 : P_in p3 0 2
      · rw [if_pos c3]
        by_cases c4 : P_in p4 0 90
        · rw [if_pos c4]
          by_cases c5 : P_in p5 0 10
          · rw [if_pos c5]
            by_cases c6 : P_in p6 0 30
            · rw [if_pos c6]
              obtain ⟨N, eN⟩ : ∃ N, N = (rI (rI (rI (rI (rI (sI M 0 0) 31 p1 p2) 32 p1 p3) 33 p1 p4) 34 p1 p5) 35 p1 p6) := ⟨_, rfl⟩
              have f : FrM [0] [31, 32, 33, 34, 35] [] M N := by rw [eN]; exact ((((((FrM.rfl').cI (by decide)).rI (by decide)).rI (by decide)).rI (by decide)).rI (by decide)).rI (by decide)
              obtain ⟨a1, a2, a3, a4, a5, a6, a7, a8, a9⟩ := h
              rw [← eN]
              refine ⟨?_, ?_, ?_, ?_, ?_, ?_, ?_, ?_, ?_⟩
              · exact a1.fr f (by decide)
              · exact a2.fr f (by decide) (by decide) (by decide) (by decide) (by decide)
              · exact a3.fr f (by decide) (by decide) (by decide)
              · refine ⟨fun i hi => ?_, fun i hi => ?_⟩
                · rw [f.2.1 12 (by decide)]
                  refine ⟨(a4.1 i hi).1, ?_, ?_⟩
                  · rw [eN, gn_rIn (by decide), gn_rIn (by decide), gn_rIn (by decide), gn_rI]
                    split
                    · exact c3
                    · rw [gn_rIn (by decide)]; exact (a4.1 i hi).2.1
                  · rw [eN, gn_rI]
                    split
                    · exact c6
                    · rw [gn_rIn (by decide), gn_rIn (by decide), gn_rIn (by decide), gn_rIn (by decide)]; exact (a4.1 i hi).2.2
                · rw [f.2.1 56 (by decide)]
                  exact a4.2 i hi
              · exact a5.fr f (by decide) (by decide) (by decide) (by decide) (by decide)
              · exact a6.fr f (by decide)
              · exact a7.fr f (by decide) (by decide) (by decide) (by decide) (by decide)
              · exact a8.fr f (by decide) (by decide) (by decide) (by decide) (by decide)
              · exact a9.fr f (by decide) (by decide) (by decide) (by decide)
            · rw [if_neg c6]
              exact h.thr
          · rw [if_neg c5]
            exact h.thr
        · rw [if_neg c4]
          exact h.thr
      · rw [if_neg c3]
        exact h.thr
    · rw [if_neg c2]
      exact h.thr
  · rw [if_neg c1]
    exact h.thr
theorem mv_place {M : MS} {p1 : Int32} {p2 : Int32} (h : MV M) : MV (f_place p1 p2 M).2 := by
  unfold f_place
  by_cases c1 : P_in p1 0 3
  · rw [if_pos c1]
    by_cases c2 : P_in p2 0 50000
    · rw [if_pos c2]
      obtain ⟨N, eN⟩ : ∃ N, N = (rI (sI M 0 0) 56 p1 p2) := ⟨_, rfl⟩
      have f : FrM [0] [56] [] M N := by rw [eN]; exact ((FrM.rfl').cI (by decide)).rI (by decide)
      obtain ⟨a1, a2, a3, a4, a5, a6, a7, a8, a9⟩ := h
      show MV (rI (sI M 0 0) 56 p1 p2)
      rw [← eN]
      refine ⟨?_, ?_, ?_, ?_, ?_, ?_, ?_, ?_, ?_⟩
      · exact a1.fr f (by decide)
      · exact a2.fr f (by decide) (by decide) (by decide) (by decide) (by decide)
      · exact a3.fr f (by decide) (by decide) (by decide)
      · refine ⟨fun i hi => ?_, fun i hi => ?_⟩
        · rw [f.2.1 12 (by decide), f.2.1 32 (by decide), f.2.1 35 (by decide)]
          exact a4.1 i hi
        · rw [eN, gn_rI]
          split
          · exact c2
          · exact a4.2 i hi
      · exact a5.fr f (by decide) (by decide) (by decide) (by decide) (by decide)
      · exact a6.fr f (by decide)
      · exact a7.fr f (by decide) (by decide) (by decide) (by decide) (by decide)
      · exact a8.fr f (by decide) (by decide) (by decide) (by decide) (by decide)
      · exact a9.fr f (by decide) (by decide) (by decide) (by decide)
    · rw [if_neg c2]
      exact h.thr
  · rw [if_neg c1]
    exact h.thr
theorem mv_advance {M : MS} {p1 : Int32} {p2 : Int32} (h : MV M) : MV (f_advance p1 p2 M).2 := by
  unfold f_advance
  by_cases c1 : P_isPerson p1 M
  · rw [if_pos c1]
    by_cases c2 : P_in p2 1 1000000
    · rw [if_pos c2]
      obtain ⟨N, eN⟩ : ∃ N, N = (rJ (rJ (rJ (sI M 0 0) 9 p1 ((gJ M 9 p1) + (p2.toInt64))) 2 6 ((gJ M 2 6) + (p2.toInt64))) 2 2 ((gJ M 2 2) - (p2.toInt64))) := ⟨_, rfl⟩
      have f : FrM [0] [] [2, 9] M N := by rw [eN]; exact ((((FrM.rfl').cI (by decide)).rJ (by decide)).rJ (by decide)).rJ (by decide)
      obtain ⟨a1, a2, a3, a4, a5, a6, a7, a8, a9⟩ := h
      show MV (rJ (rJ (rJ (sI M 0 0) 9 p1 ((gJ M 9 p1) + (p2.toInt64))) 2 6 ((gJ M 2 6) + (p2.toInt64))) 2 2 ((gJ M 2 2) - (p2.toInt64)))
      rw [← eN]
      refine ⟨?_, ?_, ?_, ?_, ?_, ?_, ?_, ?_, ?_⟩
      · exact a1.fr f (by decide)
      · exact a2.fr f (by decide) (by decide) (by decide) (by decide) (by decide)
      · obtain ⟨i, hi, e⟩ := per_of a2.1 c1
        intro k hk
        rw [f.c (by decide)] at hk
        have h12 := a2.1.1
        have hne : k ≠ p1.toNatClampNeg := by rw [e, nI_clamp (by omega)]; omega
        rw [eN]
        rw [gl_rJn (by decide), gl_rJn (by decide), gl_rJn (by decide), gl_rJn (by decide), gl_rJn (by decide), gl_rJ, if_neg (fun z => hne z.2)]
        exact a3 k hk
      · exact a4.fr f (by decide) (by decide) (by decide) (by decide)
      · exact a5.fr f (by decide) (by decide) (by decide) (by decide) (by decide)
      · exact a6.fr f (by decide)
      · exact a7.fr f (by decide) (by decide) (by decide) (by decide) (by decide)
      · exact a8.fr f (by decide) (by decide) (by decide) (by decide) (by decide)
      · exact a9.fr f (by decide) (by decide) (by decide) (by decide)
    · rw [if_neg c2]
      exact h.thr
  · rw [if_neg c1]
    exact h.thr
theorem mv_settle {M : MS} {p1 : Int32} (h : MV M) : MV (f_settle p1 M).2 := by
  unfold f_settle
  by_cases c1 : P_isPerson p1 M
  · rw [if_pos c1]
    obtain ⟨N, eN⟩ : ∃ N, N = (rJ (rJ (rJ (rJ (rJ (sI M 0 0) 2 6 ((gJ M 2 6) - (gJ M 9 p1))) 2 8 ((gJ M 2 8) + (gJ M 8 p1))) 2 2 ((gJ M 2 2) - ((gJ M 8 p1) - (gJ M 9 p1)))) 8 p1 0) 9 p1 0) := ⟨_, rfl⟩
    have f : FrM [0] [] [2, 8, 9] M N := by rw [eN]; exact ((((((FrM.rfl').cI (by decide)).rJ (by decide)).rJ (by decide)).rJ (by decide)).rJ (by decide)).rJ (by decide)
    obtain ⟨a1, a2, a3, a4, a5, a6, a7, a8, a9⟩ := h
    show MV (rJ (rJ (rJ (rJ (rJ (sI M 0 0) 2 6 ((gJ M 2 6) - (gJ M 9 p1))) 2 8 ((gJ M 2 8) + (gJ M 8 p1))) 2 2 ((gJ M 2 2) - ((gJ M 8 p1) - (gJ M 9 p1)))) 8 p1 0) 9 p1 0)
    rw [← eN]
    refine ⟨?_, ?_, ?_, ?_, ?_, ?_, ?_, ?_, ?_⟩
    · exact a1.fr f (by decide)
    · exact a2.fr f (by decide) (by decide) (by decide) (by decide) (by decide)
    · obtain ⟨i, hi, e⟩ := per_of a2.1 c1
      intro k hk
      rw [f.c (by decide)] at hk
      have h12 := a2.1.1
      have hne : k ≠ p1.toNatClampNeg := by rw [e, nI_clamp (by omega)]; omega
      rw [eN]
      rw [gl_rJn (by decide), gl_rJ, if_neg (fun z => hne z.2), gl_rJn (by decide), gl_rJn (by decide), gl_rJn (by decide), gl_rJ, if_neg (fun z => hne z.2), gl_rJn (by decide), gl_rJn (by decide), gl_rJn (by decide), gl_rJn (by decide)]
      exact a3 k hk
    · exact a4.fr f (by decide) (by decide) (by decide) (by decide)
    · exact a5.fr f (by decide) (by decide) (by decide) (by decide) (by decide)
    · exact a6.fr f (by decide)
    · exact a7.fr f (by decide) (by decide) (by decide) (by decide) (by decide)
    · exact a8.fr f (by decide) (by decide) (by decide) (by decide) (by decide)
    · exact a9.fr f (by decide) (by decide) (by decide) (by decide)
  · rw [if_neg c1]
    exact h.thr
theorem mv_trip {M : MS} {p1 : Int32} {p2 : Int32} {p3 : Int32} {p4 : Int32} {p5 : Int32} {p6 : Int32} {p7 : Int32} (h : MV M) : MV (f_trip p1 p2 p3 p4 p5 p6 p7 M).2 := by
  unfold f_trip
  by_cases c1 : P_isPerson p1 M
  · rw [if_pos c1]
    by_cases c2 : P_isCentre p2
    · rw [if_pos c2]
      by_cases c3 : P_in p3 0 3
      · rw [if_pos c3]
        by_cases c4 : P_in p4 1 30
        · rw [if_pos c4]
          by_cases c5 : P_in p5 0 p4
          · rw [if_pos c5]
            by_cases c6 : P_in p6 0 (2 * p4)
            · rw [if_pos c6]
              by_cases c7 : P_in p7 0 5000
              · rw [if_pos c7]
                by_cases c8 : (mI M 57) = 30
                · rw [if_pos c8]
                  exact h.thr
                · rw [if_neg c8]
                  by_cases c9 : P_may p2 (f_yearNow M) (f_costOf (gI M 56 p3) p4 p5 p6 p7) M
                  · rw [if_pos c9]
                    obtain ⟨N, eN⟩ : ∃ N, N = (rJ (rJ (rJ (rJ (sI (rJ (sI M 0 0) 58 (mI M 57) (f_costOf (gI M 56 p3) p4 p5 p6 p7)) 57 ((mI M 57) + 1)) 11 (f_at p2 (f_yearNow (sI (rJ (sI M 0 0) 58 (mI M 57) (f_costOf (gI M 56 p3) p4 p5 p6 p7)) 57 ((mI M 57) + 1))) 2) ((gJ M 11 (f_at p2 (f_yearNow (sI (rJ (sI M 0 0) 58 (mI M 57) (f_costOf (gI M 56 p3) p4 p5 p6 p7)) 57 ((mI M 57) + 1))) 2)) + (f_costOf (gI M 56 p3) p4 p5 p6 p7))) 8 p1 ((gJ M 8 p1) + (f_costOf (gI M 56 p3) p4 p5 p6 p7))) 2 0 ((gJ M 2 0) + (f_costOf (gI M 56 p3) p4 p5 p6 p7))) 2 8 ((gJ M 2 8) - (f_costOf (gI M 56 p3) p4 p5 p6 p7))) := ⟨_, rfl⟩
                    have f : FrM [0, 57] [] [2, 8, 11, 58] M N := by rw [eN]; exact (((((((FrM.rfl').cI (by decide)).rJ (by decide)).cI (by decide)).rJ (by decide)).rJ (by decide)).rJ (by decide)).rJ (by decide)
                    obtain ⟨a1, a2, a3, a4, a5, a6, a7, a8, a9⟩ := h
                    show MV (rJ (rJ (rJ (rJ (sI (rJ (sI M 0 0) 58 (mI M 57) (f_costOf (gI M 56 p3) p4 p5 p6 p7)) 57 ((mI M 57) + 1)) 11 (f_at p2 (f_yearNow (sI (rJ (sI M 0 0) 58 (mI M 57) (f_costOf (gI M 56 p3) p4 p5 p6 p7)) 57 ((mI M 57) + 1))) 2) ((gJ M 11 (f_at p2 (f_yearNow (sI (rJ (sI M 0 0) 58 (mI M 57) (f_costOf (gI M 56 p3) p4 p5 p6 p7)) 57 ((mI M 57) + 1))) 2)) + (f_costOf (gI M 56 p3) p4 p5 p6 p7))) 8 p1 ((gJ M 8 p1) + (f_costOf (gI M 56 p3) p4 p5 p6 p7))) 2 0 ((gJ M 2 0) + (f_costOf (gI M 56 p3) p4 p5 p6 p7))) 2 8 ((gJ M 2 8) - (f_costOf (gI M 56 p3) p4 p5 p6 p7)))
                    rw [← eN]
                    refine ⟨?_, ?_, ?_, ?_, ?_, ?_, ?_, ?_, ?_⟩
                    · exact a1.fr f (by decide)
                    · exact a2.fr f (by decide) (by decide) (by decide) (by decide) (by decide)
                    · obtain ⟨i, hi, e⟩ := per_of a2.1 c1
                      intro k hk
                      rw [f.c (by decide)] at hk
                      have h12 := a2.1.1
                      have hne : k ≠ p1.toNatClampNeg := by rw [e, nI_clamp (by omega)]; omega
                      refine ⟨?_, (f.2.2 9 (by decide) k).symm ▸ (a3 k hk).2⟩
                      rw [eN, gl_rJn (by decide), gl_rJn (by decide), gl_rJ, if_neg (fun z => hne z.2), gl_rJn (by decide)]
                      exact ((((FrM.rfl'.cI (by decide)).rJ (by decide)).cI (by decide) : FrM [0, 57] [] [58] M _).2.2 8 (by decide) k).trans (a3 k hk).1
                    · exact a4.fr f (by decide) (by decide) (by decide) (by decide)
                    · exact a5.fr f (by decide) (by decide) (by decide) (by decide) (by decide)
                    · have e57 : mI N 57 = nI (cnt M 57 + 1) := by rw [eN, ← nI_1, ← a6.2]; exact (if_pos rfl : (if (57 : Nat) = 57 then mI M 57 + 1 else mI (sI M 0 0) 57) = mI M 57 + 1)
                      have h30 : cnt M 57 < 30 := by
                        have h9 : ¬ mI M 57 = 30 := by assumption
                        have h8 := a6.1
                        have h7 : cnt M 57 ≠ 30 := fun z => h9 (by rw [a6.2, z]; rfl)
                        omega
                      exact cn_s e57 h30
                    · exact a7.fr f (by decide) (by decide) (by decide) (by decide) (by decide)
                    · exact a8.fr f (by decide) (by decide) (by decide) (by decide) (by decide)
                    · exact a9.fr f (by decide) (by decide) (by decide) (by decide)
                  · rw [if_neg c9]
                    exact h.thr
              · rw [if_neg c7]
                exact h.thr
            · rw [if_neg c6]
              exact h.thr
          · rw [if_neg c5]
            exact h.thr
        · rw [if_neg c4]
          exact h.thr
      · rw [if_neg c3]
        exact h.thr
    · rw [if_neg c2]
      exact h.thr
  · rw [if_neg c1]
    exact h.thr
