theorem iv_of {p : Int32} {M : MS} (h : cnt M 39 ≤ 60 ∧ mI M 39 = nI (cnt M 39)) (hp : P_isInvoice p M) : ∃ i, i < cnt M 39 ∧ p = nI i := cn_of h (by decide) hp
theorem MIv.s44 {C A B : List Nat} {M M' : MS} (h : MIv M) (f : FrM C A B M M') (h14 : 14 ∉ C) (h39 : 39 ∉ C) (hA : ∀ j, j ∈ [17, 18, 27, 28, 29, 30, 40, 41, 45, 49, 51] → j ∉ A) (hB : ∀ j, j ∈ [43, 46, 47] → j ∉ B) (h44 : ∀ i, gn M' 44 i = 0 ↔ gn M 44 i = 0) (h53 : ∀ i, gn M' 53 i = gn M 53 i ∨ (i < cnt M 39 ∧ (gn M' 53 i = 0 ∨ gn M' 53 i = 1))) (hz : ∀ i, cnt M 39 ≤ i → gl M' 54 i = gl M 54 i ∧ gl M' 55 i = gl M 55 i) : MIv M' := by
  have k := fun j hj => f.2.1 j (hA j hj)
  have kB := fun j hj => f.2.2 j (hB j hj)
  obtain ⟨a1, a2, a3, a4⟩ := h
  refine ⟨by rw [f.c h39, f.1 39 h39]; exact a1, fun i hi => ?_, fun i hi => ?_, fun i hi h0 => ?_⟩
  · rw [f.c h39] at hi
    have h9 := a2 i hi
    refine ⟨?_, ?_, ?_, ?_, fun z => ?_⟩
    · rw [f.d9 h14 (hA 18 (by decide)), k 40 (by decide)]; exact h9.1
    · rw [k 40 (by decide), k 17 (by decide)]; exact h9.2.1
    · rw [k 41 (by decide)]; exact h9.2.2.1
    · rcases h53 i with z | z
      · rw [z]; exact h9.2.2.2.1
      · exact z.2
    · rw [k 49 (by decide)]; exact h9.2.2.2.2 (fun y => z ((h44 i).mpr y))
  · rw [f.c h39] at hi
    obtain ⟨⟨z1, z2, z3, z4⟩, z5, z6, z7, z8⟩ := a3 i hi
    refine ⟨⟨(h44 i).mpr z1, by rw [k 45 (by decide)]; exact z2, by rw [k 51 (by decide)]; exact z3, ?_⟩, by rw [kB 46 (by decide)]; exact z5, by rw [kB 47 (by decide)]; exact z6, by rw [(hz i hi).1]; exact z7, by rw [(hz i hi).2]; exact z8⟩
    rcases h53 i with z | z
    · rw [z]; exact z4
    · omega
  · rw [why_cg (M := M) (fun j hj x => k j (by revert hj; revert j; decide) _) (kB 43 (by decide) _) (fb_cg2 (M := M) (f.1 39 h39) (fun i => k 40 (by decide) i) (fun i => k 41 (by decide) i) h44).1]
    exact a4 i (by rw [← f.c h39]; exact hi) ((h44 i).mp h0)
theorem mv_goOn {M : MS} {p1 : Int32} (h : MV M) : MV (f_goOn p1 M) := by
  unfold f_goOn
  by_cases c1 : P_isInvoice p1 M
  · rw [if_pos c1]
    by_cases c2 : (gI M 53 p1) = 0
    · rw [if_pos c2]
      exact h.thr
    · rw [if_neg c2]
      obtain ⟨N, eN⟩ : ∃ N, N = (rI (sI M 0 0) 53 p1 0) := ⟨_, rfl⟩
      have f : FrM [0] [53] [] M N := by rw [eN]; exact ((FrM.rfl').cI (by decide)).rI (by decide)
      obtain ⟨a1, a2, a3, a4, a5, a6, a7, a8, a9⟩ := h
      obtain ⟨i0, hi0, ei⟩ := iv_of a9.1 c1
      have h60 := a9.1.1
      have ci : p1.toNatClampNeg = i0 := by rw [ei, nI_clamp (by omega)]
      rw [← eN]
      refine ⟨?_, ?_, ?_, ?_, ?_, ?_, ?_, ?_, ?_⟩
      · exact a1.fr f (by decide)
      · exact a2.fr f (by decide) (by decide) (by decide) (by decide) (by decide)
      · exact a3.fr f (by decide) (by decide) (by decide)
      · exact a4.fr f (by decide) (by decide) (by decide) (by decide)
      · exact a5.fr f (by decide) (by decide) (by decide) (by decide) (by decide)
      · exact a6.fr f (by decide)
      · exact a7.fr f (by decide) (by decide) (by decide) (by decide) (by decide)
      · exact a8.fr f (by decide) (by decide) (by decide) (by decide) (by decide)
      · refine MIv.s44 a9 f (by decide) (by decide) (by decide) (by decide) (fun i => by rw [f.2.1 44 (by decide)]) (fun i => ?_) (fun i _ => ⟨f.2.2 54 (by decide) i, f.2.2 55 (by decide) i⟩)
        rw [eN, gn_rI, ci]
        by_cases z : 53 = 53 ∧ i = i0
        · rw [if_pos z]; exact Or.inr ⟨by omega, Or.inl rfl⟩
        · rw [if_neg z]; exact Or.inl rfl
  · rw [if_neg c1]
    exact h.thr
theorem mv_bounce {M : MS} {p1 : Int32} (h : MV M) : MV (f_bounce p1 M).2 := by
  unfold f_bounce
  by_cases c1 : P_isInvoice p1 M
  · rw [if_pos c1]
    by_cases c2 : (gI M 44 p1) = 2
    · rw [if_pos c2]
      obtain ⟨N, eN⟩ : ∃ N, N = (rJ (rJ (rJ (rI (rI (rJ (sI M 0 0) 48 p1 ((gJ M 54 p1) + (gJ M 55 p1))) 53 p1 1) 44 p1 1) 2 2 ((gJ M 2 2) + (gJ M 54 p1))) 2 5 ((gJ M 2 5) + (gJ M 55 p1))) 2 1 ((gJ M 2 1) - ((gJ M 54 p1) + (gJ M 55 p1)))) := ⟨_, rfl⟩
      have f : FrM [0] [44, 53] [2, 48] M N := by rw [eN]; exact (((((((FrM.rfl').cI (by decide)).rJ (by decide)).rI (by decide)).rI (by decide)).rJ (by decide)).rJ (by decide)).rJ (by decide)
      obtain ⟨a1, a2, a3, a4, a5, a6, a7, a8, a9⟩ := h
      obtain ⟨i0, hi0, ei⟩ := iv_of a9.1 c1
      have h60 := a9.1.1
      have ci : p1.toNatClampNeg = i0 := by rw [ei, nI_clamp (by omega)]
      show MV (rJ (rJ (rJ (rI (rI (rJ (sI M 0 0) 48 p1 ((gJ M 54 p1) + (gJ M 55 p1))) 53 p1 1) 44 p1 1) 2 2 ((gJ M 2 2) + (gJ M 54 p1))) 2 5 ((gJ M 2 5) + (gJ M 55 p1))) 2 1 ((gJ M 2 1) - ((gJ M 54 p1) + (gJ M 55 p1))))
      rw [← eN]
      refine ⟨?_, ?_, ?_, ?_, ?_, ?_, ?_, ?_, ?_⟩
      · exact a1.fr f (by decide)
      · exact a2.fr f (by decide) (by decide) (by decide) (by decide) (by decide)
      · exact a3.fr f (by decide) (by decide) (by decide)
      · exact a4.fr f (by decide) (by decide) (by decide) (by decide)
      · exact a5.fr f (by decide) (by decide) (by decide) (by decide) (by decide)
      · exact a6.fr f (by decide)
      · exact a7.fr f (by decide) (by decide) (by decide) (by decide) (by decide)
      · exact a8.fr f (by decide) (by decide) (by decide) (by decide) (by decide)
      · have hN : N.2.2.1 = (rI (rI M 53 p1 1) 44 p1 1).2.2.1 := by rw [eN]; rfl
        have g44 : ∀ i, gn N 44 i = if i = i0 then 1 else gn M 44 i := fun i => by
          show N.2.2.1 44 i = _
          rw [hN]
          show gn (rI (rI M 53 p1 1) 44 p1 1) 44 i = _
          rw [gn_rI, ci]
          by_cases z : i = i0
          · rw [if_pos ⟨rfl, z⟩, if_pos z]
          · rw [if_neg (fun y => z y.2), if_neg z, gn_rIn (by decide)]
        have g53 : ∀ i, gn N 53 i = if i = i0 then 1 else gn M 53 i := fun i => by
          show N.2.2.1 53 i = _
          rw [hN]
          show gn (rI (rI M 53 p1 1) 44 p1 1) 53 i = _
          rw [gn_rIn (by decide), gn_rI, ci]
          by_cases z : i = i0
          · rw [if_pos ⟨rfl, z⟩, if_pos z]
          · rw [if_neg (fun y => z y.2), if_neg z]
        refine MIv.s44 a9 f (by decide) (by decide) (by decide) (by decide) (fun i => ?_) (fun i => ?_) (fun i _ => ⟨f.2.2 54 (by decide) i, f.2.2 55 (by decide) i⟩)
        · rw [g44]
          by_cases z : i = i0
          · have h9 : gn M 44 i = 2 := by rw [z, ← c2, gI_n, ci]
            rw [if_pos z, h9]
            decide
          · rw [if_neg z]
        · rw [g53]
          by_cases z : i = i0
          · rw [if_pos z]; exact Or.inr ⟨by omega, Or.inr rfl⟩
          · rw [if_neg z]; exact Or.inl rfl
    · rw [if_neg c2]
      exact h.thr
  · rw [if_neg c1]
    exact h.thr
theorem pays_pt {M : MS} {p : Int32} : ∀ i, i ≠ p.toNatClampNeg → gl (f_pays p M) 54 i = gl M 54 i ∧ gl (f_pays p M) 55 i = gl M 55 i := fun i hi => by
  have key : ∀ (a b c d e f : Int64), gl (rI (rJ (rJ (rJ (rJ (rJ (rJ M 55 p a) 54 p b) 2 1 c) 2 2 d) 2 5 e) 2 4 f) 44 p 2) 54 i = gl M 54 i ∧ gl (rI (rJ (rJ (rJ (rJ (rJ (rJ M 55 p a) 54 p b) 2 1 c) 2 2 d) 2 5 e) 2 4 f) 44 p 2) 55 i = gl M 55 i := fun a b c d e f => by
    have e1 : ∀ j, gl (rI (rJ (rJ (rJ (rJ (rJ (rJ M 55 p a) 54 p b) 2 1 c) 2 2 d) 2 5 e) 2 4 f) 44 p 2) j i = gl (rJ (rJ (rJ (rJ (rJ (rJ M 55 p a) 54 p b) 2 1 c) 2 2 d) 2 5 e) 2 4 f) j i := fun j => rfl
    rw [e1, e1, gl_rJn (by decide), gl_rJn (by decide), gl_rJn (by decide), gl_rJn (by decide), gl_rJ, if_neg (fun z => hi z.2), gl_rJn (by decide), gl_rJn (by decide), gl_rJn (by decide), gl_rJn (by decide), gl_rJn (by decide), gl_rJn (by decide), gl_rJ, if_neg (fun z => hi z.2)]
    exact ⟨rfl, rfl⟩
  unfold f_pays
  split <;> split <;> exact key _ _ _ _ _ _
theorem run_pt {M : MS} {d y : Int32} (h60 : cnt M 39 ≤ 60) : ∀ n, n ≤ cnt M 39 → Fr [44] [55, 54, 2] M (it_run d y M n).2 ∧ (∀ i, gn (it_run d y M n).2 44 i = 0 ↔ gn M 44 i = 0) ∧ ∀ i, cnt M 39 ≤ i → gl (it_run d y M n).2 54 i = gl M 54 i ∧ gl (it_run d y M n).2 55 i = gl M 55 i
  | 0, _ => ⟨Fr.rfl', fun _ => Iff.rfl, fun _ _ => ⟨rfl, rfl⟩⟩
  | n + 1, hn => by
    obtain ⟨i1, i2, i3⟩ := run_pt (d := d) (y := y) h60 n (by omega)
    show Fr [44] [55, 54, 2] M (st_run d y (nI n) (it_run d y M n).1 (it_run d y M n).2).2 ∧ (∀ i, gn (st_run d y (nI n) (it_run d y M n).1 (it_run d y M n).2).2 44 i = 0 ↔ gn M 44 i = 0) ∧ ∀ i, cnt M 39 ≤ i → gl (st_run d y (nI n) (it_run d y M n).1 (it_run d y M n).2).2 54 i = gl M 54 i ∧ gl (st_run d y (nI n) (it_run d y M n).1 (it_run d y M n).2).2 55 i = gl M 55 i
    generalize (it_run d y M n).2 = N at *
    generalize (it_run d y M n).1 = a
    rw [st_run_eq]
    split
    · rename_i c
      have fr := fr_pays (M := N) (p := nI n)
      have h44 := pays_44 (M := N) (p := nI n)
      have cn : (nI n).toNatClampNeg = n := nI_clamp (by omega)
      refine ⟨i1.trans fr.1, fun i => ?_, fun i hi => ?_⟩
      · by_cases z : i = n
        · have e1 : gn (f_pays (nI n) N) 44 i = 2 := by rw [z, ← h44, gI_n, cn]
          have e2 : gn N 44 i = 1 := by rw [z, ← c.1, gI_n, cn]
          rw [← i2]
          show gn (f_pays (nI n) N) 44 i = 0 ↔ _
          rw [e1, e2]
          decide
        · rw [← i2]
          show gn (f_pays (nI n) N) 44 i = 0 ↔ _
          rw [fr.2 i (by rw [cn]; exact z)]
      · have h9 := pays_pt (M := N) (p := nI n) i (by rw [cn]; omega)
        exact ⟨h9.1.trans (i3 i hi).1, h9.2.trans (i3 i hi).2⟩
    · exact ⟨i1, i2, i3⟩
theorem mv_run {M : MS} {p1 p2 : Int32} (h : MV M) : MV (f_run p1 p2 M).2 := by
  unfold f_run
  by_cases c1 : P_in p1 0 2000
  · rw [if_pos c1]
    have h0 := h.thr (v := 0)
    obtain ⟨a1, a2, a3, a4, a5, a6, a7, a8, a9⟩ := h0
    have h9 := run_pt (M := sI M 0 0) (d := p1) (y := p2) a9.1.1 (mI M 39).toNatClampNeg (Nat.le_refl _)
    generalize (it_run p1 p2 (sI M 0 0) (mI M 39).toNatClampNeg).2 = N at *
    have f : FrM [] [44] [55, 54, 2] (sI M 0 0) N := FrM.rfl'.of h9.1 (by decide) (by decide)
    exact ⟨a1.fr f (by decide), a2.fr f (by decide) (by decide) (by decide) (by decide) (by decide), a3.fr f (by decide) (by decide) (by decide), a4.fr f (by decide) (by decide) (by decide) (by decide), a5.fr f (by decide) (by decide) (by decide) (by decide) (by decide), a6.fr f (by decide), a7.fr f (by decide) (by decide) (by decide) (by decide) (by decide), a8.fr f (by decide) (by decide) (by decide) (by decide) (by decide), MIv.s44 a9 f (by decide) (by decide) (by decide) (by decide) h9.2.1 (fun i => Or.inl (f.2.1 53 (by decide) i)) h9.2.2⟩
  · rw [if_neg c1]; exact h.thr
def MI0 (M : MS) : Prop := (cnt M 39 ≤ 60 ∧ mI M 39 = nI (cnt M 39)) ∧ (∀ i, i < cnt M 39 → GK M i) ∧ (∀ i, cnt M 39 ≤ i → (gn M 44 i = 0 ∧ gn M 45 i = 0 ∧ gn M 51 i = 0 ∧ gn M 53 i = 0) ∧ gl M 46 i = 0 ∧ gl M 47 i = 0 ∧ gl M 54 i = 0 ∧ gl M 55 i = 0)
/-- all but: what is held is held for a reason -/
def MV0 (M : MS) : Prop := MDay M ∧ MPe M ∧ MZe M ∧ MSu M ∧ MCa M ∧ MTr M ∧ MRq M ∧ MLn M ∧ MI0 M
theorem MV.to0 {M : MS} (h : MV M) : MV0 M := ⟨h.1, h.2.1, h.2.2.1, h.2.2.2.1, h.2.2.2.2.1, h.2.2.2.2.2.1, h.2.2.2.2.2.2.1, h.2.2.2.2.2.2.2.1, ⟨h.2.2.2.2.2.2.2.2.1, h.2.2.2.2.2.2.2.2.2.1, h.2.2.2.2.2.2.2.2.2.2.1⟩⟩
theorem MV0.of {M : MS} (h : MV0 M) (hw : MWh M) : MV M := ⟨h.1, h.2.1, h.2.2.1, h.2.2.2.1, h.2.2.2.2.1, h.2.2.2.2.2.1, h.2.2.2.2.2.2.1, h.2.2.2.2.2.2.2.1, ⟨h.2.2.2.2.2.2.2.2.1, h.2.2.2.2.2.2.2.2.2.1, h.2.2.2.2.2.2.2.2.2.2, hw⟩⟩
theorem fr_gn {q : Int32} {v : Int64} {M : MS} : (f_frees q v M).2.2.2.1 = M.2.2.1 := by
  unfold f_frees
  split <;> split <;> rfl
theorem bk_pt {M : MS} {p : Int32} : (∀ j i, i ≠ p.toNatClampNeg → gn (f_books p M) j i = gn M j i) ∧ (∀ j i, j ≠ 2 → j ≠ 11 → j ≠ 19 → i ≠ p.toNatClampNeg → gl (f_books p M) j i = gl M j i) ∧ gn (f_books p M) 44 p.toNatClampNeg = 1 ∧ gn (f_books p M) 49 p.toNatClampNeg = mI M 1 := by
  have key : ∀ (b t : Int32) (x c o y z o2 : Int64) (du q : Int32) (v : Int64) (i0 : Int32) (u : Int64), (∀ j i, i ≠ p.toNatClampNeg → gn (rJ (rJ (rJ (f_frees q v (rJ (rI (rI (rI (rJ (rJ (rJ (rI (rI M 52 p b) 51 p t) 46 p x) 47 p c) 48 p o) 49 p (mI M 1)) 50 p du) 44 p 1) 11 i0 u)).2 2 0 y) 2 3 z) 2 1 o2) j i = gn M j i) ∧ (∀ j i, j ≠ 2 → j ≠ 11 → j ≠ 19 → i ≠ p.toNatClampNeg → gl (rJ (rJ (rJ (f_frees q v (rJ (rI (rI (rI (rJ (rJ (rJ (rI (rI M 52 p b) 51 p t) 46 p x) 47 p c) 48 p o) 49 p (mI M 1)) 50 p du) 44 p 1) 11 i0 u)).2 2 0 y) 2 3 z) 2 1 o2) j i = gl M j i) ∧ gn (rJ (rJ (rJ (f_frees q v (rJ (rI (rI (rI (rJ (rJ (rJ (rI (rI M 52 p b) 51 p t) 46 p x) 47 p c) 48 p o) 49 p (mI M 1)) 50 p du) 44 p 1) 11 i0 u)).2 2 0 y) 2 3 z) 2 1 o2) 44 p.toNatClampNeg = 1 ∧ gn (rJ (rJ (rJ (f_frees q v (rJ (rI (rI (rI (rJ (rJ (rJ (rI (rI M 52 p b) 51 p t) 46 p x) 47 p c) 48 p o) 49 p (mI M 1)) 50 p du) 44 p 1) 11 i0 u)).2 2 0 y) 2 3 z) 2 1 o2) 49 p.toNatClampNeg = mI M 1 := fun b t x c o y z o2 du q v i0 u => by
    have e1 : ∀ (K : MS) j i, gn (rJ (rJ (rJ (f_frees q v K).2 2 0 y) 2 3 z) 2 1 o2) j i = gn K j i := fun K j i => congrFun (congrFun fr_gn j) i
    refine ⟨fun j i hi => ?_, fun j i h2 h11 h19 hi => ?_, ?_, ?_⟩
    · rw [e1]
      show gn (rI (rI (rI (rI (rI M 52 p b) 51 p t) 49 p (mI M 1)) 50 p du) 44 p 1) j i = gn M j i
      rw [gn_rI, if_neg (fun w => hi w.2), gn_rI, if_neg (fun w => hi w.2), gn_rI, if_neg (fun w => hi w.2), gn_rI, if_neg (fun w => hi w.2), gn_rI, if_neg (fun w => hi w.2)]
    · rw [gl_rJn h2, gl_rJn h2, gl_rJn h2, (Fr.frees (A := []) (B := [19, 11]) Fr.rfl' (by decide) (by decide)).2.2.2 j (by simp; omega) i, gl_rJn h11]
      show gl (rJ (rJ (rJ M 46 p x) 47 p c) 48 p o) j i = gl M j i
      rw [gl_rJ, if_neg (fun w => hi w.2), gl_rJ, if_neg (fun w => hi w.2), gl_rJ, if_neg (fun w => hi w.2)]
    · rw [e1]
      show gn (rI (rI (rI (rI (rI M 52 p b) 51 p t) 49 p (mI M 1)) 50 p du) 44 p 1) 44 _ = 1
      rw [gn_rI, if_pos ⟨rfl, rfl⟩]
    · rw [e1]
      show gn (rI (rI (rI (rI (rI M 52 p b) 51 p t) 49 p (mI M 1)) 50 p du) 44 p 1) 49 _ = _
      rw [gn_rIn (by decide), gn_rIn (by decide), gn_rI, if_pos ⟨rfl, rfl⟩]
  unfold f_books
  split
  · exact key _ _ _ _ _ _ _ _ _ _ _ _ _
  · exact key _ _ _ _ _ _ _ _ _ _ _ _ _
theorem MRq.dn {A B : List Nat} {M M' : MS} (h : MRq M) (f : FrM [] A B M M') (hA : ∀ j, j ∈ [4, 5, 15, 16, 17, 18, 20, 21, 23, 24, 25, 26, 28, 29] → j ∉ A) (hd : DN M M') (h22 : 22 ∉ B) : MRq M' := by
  obtain ⟨a1, a2, a3⟩ := h
  refine ⟨by rw [f.c (by decide), f.1 14 (by decide)]; exact a1, fun r hr => ?_, fun i hi => ?_⟩
  · rw [f.c (by decide)] at hr
    have hr40 : r < 40 := by omega
    exact (a2 r hr).pt hr40 (pp_same (f.1 3 (by decide)) (f.2.1 4 (hA 4 (by decide))) (f.2.1 5 (hA 5 (by decide)))) (fun j hj => f.2.1 j (hA j (by revert hj; revert j; decide)) r) (fun j hj => f.2.1 23 (hA 23 (by decide)) _) (fun l hl => ⟨f.2.1 28 (hA 28 (by decide)) _, f.2.1 29 (hA 29 (by decide)) _⟩) (hd r ((a2 r hr).n19 hr40))
  · rw [f.c (by decide)] at hi
    obtain ⟨b1, b2, b3⟩ := a3 i hi
    rw [f.2.1 17 (hA 17 (by decide)), f.2.1 18 (hA 18 (by decide)), f.2.1 24 (hA 24 (by decide)), f.2.1 25 (hA 25 (by decide)), f.2.2 22 h22]
    have h9 := hd i (by rw [b2]; exact Int64.le_refl _)
    rw [b2] at h9
    exact ⟨b1, Int64.le_antisymm h9.2 h9.1, b3⟩
theorem i41_of {M : MS} (h : MI0 M) : ∀ v, P_isInvoice v M → P_in (gI M 41 v) 1 99 := fun v hv => by
  obtain ⟨i, hi, e⟩ := iv_of h.1 hv
  have h60 := h.1.1
  rw [e, gI_n, nI_clamp (by omega)]
  exact (h.2.1 i hi).2.2.1
theorem nI_inj {a b : Nat} (ha : a < 2 ^ 30) (hb : b < 2 ^ 30) (h : nI a = nI b) : a = b := by
  have := congrArg Int32.toNatClampNeg h
  rw [nI_clamp (by omega), nI_clamp (by omega)] at this
  exact this
/-- an invoice is booked -/
theorem mv0_books {M : MS} {i0 : Nat} (h : MV0 M) (hi0 : i0 < cnt M 39) (h44 : gn M 44 i0 = 0) : MV0 (f_books (nI i0) M) ∧ (∀ i, i < cnt M 39 → i ≠ i0 → ¬ f_why (nI i) M = 0 → ¬ f_why (nI i) (f_books (nI i0) M) = 0) ∧ (∀ i, i ≠ i0 → gn (f_books (nI i0) M) 44 i = gn M 44 i) ∧ gn (f_books (nI i0) M) 44 i0 = 1 := by
  obtain ⟨a1, a2, a3, a4, a5, a6, a7, a8, a9⟩ := h
  have h60 := a9.1.1
  have cl : (nI i0).toNatClampNeg = i0 := nI_clamp (by omega)
  have fr := fr_books (p := nI i0) (M := M)
  have dn := dn_books (p := nI i0) (M := M)
  obtain ⟨p1, p2, p3, p4⟩ := bk_pt (p := nI i0) (M := M)
  rw [cl] at p1 p2 p3 p4
  generalize f_books (nI i0) M = N at *
  have f : FrM [] BkA BkB M N := FrM.rfl'.of fr (fun j hj => hj) (fun j hj => hj)
  have fbs := fun q => (fb_set (q := q) (p := i0) (M := M) (M' := N) (f.1 39 (by decide)) h60 (f.2.1 40 (by decide)) (f.2.1 41 (by decide)) (fun i hi => p1 44 i hi) h44 (by rw [p3]; decide) hi0).1
  have h41 := i41_of a9
  refine ⟨⟨a1.fr f (by decide), a2.fr f (by decide) (by decide) (by decide) (by decide) (by decide), a3.fr f (by decide) (by decide) (by decide), a4.fr f (by decide) (by decide) (by decide) (by decide), a5.fr f (by decide) (by decide) (by decide) (by decide) (by decide), a6.fr f (by decide), a7.dn f (by decide) dn (by decide), a8.fr f (by decide) (by decide) (by decide) (by decide) (by decide), ?_⟩, fun i hi hne hw => ?_, fun i hi => p1 44 i hi, p3⟩
  · obtain ⟨b1, b2, b3⟩ := a9
    refine ⟨by rw [f.c (by decide), f.1 39 (by decide)]; exact b1, fun i hi => ?_, fun i hi => ?_⟩
    · rw [f.c (by decide)] at hi
      have h9 := b2 i hi
      refine ⟨?_, ?_, ?_, ?_, fun z => ?_⟩
      · rw [f.d9 (by decide) (by decide), f.2.1 40 (by decide)]; exact h9.1
      · rw [f.2.1 40 (by decide), f.2.1 17 (by decide)]; exact h9.2.1
      · rw [f.2.1 41 (by decide)]; exact h9.2.2.1
      · rw [f.2.1 53 (by decide)]; exact h9.2.2.2.1
      · by_cases y : i = i0
        · obtain ⟨d, hd, ed⟩ := a1
          rw [y, p4, ed]
          exact ⟨nI_pos' (by omega), show nI d ≤ nI 1079 from nI_le (by omega) (by decide)⟩
        · rw [p1 44 i y] at z
          rw [p1 49 i y]
          exact h9.2.2.2.2 z
    · rw [f.c (by decide)] at hi
      have y : i ≠ i0 := by omega
      rw [p1 44 i y, p1 45 i y, p1 51 i y, p1 53 i y, p2 46 i (by decide) (by decide) (by decide) y, p2 47 i (by decide) (by decide) (by decide) y, p2 54 i (by decide) (by decide) (by decide) y, p2 55 i (by decide) (by decide) (by decide) y]
      exact b3 i hi
  · intro z
    apply hw
    rw [why0] at z ⊢
    have ci : (nI i).toNatClampNeg = i := nI_clamp (by omega)
    have e40 : gI N 40 (nI i) = gI M 40 (nI i) := f.i (by decide) _
    have e41 : gI N 41 (nI i) = gI M 41 (nI i) := f.i (by decide) _
    have em : mst N (nI i) = mst M (nI i) := by
      unfold mst
      rw [e40, f.i (j := 27) (by decide), f.i (j := 30) (by decide), f.i (j := 28) (by decide)]
    have ed : dear N (nI i) ↔ dear M (nI i) := by
      unfold dear
      rw [e40, e41, f.i (j := 45) (by decide), f.i (j := 29) (by decide), f.j (j := 43) (by decide)]
    rw [em, ed, e41, e40, fbs] at z
    refine ⟨?_, z.2⟩
    have z1 := z.1
    have hb := booked_bd h60 a9.1.2 h41 (q := gI M 40 (nI i))
    have hp := in_int (h41 (nI i) (inv_n h60 a9.1.2 hi))
    have hp0 := in_int (h41 (nI i0) (inv_n h60 a9.1.2 hi0))
    rw [gI_n, cl] at hp0
    rw [show (1 : Int32).toInt = 1 from by decide, show (99 : Int32).toInt = 99 from by decide] at hp hp0
    split at z1
    · rw [Int32.le_iff_toInt_le] at z1 ⊢
      rw [w_a32 (x := gI M 41 (nI i)) rfl (w_a32 (x := f_bookedPieces (gI M 40 (nI i)) M) (y := gn M 41 i0) rfl rfl (by omega) (by omega)) (by omega) (by omega)] at z1
      rw [w_a32 (x := gI M 41 (nI i)) (y := f_bookedPieces (gI M 40 (nI i)) M) rfl rfl (by omega) (by omega)]
      omega
    · rw [Int32.add_zero] at z1
      exact z1
/-- the lines of one order line are looked at again -/
theorem mv_look {M : MS} {q : Int32} (h : MV0 M) (hw : ∀ i, i < cnt M 39 → gn M 40 i ≠ q → gn M 44 i = 0 → ¬ f_why (nI i) M = 0) : MV (f_looksAgain q M).2 := by
  have h60 := h.2.2.2.2.2.2.2.2.1.1
  have key : ∀ n, n ≤ cnt M 39 → MV0 (it_looksAgain q M n).2 ∧ ∀ i, i < cnt M 39 → (i < n ∨ gn M 40 i ≠ q) → gn (it_looksAgain q M n).2 44 i = 0 → ¬ f_why (nI i) (it_looksAgain q M n).2 = 0 := fun n => by
    induction n with
    | zero => exact fun _ => ⟨h, fun i hi hn => hw i hi (hn.resolve_left (Nat.not_lt_zero _))⟩
    | succ n ih =>
      intro hn
      obtain ⟨i1, i2⟩ := ih (by omega)
      have fr := (it_look_fr (q := q) (M := M) n).1
      have ec : cnt (it_looksAgain q M n).2 39 = cnt M 39 := congrArg (fun z => (z 39).toNatClampNeg) fr.1
      have g40 : ∀ i, gn (it_looksAgain q M n).2 40 i = gn M 40 i := fun i => fr.2.2.1 40 (by decide) i
      have cl : (nI n).toNatClampNeg = n := nI_clamp (by omega)
      show MV0 (st_looksAgain q (nI n) (it_looksAgain q M n).1 (it_looksAgain q M n).2).2 ∧ ∀ i, i < cnt M 39 → (i < n + 1 ∨ gn M 40 i ≠ q) → gn (st_looksAgain q (nI n) (it_looksAgain q M n).1 (it_looksAgain q M n).2).2 44 i = 0 → ¬ f_why (nI i) (st_looksAgain q (nI n) (it_looksAgain q M n).1 (it_looksAgain q M n).2).2 = 0
      generalize (it_looksAgain q M n).2 = N at *
      generalize (it_looksAgain q M n).1 = a
      unfold st_looksAgain
      by_cases c1 : gI N 40 (nI n) = q
      · rw [if_pos c1]
        by_cases c2 : gI N 44 (nI n) = 0
        · rw [if_pos c2]
          by_cases c3 : f_why (nI n) N = 0
          · rw [if_pos c3]
            obtain ⟨b1, b2, b3, b4⟩ := mv0_books i1 (i0 := n) (by omega) (by rw [← c2, gI_n, cl])
            refine ⟨b1, fun i hi hn2 h0 => ?_⟩
            have hne : i ≠ n := fun z => by
              have h0' : gn (f_books (nI n) N) 44 i = 0 := h0
              rw [z, b4] at h0'
              exact absurd h0' (by decide)
            exact b2 i (by omega) hne (i2 i hi (hn2.imp (fun z => by omega) id) ((b3 i hne).symm.trans h0))
          · rw [if_neg c3]
            refine ⟨i1, fun i hi hn2 h0 => ?_⟩
            by_cases z : i = n
            · rw [z]; exact c3
            · exact i2 i hi (hn2.imp (fun z => by omega) id) h0
        · rw [if_neg c2]
          refine ⟨i1, fun i hi hn2 h0 => ?_⟩
          by_cases z : i = n
          · rw [z] at h0
            exact absurd (show gI N 44 (nI n) = 0 by rw [gI_n, cl]; exact h0) c2
          · exact i2 i hi (hn2.imp (fun z => by omega) id) h0
      · rw [if_neg c1]
        refine ⟨i1, fun i hi hn2 h0 => ?_⟩
        by_cases z : i = n
        · refine i2 i hi (Or.inr (fun y => c1 ?_)) h0
          rw [gI_n, cl, g40, ← z]
          exact y
        · exact i2 i hi (hn2.imp (fun z => by omega) id) h0
  have h9 := key (cnt M 39) (Nat.le_refl _)
  have fr := (it_look_fr (q := q) (M := M) (cnt M 39)).1
  have ec : cnt (it_looksAgain q M (cnt M 39)).2 39 = cnt M 39 := congrArg (fun z => (z 39).toNatClampNeg) fr.1
  exact MV0.of h9.1 (fun i hi h0 => h9.2 i (by rw [← ec]; exact hi) (Or.inl (by rw [← ec]; exact hi)) h0)
