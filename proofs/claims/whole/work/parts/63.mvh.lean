theorem MI0.fr {C A B : List Nat} {M M' : MS} (h : MI0 M) (f : FrM C A B M M') (h14 : 14 ∉ C) (h39 : 39 ∉ C) (hA : ∀ j, j ∈ [17, 18, 40, 41, 44, 45, 49, 51, 53] → j ∉ A) (hB : ∀ j, j ∈ [46, 47, 54, 55] → j ∉ B) : MI0 M' := by
  have k := fun j hj => f.2.1 j (hA j hj)
  have kB := fun j hj => f.2.2 j (hB j hj)
  obtain ⟨a1, a2, a3⟩ := h
  refine ⟨by rw [f.c h39, f.1 39 h39]; exact a1, ?_, ?_⟩
  · unfold GK
    simp only [f.c h39, f.d9 h14 (hA 18 (by decide)), k 40 (by decide), k 17 (by decide), k 41 (by decide), k 53 (by decide), k 44 (by decide), k 49 (by decide)]
    exact a2
  · simp only [f.c h39, k 44 (by decide), k 45 (by decide), k 51 (by decide), k 53 (by decide), kB 46 (by decide), kB 47 (by decide), kB 54 (by decide), kB 55 (by decide)]
    exact a3
theorem MV.cc {M : MS} (h : MV M) : (cnt M 39 ≤ 60 ∧ mI M 39 = nI (cnt M 39)) ∧ cnt M 14 ≤ 40 := ⟨h.2.2.2.2.2.2.2.2.1, h.2.2.2.2.2.2.1.1.1⟩
/-- after one line alone was written, the invoices of other lines are held as before -/
theorem mv_wo {C A B : List Nat} {M N : MS} {Q : Nat} (h : MV M) (f : FrM C A B M N) (h39 : 39 ∉ C) (hA : ∀ j, j ∈ [40, 41, 44, 45] → j ∉ A) (hB : 43 ∉ B) (hl : ∀ q, q ≠ Q → ∀ j, j ∈ [27, 28, 29, 30] → gn N j q = gn M j q) : ∀ i, i < cnt N 39 → gn N 40 i ≠ nI Q → gn N 44 i = 0 → ¬ f_why (nI i) N = 0 := fun i hi hne h0 => by
  obtain ⟨a1, a2, a3, a4, a5, a6, a7, a8, b1, b2, b3, b4⟩ := h
  rw [f.c h39] at hi
  rw [f.2.1 40 (hA 40 (by decide))] at hne
  rw [f.2.1 44 (hA 44 (by decide))] at h0
  have h40 := a7.1.1
  have h60 := b1.1
  obtain ⟨⟨hd, e⟩, -⟩ := b2 i hi
  have hq : (gn M 40 i).toNatClampNeg < 2 ^ 30 := by
    have h8 : (gn M 40 i).toNatClampNeg / 4 < cnt M 14 := hd.1
    omega
  have ci : (nI i).toNatClampNeg = i := nI_clamp (by omega)
  rw [why_pt (M := M) (q := (gn M 40 i).toNatClampNeg) (by rw [gI_n, ci]; exact e.symm) hq (f.i (hA 40 (by decide)) _) (hl _ (fun z => hne (by rw [← z]; exact e.symm))) (fun j hj => f.i (hA j (by revert hj; revert j; decide)) _) (f.j hB _) (fb_cg (M := M) (f.1 39 h39) (fun i => f.2.1 40 (hA 40 (by decide)) i) (fun i => f.2.1 41 (hA 41 (by decide)) i) (fun i => f.2.1 44 (hA 44 (by decide)) i)).1]
  exact b4 i hi h0
theorem mv_rec {M : MS} {p1 p2 v : Int32} (h : MV M) (c1 : P_isLine p1 p2 M) (hv : P_in v 0 99) : MV (f_looksAgain (4 * p1 + p2) (rI (sI M 0 0) 30 (4 * p1 + p2) v)).2 := by
  have hM := h
  obtain ⟨a1, a2, a3, a4, a5, a6, a7, a8, a9⟩ := h
  obtain ⟨r0, hr0, er⟩ := rq_of a7.1 c1.1
  have h40 := a7.1.1
  have hk := a7.2.1 r0 hr0
  obtain ⟨j0, hj0, ix, hd0⟩ := ln_of (by omega) hr0 er (hk.e18 (by omega)) c1.2
  rw [ix]
  have f : FrM [0] [30] [] M (rI (sI M 0 0) 30 (nI (4 * r0 + j0)) v) := (FrM.rfl'.cI (by decide)).rI (by decide)
  have g30 : ∀ i, gn (rI (sI M 0 0) 30 (nI (4 * r0 + j0)) v) 30 i = if i = 4 * r0 + j0 then v else gn M 30 i := fun i => by
    rw [gn_rI, nI_clamp (by omega)]
    by_cases z : i = 4 * r0 + j0
    · rw [if_pos ⟨rfl, z⟩, if_pos z]
    · rw [if_neg (fun y => z y.2), if_neg z]; rfl
  generalize rI (sI M 0 0) 30 (nI (4 * r0 + j0)) v = N at *
  refine mv_look ⟨a1.fr f (by decide), a2.fr f (by decide) (by decide) (by decide) (by decide) (by decide), a3.fr f (by decide) (by decide) (by decide), a4.fr f (by decide) (by decide) (by decide) (by decide), a5.fr f (by decide) (by decide) (by decide) (by decide) (by decide), a6.fr f (by decide), a7.fr f (by decide) (by decide) (by decide) (by decide) (by decide), ⟨fun q hq => ?_, fun q hq => ?_⟩, hM.to0.2.2.2.2.2.2.2.2.fr f (by decide) (by decide) (by decide) (by decide)⟩ (mv_wo (Q := 4 * r0 + j0) hM f (by decide) (by decide) (by decide) (fun q hq j hj => ?_))
  · have h9 := a8.1 q ((f.d9 (by decide) (by decide)).mp hq)
    rw [f.2.1 28 (by decide), f.2.1 29 (by decide), g30]
    by_cases z : q = 4 * r0 + j0
    · rw [if_pos z]; exact ⟨h9.1, h9.2.1, hv⟩
    · rw [if_neg z]; exact h9
  · have hq' : ¬ dm M 9 q := fun z => hq ((f.d9 (by decide) (by decide)).mpr z)
    rw [g30, if_neg (show ¬ q = 4 * r0 + j0 from fun z => hq' (by rw [z]; exact hd0))]
    exact a8.2 q hq'
  · by_cases z : j = 30
    · rw [z, g30, if_neg hq]
    · exact f.2.1 j (by simpa using z) q
theorem in_099 {M : MS} {p1 p2 v : Int32} (h : MV M) (c1 : P_isLine p1 p2 M) (hv : P_in v (f_bookedPieces (4 * p1 + p2) M) (gI M 28 (4 * p1 + p2))) : P_in v 0 99 := by
  obtain ⟨a1, a2, a3, a4, a5, a6, a7, a8, a9⟩ := h.to0
  obtain ⟨r0, hr0, er⟩ := rq_of a7.1 c1.1
  have h40 := a7.1.1
  have hk := a7.2.1 r0 hr0
  obtain ⟨j0, hj0, ix, hd0⟩ := ln_of (by omega) hr0 er (hk.e18 (by omega)) c1.2
  have hb := booked_bd a9.1.1 a9.1.2 (i41_of a9) (q := 4 * p1 + p2)
  have h9 := in_int (a8.1 _ hd0).1
  have hi := in_int hv
  rw [show gI M 28 (4 * p1 + p2) = gn M 28 (4 * r0 + j0) by rw [ix, gI_n, nI_clamp (by omega)]] at hi
  constructor
  · rw [Int32.le_iff_toInt_le, show (0 : Int32).toInt = 0 from by decide]; omega
  · rw [Int32.le_iff_toInt_le]; omega
theorem mv_recD {M : MS} {p1 p2 p3 : Int32} (h : MV M) (c1 : P_isLine p1 p2 M) (hP : P_in p3 (-99) 99) (h0 : p3 ≤ 0) (hv : P_in (gI M 30 (4 * p1 + p2) + p3) (f_bookedPieces (4 * p1 + p2) M) (gI M 28 (4 * p1 + p2))) : MV (rI (sI M 0 0) 30 (4 * p1 + p2) (gI M 30 (4 * p1 + p2) + p3)) := by
  have h9 := mv_rec h c1 (in_099 h c1 hv)
  obtain ⟨a1, a2, a3, a4, a5, a6, a7, a8, b1, b2, b3, b4⟩ := h
  obtain ⟨r0, hr0, er⟩ := rq_of a7.1 c1.1
  have h40 := a7.1.1
  have hk := a7.2.1 r0 hr0
  obtain ⟨j0, hj0, ix, hd0⟩ := ln_of (by omega) hr0 er (hk.e18 (by omega)) c1.2
  have e := look_down (M := sI M 0 0) (q := 4 * p1 + p2) (p := p3) b1.1 b1.2 (fun v hv h44 => by
    obtain ⟨i, hi, e⟩ := iv_of b1 hv
    have h60 := b1.1
    rw [why_0, e]
    refine b4 i hi ?_
    rw [← show gI M 44 v = gn M 44 i by rw [e, gI_n, nI_clamp (by omega)]]
    exact h44) (by
    show P_in (gI M 30 (4 * p1 + p2)) 0 99
    rw [ix, gI_n, nI_clamp (by omega)]
    exact (a8.1 _ hd0).2.2) hP h0
  rw [show (f_looksAgain (4 * p1 + p2) (rI (sI M 0 0) 30 (4 * p1 + p2) (gI M 30 (4 * p1 + p2) + p3))) = _ from e] at h9
  exact h9

theorem mv_receive {M : MS} {p1 : Int32} {p2 : Int32} {p3 : Int32} (h : MV M) : MV (f_receive p1 p2 p3 M).2 := by
  unfold f_receive
  by_cases c1 : P_isLine p1 p2 M
  · rw [if_pos c1]
    by_cases c2 : P_in p3 (-99) 99
    · rw [if_pos c2]
      by_cases c3 : (gI M 17 p1) = 4
      · rw [if_pos c3]
        by_cases c4 : (gI M 27 ((4 * p1) + p2)) = 0
        · rw [if_pos c4]
          by_cases c5 : P_in ((gI M 30 ((4 * p1) + p2)) + p3) (f_bookedPieces ((4 * p1) + p2) M) (gI M 28 ((4 * p1) + p2))
          · rw [if_pos c5]
            rw [if_pos c2]
            by_cases c6 : p3 = 0
            · rw [if_pos c6]
              exact h.thr
            · rw [if_neg c6]
              by_cases c7 : p3 ≤ 0
              · rw [if_pos c7]
                exact mv_recD h c1 c2 c7 c5
              · rw [if_neg c7]
                exact mv_rec h c1 (in_099 h c1 c5)
          · rw [if_neg c5]
            rw [if_pos c2]
            by_cases c8 : p3 = 0
            · rw [if_pos c8]
              exact h.thr
            · rw [if_neg c8]
              exact h.thr
        · rw [if_neg c4]
          rw [if_pos c2]
          by_cases c9 : p3 = 0
          · rw [if_pos c9]
            exact h.thr
          · rw [if_neg c9]
            exact h.thr
      · rw [if_neg c3]
        rw [if_pos c2]
        by_cases c10 : p3 = 0
        · rw [if_pos c10]
          exact h.thr
        · rw [if_neg c10]
          exact h.thr
    · rw [if_neg c2]
      by_cases c11 : (gI M 17 p1) = 4
      · rw [if_pos c11]
        by_cases c12 : (gI M 27 ((4 * p1) + p2)) = 0
        · rw [if_pos c12]
          by_cases c13 : P_in ((gI M 30 ((4 * p1) + p2)) + 0) (f_bookedPieces ((4 * p1) + p2) M) (gI M 28 ((4 * p1) + p2))
          · rw [if_pos c13]
            rw [if_neg c2]
            exact h.thr
          · rw [if_neg c13]
            rw [if_neg c2]
            exact h.thr
        · rw [if_neg c12]
          rw [if_neg c2]
          exact h.thr
      · rw [if_neg c11]
        rw [if_neg c2]
        exact h.thr
  · rw [if_neg c1]
    by_cases c14 : P_in p3 (-99) 99
    · rw [if_pos c14]
      exact h.thr
    · rw [if_neg c14]
      exact h.thr
/-- the total in whole numbers -/
def smT (a b : Nat → Int) : Nat → Int
  | 0 => 0
  | n + 1 => smT a b n + a n * b n
theorem smT_ch {a a' b : Nat → Int} {j : Nat} (h : ∀ i, i ≠ j → a' i = a i) : ∀ n, smT a' b n = smT a b n + if j < n then (a' j - a j) * b j else 0
  | 0 => by rw [if_neg (Nat.not_lt_zero _)]; rfl
  | n + 1 => by
    show smT a' b n + a' n * b n = smT a b n + a n * b n + _
    rw [smT_ch h n]
    by_cases e : n = j
    · rw [e, if_neg (Nat.lt_irrefl _), if_pos (Nat.lt_succ_self _), Int.sub_mul]
      omega
    · rw [h n e]
      by_cases c : j < n
      · rw [if_pos c, if_pos (by omega)]; omega
      · rw [if_neg c, if_neg (by omega)]; omega
theorem tot_sm {M : MS} {r n : Nat} (hL : ∀ j, j < n → P_in (gn M 28 (4 * r + j)) 1 99 ∧ P_in (gn M 29 (4 * r + j)) 1 100000) (hr : r < 40) (hn : n ≤ 4) (e : gn M 18 r = nI n) : (f_total (nI r) M).toInt = smT (fun l => (gn M 28 (4 * r + l)).toInt) (fun l => (gn M 29 (4 * r + l)).toInt) n ∧ 0 ≤ (f_total (nI r) M).toInt ∧ (f_total (nI r) M).toInt ≤ 39600000 := by
  have key : ∀ i, i ≤ n → (it_total (nI r) M i).toInt = smT (fun l => (gn M 28 (4 * r + l)).toInt) (fun l => (gn M 29 (4 * r + l)).toInt) i ∧ 0 ≤ (it_total (nI r) M i).toInt ∧ (it_total (nI r) M i).toInt ≤ 9900000 * i := fun i => by
    induction i with
    | zero => exact fun _ => ⟨by show (0 : Int64).toInt = 0; decide, by show 0 ≤ (0 : Int64).toInt; decide, by show (0 : Int64).toInt ≤ 9900000 * ((0 : Nat) : Int); decide⟩
    | succ i ih =>
      intro hi
      obtain ⟨i0, i1, i2⟩ := ih (by omega)
      have h9 := hL i (by omega)
      have p1 := in_int h9.1
      have p2 := in_int h9.2
      rw [show (1 : Int32).toInt = 1 from by decide, show (99 : Int32).toInt = 99 from by decide] at p1
      rw [show (1 : Int32).toInt = 1 from by decide, show (100000 : Int32).toInt = 100000 from by decide] at p2
      have q1 := mul_bd (a := (gn M 28 (4 * r + i)).toInt) (b := (gn M 29 (4 * r + i)).toInt) (A := 99) (B := 100000) (by omega) p1.2 (by omega) p2.2
      have m := w_m64 (x := (gn M 28 (4 * r + i)).toInt64) (y := (gn M 29 (4 * r + i)).toInt64) (Int32.toInt_toInt64 _) (Int32.toInt_toInt64 _) (by omega) (by omega)
      have es : it_total (nI r) M (i + 1) = it_total (nI r) M i + (gn M 28 (4 * r + i)).toInt64 * (gn M 29 (4 * r + i)).toInt64 := by
        show st_total (nI r) M (4 * nI r + nI i) (it_total (nI r) M i) = _
        unfold st_total
        rw [show (4 : Int32) * nI r + nI i = nI (4 * r + i) by rw [show (4 : Int32) = nI 4 from rfl, pk_mul, nI_add], gI_n, gI_n, nI_clamp (by omega)]
      have ea := w_a64 (x := it_total (nI r) M i) rfl m (by omega) (by omega)
      rw [es, ea]
      refine ⟨by rw [i0]; rfl, by omega, by omega⟩
  unfold f_total
  rw [gI_n, nI_clamp (by omega), e, nI_clamp (by omega)]
  have h9 := key n (Nat.le_refl _)
  exact ⟨h9.1, h9.2.1, by omega⟩
theorem ff_val {M : MS} {p : Int32} {v : Int64} (hc : 0 ≤ gJ M 19 p) (hv : 0 ≤ v) : 0 ≤ (gJ (f_frees p v M).2 19 p).toInt ∧ ((gJ (f_frees p v M).2 19 p).toInt = 0 ∨ (gJ (f_frees p v M).2 19 p).toInt = (gJ M 19 p).toInt - v.toInt) := by
  have c0 := Int64.le_iff_toInt_le.mp hc
  have v0 := Int64.le_iff_toInt_le.mp hv
  rw [show (0 : Int64).toInt = 0 from by decide] at c0 v0
  have cl := Int64.toInt_lt (gJ M 19 p)
  by_cases a : 0 ≤ lg_cmp v (gJ M 19 p)
  · have e : (f_frees p v M).2 = (f_frees p (gJ M 19 p) M).2 := by
      unfold f_frees
      rw [if_pos a, if_pos (show 0 ≤ lg_cmp (gJ M 19 p) (gJ M 19 p) by rw [lg_cmp_ge]; exact Int64.le_refl _)]
    rw [e, ff_all hc]
    exact ⟨by decide, Or.inl (by decide)⟩
  · have a' := a
    rw [lg_cmp_ge] at a'
    have a2 := Int64.lt_iff_toInt_lt.mp (Int64.not_le.mp a')
    unfold f_frees
    rw [if_neg a]
    by_cases b : lg_cmp v 0 ≤ 0
    · rw [if_pos b]
      rw [lg_cmp_le] at b
      have b2 := Int64.le_iff_toInt_le.mp b
      rw [show (0 : Int64).toInt = 0 from by decide] at b2
      exact ⟨c0, Or.inr (by show (gJ M 19 p).toInt = _; omega)⟩
    · rw [if_neg b]
      show 0 ≤ (gJ (f_commits p (-v) M) 19 p).toInt ∧ ((gJ (f_commits p (-v) M) 19 p).toInt = 0 ∨ (gJ (f_commits p (-v) M) 19 p).toInt = (gJ M 19 p).toInt - v.toInt)
      have e : gJ (f_commits p (-v) M) 19 p = gJ M 19 p - v := by
        unfold f_commits
        rw [gJ_rJn rfl, gJ_rJs, ← Int64.sub_eq_add_neg]
      rw [e, w_s64 (x := gJ M 19 p) (y := v) rfl rfl (by omega) (by omega)]
      exact ⟨by omega, Or.inr rfl⟩
theorem cmt19 {p : Int32} {v : Int64} {M : MS} {i : Nat} (h : i ≠ p.toNatClampNeg) : gl (f_commits p v M) 19 i = gl M 19 i := by
  unfold f_commits
  rw [gl_rJn (by decide), gl_rJ, if_neg (fun z => h z.2)]
/-- a line is changed: what is committed follows -/
theorem mv_chg {M N : MS} {p1 p2 p3 : Int32} {mo : Int64} (h : MV M) (c1 : P_isLine p1 p2 M) (c2 : P_in p3 1 99) (c4 : gI M 17 p1 = 4) (em : mo = (p3 - gI M 28 (4 * p1 + p2)).toInt64 * (gI M 29 (4 * p1 + p2)).toInt64) (f : FrM [0] [28] [11, 19] M N) (g28 : N.2.2.1 = (rI (sI M 0 0) 28 (4 * p1 + p2) p3).2.2.1) (g19 : ∀ i, i ≠ p1.toNatClampNeg → gl N 19 i = gl M 19 i) (hv : 0 ≤ gJ M 19 p1 → (gJ M 19 p1).toInt ≤ 39600000 → mo.toInt ≤ 9800000 → -9800000 ≤ mo.toInt → 0 ≤ (gJ N 19 p1).toInt ∧ ((gJ N 19 p1).toInt = 0 ∨ (gJ N 19 p1).toInt = (gJ M 19 p1).toInt + mo.toInt)) : MV (f_looksAgain (4 * p1 + p2) N).2 := by
  have hM := h
  obtain ⟨a1, a2, a3, a4, a5, a6, a7, a8, a9⟩ := h
  obtain ⟨r0, hr0, er⟩ := rq_of a7.1 c1.1
  have h40 := a7.1.1
  have cl : p1.toNatClampNeg = r0 := by rw [er, nI_clamp (by omega)]
  have hk := a7.2.1 r0 hr0
  obtain ⟨n, hn, e18⟩ := hk.e18 (by omega)
  obtain ⟨j0, hj0, ix, hd0⟩ := ln_of (by omega) hr0 er ⟨n, hn, e18⟩ c1.2
  have ci : (4 * p1 + p2).toNatClampNeg = 4 * r0 + j0 := by rw [ix, nI_clamp (by omega)]
  have hjn : j0 < n := by
    have h9 := hd0.2
    rw [show (4 * r0 + j0) / 4 = r0 by omega, show (4 * r0 + j0) % 4 = j0 by omega, e18, nI_clamp (by omega)] at h9
    exact h9
  have gN : ∀ i, gn N 28 i = if i = 4 * r0 + j0 then p3 else gn M 28 i := fun i => by
    show N.2.2.1 28 i = _
    rw [g28]
    show gn (rI (sI M 0 0) 28 (4 * p1 + p2) p3) 28 i = _
    rw [gn_rI, ci]
    by_cases z : i = 4 * r0 + j0
    · rw [if_pos ⟨rfl, z⟩, if_pos z]
    · rw [if_neg (fun y => z y.2), if_neg z]; rfl
  have hLM : ∀ j, j < n → P_in (gn M 28 (4 * r0 + j)) 1 99 ∧ P_in (gn M 29 (4 * r0 + j)) 1 100000 := fun j hj => by
    have hd : dm M 9 (4 * r0 + j) := by
      rw [dm9, show (4 * r0 + j) / 4 = r0 by omega, show (4 * r0 + j) % 4 = j by omega, e18, nI_clamp (by omega)]
      exact ⟨hr0, hj⟩
    exact ⟨(a8.1 _ hd).1, (a8.1 _ hd).2.1⟩
  have hLN : ∀ j, j < n → P_in (gn N 28 (4 * r0 + j)) 1 99 ∧ P_in (gn N 29 (4 * r0 + j)) 1 100000 := fun j hj => by
    rw [gN, f.2.1 29 (by decide)]
    refine ⟨?_, (hLM j hj).2⟩
    split
    · exact c2
    · exact (hLM j hj).1
  obtain ⟨tM, tM0, tM1⟩ := tot_sm hLM (by omega) hn e18
  obtain ⟨tN, tN0, tN1⟩ := tot_sm hLN (by omega) hn (by rw [f.2.1 18 (by decide)]; exact e18)
  have em' : mo.toInt = (p3.toInt - (gn M 28 (4 * r0 + j0)).toInt) * (gn M 29 (4 * r0 + j0)).toInt ∧ -9800000 ≤ mo.toInt ∧ mo.toInt ≤ 9800000 := by
    have h9 := more_bd c2 (hLM j0 hjn).1 (hLM j0 hjn).2
    have e1 : gI M 28 (4 * p1 + p2) = gn M 28 (4 * r0 + j0) := by rw [gI_n, ci]
    have e2 : gI M 29 (4 * p1 + p2) = gn M 29 (4 * r0 + j0) := by rw [gI_n, ci]
    rw [e1, e2] at em
    rw [← em] at h9
    refine ⟨?_, h9⟩
    have p1 := in_int c2
    have a1 := in_int (hLM j0 hjn).1
    have b1 := in_int (hLM j0 hjn).2
    rw [show (1 : Int32).toInt = 1 from by decide, show (99 : Int32).toInt = 99 from by decide] at p1 a1
    rw [show (1 : Int32).toInt = 1 from by decide, show (100000 : Int32).toInt = 100000 from by decide] at b1
    have s1 := w_s32 (x := p3) (y := gn M 28 (4 * r0 + j0)) rfl rfl (by omega) (by omega)
    have q1 := mul_bd (a := p3.toInt - (gn M 28 (4 * r0 + j0)).toInt + 98) (b := (gn M 29 (4 * r0 + j0)).toInt) (A := 196) (B := 100000) (by omega) (by omega) (by omega) (by omega)
    have q2 := mul_bd (a := 98 - (p3.toInt - (gn M 28 (4 * r0 + j0)).toInt)) (b := (gn M 29 (4 * r0 + j0)).toInt) (A := 196) (B := 100000) (by omega) (by omega) (by omega) (by omega)
    rw [Int.add_mul] at q1
    rw [Int.sub_mul] at q2
    rw [em]
    exact w_m64 ((Int32.toInt_toInt64 _).trans s1) (Int32.toInt_toInt64 _) (by omega) (by omega)
  have tt : (f_total (nI r0) N).toInt = (f_total (nI r0) M).toInt + mo.toInt := by
    have e29 : (fun l => (gn N 29 (4 * r0 + l)).toInt) = fun l => (gn M 29 (4 * r0 + l)).toInt := funext fun l => by rw [f.2.1 29 (by decide)]
    rw [tN, e29, tM, em'.1, smT_ch (a := fun l => (gn M 28 (4 * r0 + l)).toInt) (j := j0) (fun i hi => by rw [gN, if_neg (by omega)]), if_pos hjn, gN, if_pos rfl]
  rw [← er] at hk tM tN tt tM0 tM1 tN0 tN1
  have ha : (gI M 17 p1 = 1 ∨ gI M 17 p1 = 2 ∨ gI M 17 p1 = 4) ∧ P_isYear (gI M 20 p1) ∧ (gJ M 19 p1).toInt ≤ (f_total p1 M).toInt := by
    rcases hk.2.2.2 with z | ⟨z, _⟩
    · exact z
    · rw [c4] at z; exact absurd z (by decide)
  have hv' := hv hk.1.2.2.1.1 (by omega) em'.2.2 em'.2.1
  have n19 : 0 ≤ gJ N 19 p1 := by
    rw [Int64.le_iff_toInt_le, show (0 : Int64).toInt = 0 from by decide]
    exact hv'.1
  have le19 : (gJ N 19 p1).toInt ≤ (f_total p1 N).toInt := by
    rcases hv'.2 with z | z
    · rw [z]; exact tN0
    · rw [z, tt]; omega
  rw [ix]
  refine mv_look ⟨a1.fr f (by decide), a2.fr f (by decide) (by decide) (by decide) (by decide) (by decide), a3.fr f (by decide) (by decide) (by decide), a4.fr f (by decide) (by decide) (by decide) (by decide), a5.fr f (by decide) (by decide) (by decide) (by decide) (by decide), a6.fr f (by decide), ?_, ⟨fun q hq => ?_, fun q hq => ?_⟩, hM.to0.2.2.2.2.2.2.2.2.fr f (by decide) (by decide) (by decide) (by decide)⟩ (mv_wo (Q := 4 * r0 + j0) hM f (by decide) (by decide) (by decide) (fun q hq j hj => ?_))
  · refine MRq.one a7 f (by decide) (by decide) (by decide) (by decide) hr0 (fun j hj r hr => f.2.1 j (by revert hj; revert j; decide) r) (fun r hr j hj => f.2.1 23 (by decide) _) (fun r hr l hl => ⟨by rw [gN, if_neg (by omega)], f.2.1 29 (by decide) _⟩) (fun r hr => ⟨g19 r (by rw [cl]; exact hr), f.2.2 22 (by decide) _⟩) ?_
    rw [← er]
    have k : ∀ j, j ≠ 28 → gI N j p1 = gI M j p1 := fun j hj => f.i (by simpa using hj) p1
    have ec : ∀ t, CH M p1 t → CH N p1 t := fun t z => ch_cg (M := M) (f.1 3 (by decide)) (fun x => f.i (by decide) x) (f.i (by decide) p1) (f.i (by decide) p1) (fun x => f.i (by decide) x) (fun x => f.i (by decide) x) z
    obtain ⟨⟨g1, g2, g3, g4, ⟨t, g5⟩, g6, g7, g8, g9⟩, q1, q2, q3⟩ := hk
    refine ⟨⟨by rw [k 16 (by decide)]; exact g1, by rw [k 15 (by decide), f.p (by decide)]; exact g2, ⟨n19, fun _ => by rw [k 20 (by decide)]; exact ha.2.1⟩, by rw [k 26 (by decide), f.p (by decide)]; exact g4, ⟨t, ec t g5⟩, fun z => ?_, fun z => by rw [k 21 (by decide)]; exact g7 (Or.inl c4), fun z => by rw [k 20 (by decide)]; exact ha.2.1, by rw [k 17 (by decide)]; exact g9⟩, by rw [k 21 (by decide)]; exact q1, by rw [k 18 (by decide)]; exact q2, Or.inl ⟨by rw [k 17 (by decide)]; exact ha.1, by rw [k 20 (by decide)]; exact ha.2.1, le19⟩⟩
    rw [k 17 (by decide), c4] at z
    exact absurd z (by decide)
  · have h9 := a8.1 q ((f.d9 (by decide) (by decide)).mp hq)
    rw [gN, f.2.1 29 (by decide), f.2.1 30 (by decide)]
    by_cases z : q = 4 * r0 + j0
    · rw [if_pos z]; exact ⟨c2, h9.2⟩
    · rw [if_neg z]; exact h9
  · rw [f.2.1 30 (by decide)]
    exact a8.2 q (fun z => hq ((f.d9 (by decide) (by decide)).mpr z))
  · by_cases z : j = 28
    · rw [z, gN, if_neg hq]
    · exact f.2.1 j (by simpa using z) q
theorem can4 {p q x : Int32} {M : MS} (h : ¬ f_canChange p q x M = 0) : gI M 17 p = 4 := by
  unfold f_canChange at h
  by_cases c : gI M 17 p = 4
  · exact c
  · rw [if_neg c] at h
    exact absurd rfl h
theorem mv_change {M : MS} {p1 p2 p3 : Int32} (h : MV M) : MV (f_change p1 p2 p3 M).2 := by
  unfold f_change
  by_cases c1 : P_isLine p1 p2 M
  · rw [if_pos c1]
    by_cases c2 : P_in p3 1 99
    · rw [if_pos c2]
      by_cases c3 : f_canChange p1 (4 * p1 + p2) p3 M = 0
      · rw [if_pos c3]; exact h.thr
      · rw [if_neg c3]
        have c4 := can4 c3
        by_cases c5 : lg_cmp ((p3 - gI M 28 (4 * p1 + p2)).toInt64 * (gI M 29 (4 * p1 + p2)).toInt64) 0 ≤ 0
        · rw [if_pos c5]
          have f : FrM [0] [28] [11, 19] M (f_frees p1 (-((p3 - gI M 28 (4 * p1 + p2)).toInt64 * (gI M 29 (4 * p1 + p2)).toInt64)) (rI (sI M 0 0) 28 (4 * p1 + p2) p3)).2 := ((FrM.rfl'.cI (by decide)).rI (by decide)).of (Fr.frees (A := []) (B := [19, 11]) Fr.rfl' (by decide) (by decide)) (by decide) (by decide)
          refine mv_chg h c1 c2 c4 rfl f fr_gn (fun i hi => (fr19 hi).trans rfl) (fun h0 h1 h2 h3 => ?_)
          generalize (p3 - gI M 28 (4 * p1 + p2)).toInt64 * (gI M 29 (4 * p1 + p2)).toInt64 = mo at *
          rw [lg_cmp_le] at c5
          have c6 := Int64.le_iff_toInt_le.mp c5
          rw [show (0 : Int64).toInt = 0 from by decide] at c6
          have en : (-mo).toInt = -mo.toInt := by
            rw [← Int64.zero_sub, w_s64 (x := 0) (y := mo) (a := 0) (b := mo.toInt) (by decide) rfl (by omega) (by omega)]
            omega
          have h9 := ff_val (M := rI (sI M 0 0) 28 (4 * p1 + p2) p3) (p := p1) (v := -mo) h0 (by rw [Int64.le_iff_toInt_le, en, show (0 : Int64).toInt = 0 from by decide]; omega)
          refine ⟨h9.1, h9.2.imp id (fun z => ?_)⟩
          rw [z, en]
          show (gJ M 19 p1).toInt - -mo.toInt = _
          omega
        · rw [if_neg c5]
          have f : FrM [0] [28] [11, 19] M (f_commits p1 ((p3 - gI M 28 (4 * p1 + p2)).toInt64 * (gI M 29 (4 * p1 + p2)).toInt64) (rI (sI M 0 0) 28 (4 * p1 + p2) p3)) := ((FrM.rfl'.cI (by decide)).rI (by decide)).of (Fr.commits (A := []) (B := [19, 11]) Fr.rfl' (by decide) (by decide)) (by decide) (by decide)
          refine mv_chg h c1 c2 c4 rfl f rfl (fun i hi => (cmt19 hi).trans rfl) (fun h0 h1 h2 h3 => ?_)
          generalize (p3 - gI M 28 (4 * p1 + p2)).toInt64 * (gI M 29 (4 * p1 + p2)).toInt64 = mo at *
          rw [lg_cmp_le] at c5
          have c6 := Int64.lt_iff_toInt_lt.mp (Int64.not_le.mp c5)
          have c0 := Int64.le_iff_toInt_le.mp h0
          rw [show (0 : Int64).toInt = 0 from by decide] at c6 c0
          have e : gJ (f_commits p1 mo (rI (sI M 0 0) 28 (4 * p1 + p2) p3)) 19 p1 = gJ M 19 p1 + mo := by
            unfold f_commits
            rw [gJ_rJn rfl, gJ_rJs]
            rfl
          rw [e, w_a64 (x := gJ M 19 p1) (y := mo) rfl rfl (by omega) (by omega)]
          exact ⟨by omega, Or.inr rfl⟩
    · rw [if_neg c2]; exact h.thr
  · rw [if_neg c1]
    repeat' split
    all_goals exact h.thr
