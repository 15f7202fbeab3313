/-- what may be on invoices of a line -/
def mst (M : MS) (v : Int32) : Int32 := if gI M 27 (gI M 40 v) = 0 then gI M 30 (gI M 40 v) else gI M 28 (gI M 40 v)
def dear (M : MS) (v : Int32) : Prop := gI M 45 v = 0 ∧ ¬ lg_cmp (gJ M 43 v) ((((gI M 41 v).toInt64) * ((gI M 29 (gI M 40 v)).toInt64)) + (((((gI M 41 v).toInt64) * ((gI M 29 (gI M 40 v)).toInt64)) * 5) / 100)) ≤ 0
theorem why0 {M : MS} {v : Int32} : f_why v M = 0 ↔ gI M 41 v + f_bookedPieces (gI M 40 v) M ≤ mst M v ∧ ¬ dear M v := by
  unfold f_why mst dear
  generalize lg_cmp (gJ M 43 v) _ = z
  generalize gI M 41 v + f_bookedPieces (gI M 40 v) M = y
  by_cases c1 : gI M 27 (gI M 40 v) = 0 <;> by_cases c2 : gI M 45 v = 0 <;> by_cases c3 : z ≤ 0 <;> by_cases c4 : y ≤ gI M 30 (gI M 40 v) <;> by_cases c5 : y ≤ gI M 28 (gI M 40 v) <;> simp only [c1, c2, c3, c4, c5, if_true, if_false, not_true, not_false_eq_true, and_true, and_false, true_and, false_and] <;> decide
theorem why2 {M : MS} {v : Int32} : f_why v M < 2 ↔ ¬ dear M v := by
  unfold f_why dear
  generalize lg_cmp (gJ M 43 v) _ = z
  generalize gI M 41 v + f_bookedPieces (gI M 40 v) M = y
  by_cases c1 : gI M 27 (gI M 40 v) = 0 <;> by_cases c2 : gI M 45 v = 0 <;> by_cases c3 : z ≤ 0 <;> by_cases c4 : y ≤ gI M 30 (gI M 40 v) <;> by_cases c5 : y ≤ gI M 28 (gI M 40 v) <;> simp only [c1, c2, c3, c4, c5, if_true, if_false, not_true, not_false_eq_true, and_true, and_false, true_and, false_and] <;> decide
theorem look_none {M : MS} {q : Int32} (h60 : cnt M 39 ≤ 60) (h39 : mI M 39 = nI (cnt M 39)) (hW : ∀ v, P_isInvoice v M → gI M 40 v = q → gI M 44 v = 0 → ¬ f_why v M = 0) : f_looksAgain q M = (0, M) := by
  have key : ∀ n, n ≤ cnt M 39 → it_looksAgain q M n = (0, M) := fun n => by
    induction n with
    | zero => exact fun _ => rfl
    | succ n ih =>
      intro hn
      have i := ih (by omega)
      have hv := inv_n h60 h39 (show n < cnt M 39 by omega)
      unfold it_looksAgain st_looksAgain
      rw [i]
      by_cases a1 : gI M 40 (nI n) = q
      · rw [if_pos a1]
        by_cases a2 : gI M 44 (nI n) = 0
        · rw [if_pos a2, if_neg (hW _ hv a1 a2)]
        · rw [if_neg a2]
      · rw [if_neg a1]
  exact key _ (Nat.le_refl _)
theorem why_0 {M : MS} {v u : Int32} : f_why v (sI M 0 u) = f_why v M := by
  have hb := (fb_cg (M := M) (M' := sI M 0 u) (q := gI M 40 v) rfl (fun _ => rfl) (fun _ => rfl) (fun _ => rfl)).1
  unfold f_why
  rw [show gI (sI M 0 u) 40 v = gI M 40 v from rfl, hb]
  rfl
theorem down_le {x a p : Int32} (ha : P_in a 0 99) (hp : P_in p (-99) 99) (h0 : p ≤ 0) (h : x ≤ a + p) : x ≤ a := by
  have a1 := in_int ha
  have p1 := in_int hp
  rw [show (0 : Int32).toInt = 0 from by decide, show (99 : Int32).toInt = 99 from by decide] at a1
  rw [show (-99 : Int32).toInt = -99 from by decide, show (99 : Int32).toInt = 99 from by decide] at p1
  rw [Int32.le_iff_toInt_le] at h h0 ⊢
  rw [w_a32 rfl rfl (by omega) (by omega)] at h
  rw [show (0 : Int32).toInt = 0 from by decide] at h0
  omega
theorem look_down {M : MS} {q p : Int32} (h60 : cnt M 39 ≤ 60) (h39 : mI M 39 = nI (cnt M 39)) (hW : ∀ v, P_isInvoice v M → gI M 44 v = 0 → ¬ f_why v M = 0) (ha : P_in (gI M 30 q) 0 99) (hp : P_in p (-99) 99) (h0 : p ≤ 0) : f_looksAgain q (rI M 30 q (gI M 30 q + p)) = (0, rI M 30 q (gI M 30 q + p)) := by
  refine look_none h60 h39 (fun v hv e h44 => ?_)
  have e40 : gI (rI M 30 q (gI M 30 q + p)) 40 v = gI M 40 v := gI_rIn rfl
  rw [e40] at e
  have h9 := hW v hv ((gI_rIn rfl).symm.trans h44)
  intro z
  apply h9
  rw [why0] at z ⊢
  have hb := (fb_cg (M := M) (M' := rI M 30 q (gI M 30 q + p)) (q := q) rfl (fun i => gn_rIn (by decide)) (fun i => gn_rIn (by decide)) (fun i => gn_rIn (by decide))).1
  obtain ⟨z1, z2⟩ := z
  refine ⟨?_, z2⟩
  unfold mst at z1 ⊢
  rw [e40, gI_rIn (j := 41) rfl, gI_rIn (j := 27) rfl, gI_rIn (j := 28) rfl, e, hb, gI_rIs] at z1
  rw [e]
  by_cases c : gI M 27 q = 0
  · rw [if_pos c] at z1 ⊢
    exact down_le ha hp h0 z1
  · rw [if_neg c] at z1 ⊢
    exact z1
section HM
variable {X : CX} {S : CT} {M : MS}
theorem RR.lix (h : RR X S M) (hL : LVX X) {p l : Int32} (hp : P_isRequest p M) (hl : P_in l 0 (gI M 18 p - 1)) : nI (4 * p + l).toNatClampNeg = 4 * p + l := by
  have hp2 := (h.lnN hL hp).mpr hl
  obtain ⟨r, hr, h40, e, e2, h4⟩ := h.rq hL hp
  rw [e] at hp2 ⊢
  have e1 : nS X 29 (nI r) = nI (xSz X 29 r) := by unfold nS; rw [nI_clamp (by omega)]
  rw [e1] at hp2
  obtain ⟨j, hj, rfl⟩ := P_num_nI hp2 (by omega)
  rw [show (4 : Int32) = nI 4 from rfl, pk_mul, nI_add, nI_clamp (by omega)]
theorem le_flip {a b c d : Int32} (h1 : a = c) (h2 : b = d) : a < b ↔ ¬ d ≤ c := by rw [h1, h2]; exact Int32.not_le.symm
theorem le_keep {a b c d : Int32} (h1 : a = c) (h2 : b = d) : a ≤ b ↔ c ≤ d := by rw [h1, h2]
theorem lt_keep {a b c d : Int32} (h1 : a = c) (h2 : b = d) : a < b ↔ c < d := by rw [h1, h2]
end HM
theorem qk_30 {M : MS} {p x v : Int32} (h : QK M p) : QK (rI M 30 x v) p := qk_cg (M := M) (M' := rI M 30 x v) rfl (fun j hj y => gI_rIn (beq_eq_false_iff_ne.mpr (by omega))) ⟨h.2.2.1.1, fun z => z⟩ h
theorem vv_30 {M : MS} {x v : Int32} (h : VV M) : VV (rI M 30 x v) := fun u hu => by
  have h9 := h u hu
  rw [show gI (rI M 30 x v) 40 u = gI M 40 u from gI_rIn rfl, show ∀ y, gI (rI M 30 x v) 21 y = gI M 21 y from fun y => gI_rIn rfl]
  exact ⟨⟨(dm_rI (by decide)).mpr h9.1.1, h9.1.2⟩, h9.2⟩
theorem vv_0 {M : MS} {v : Int32} (h : VV M) : VV (sI M 0 v) := fun u hu => by
  have h9 := h u hu
  exact ⟨⟨dm_0.mpr h9.1.1, h9.1.2⟩, h9.2⟩
theorem in_def {p a b : Int32} : P_in p a b ↔ a ≤ p ∧ p ≤ b := Iff.rfl
set_option maxRecDepth 100000 in
theorem eq_receive {X : CX} {S : CT} {M : MS} {p1 : Int32} {p2 : Int32} {p3 : Int32} (hX : XOK X) (hL : LVX X) (h : RR X S M) (hQ : ∀ p, P_isRequest p M → QK M p) (hY : P_isYear (f_yearNow M)) (hV : VV M) (hW : ∀ v, P_isInvoice v M → gI M 44 v = 0 → ¬ f_why v M = 0) (h30 : ∀ q : Int32, dm M 9 q.toNatClampNeg → P_in (gI M 30 q) 0 99) : EQi X S xcIAS (k_receive p1 p2 p3 X S) (f_receive p1 p2 p3 M) := by
  unfold k_receive f_receive
  by_cases c1 : P_isRequest p1 M
  · by_cases c2 : P_in p2 0 (gI M 18 p1 - 1)
    · by_cases c3 : P_in p3 (-99) 99
      · by_cases c4 : p3 = 0
        · by_cases c5 : (gI M 17 p1) = 4
          · by_cases c6 : (gI M 27 ((4 * p1) + p2)) = 0
            · by_cases c7 : (f_bookedPieces ((4 * p1) + p2) M) ≤ ((gI M 30 ((4 * p1) + p2)) + p3)
              · by_cases c8 : ((gI M 30 ((4 * p1) + p2)) + p3) ≤ (gI M 28 ((4 * p1) + p2))
                · rw [if_pos ((h.n14 hL).mpr c1), if_pos ((h.lnN hL c1).mpr c2), if_pos c3, if_pos c4, if_pos (Iff.rfl.mpr ⟨c1, c2⟩), if_pos c3, if_pos c5, if_pos c6, if_pos (in_def.mpr ⟨c7, c8⟩), if_pos c3, if_pos c4]
                  exact ⟨mI_sIs.trans xIAS_A.symm, h.thr⟩
                · rw [if_pos ((h.n14 hL).mpr c1), if_pos ((h.lnN hL c1).mpr c2), if_pos c3, if_pos c4, if_pos (Iff.rfl.mpr ⟨c1, c2⟩), if_pos c3, if_pos c5, if_pos c6, if_neg (fun z => c8 (in_def.mp z).2), if_pos c3, if_pos c4]
                  exact ⟨mI_sIs.trans xIAS_A.symm, h.thr⟩
              · rw [if_pos ((h.n14 hL).mpr c1), if_pos ((h.lnN hL c1).mpr c2), if_pos c3, if_pos c4, if_pos (Iff.rfl.mpr ⟨c1, c2⟩), if_pos c3, if_pos c5, if_pos c6, if_neg (fun z => c7 (in_def.mp z).1), if_pos c3, if_pos c4]
                exact ⟨mI_sIs.trans xIAS_A.symm, h.thr⟩
            · rw [if_pos ((h.n14 hL).mpr c1), if_pos ((h.lnN hL c1).mpr c2), if_pos c3, if_pos c4, if_pos (Iff.rfl.mpr ⟨c1, c2⟩), if_pos c3, if_pos c5, if_neg c6, if_pos c3, if_pos c4]
              exact ⟨mI_sIs.trans xIAS_A.symm, h.thr⟩
          · rw [if_pos ((h.n14 hL).mpr c1), if_pos ((h.lnN hL c1).mpr c2), if_pos c3, if_pos c4, if_pos (Iff.rfl.mpr ⟨c1, c2⟩), if_pos c3, if_neg c5, if_pos c3, if_pos c4]
            exact ⟨mI_sIs.trans xIAS_A.symm, h.thr⟩
        · by_cases c9 : (gI M 17 p1) = 4
          · by_cases c10 : (gI M 27 ((4 * p1) + p2)) = 0
            · by_cases c11 : ((gI M 30 ((4 * p1) + p2)) + p3) ≤ (gI M 28 ((4 * p1) + p2))
              · by_cases c12 : (f_bookedPieces ((4 * p1) + p2) M) ≤ ((gI M 30 ((4 * p1) + p2)) + p3)
                · by_cases c13 : p3 ≤ 0
                  · rw [if_pos ((h.n14 hL).mpr c1), if_pos ((h.lnN hL c1).mpr c2), if_pos c3, if_neg c4, if_pos ((eq_keep (h.rdI (f := 259) (j := 17) (c := 1) (x := p1) rfl (h.d14 hL c1))).mpr c9), if_pos ((eq_keep (h.rdF (f := 128) (j := 27) (c := 9) (x := 4 * p1 + p2) rfl (h.dln hL c1 c2))).mpr c10), if_neg (fun z => ((le_flip (h.rdI (f := 130) (j := 28) (c := 9) (x := 4 * p1 + p2) rfl (h.dln hL c1 c2)) (congrArg (· + p3) (h.rdI (f := 131) (j := 30) (c := 9) (x := 4 * p1 + p2) rfl (h.dln hL c1 c2)))).mp z) c11), if_pos ((le_keep (h.bk (h.dln hL c1 c2) (h.lix hL c1 c2)).1 (congrArg (· + p3) (h.rdI (f := 131) (j := 30) (c := 9) (x := 4 * p1 + p2) rfl (h.dln hL c1 c2)))).mpr c12), if_pos (Iff.rfl.mpr ⟨c1, c2⟩), if_pos c3, if_pos c9, if_pos c10, if_pos (in_def.mpr ⟨c12, c11⟩), if_pos c3, if_neg c4, if_pos c13]
                    have hd := (h.dln hL c1 c2)
                    have r1 := (h.thr (v := 0)).pI (f := 131) (j := 30) (x := 4 * p1 + p2) (v := gI M 30 (4 * p1 + p2) + p3) rfl
                    rw [show ci S 131 (4 * p1 + p2) = gI M 30 (4 * p1 + p2) from h.rdI (f := 131) (j := 30) (c := 9) rfl hd]
                    have r2 := r1.look hL (q := 4 * p1 + p2) (fun p hp => qk_30 (qk_0 (hQ p hp))) hY (vv_30 (vv_0 hV))
                    have h39 := h.bo39 hL
                    have e := look_down (M := sI M 0 0) (q := 4 * p1 + p2) (p := p3) h39.1 h39.2 (fun v hv h44 => by rw [why_0]; exact hW v hv h44) (h30 (4 * p1 + p2) hd) c3 c13
                    rw [show f_looksAgain (4 * p1 + p2) (rI (sI M 0 0) 30 (4 * p1 + p2) (gI M 30 (4 * p1 + p2) + p3)) = _ from e] at r2
                    exact ⟨rfl, r2.1, r2.2⟩
                  · rw [if_pos ((h.n14 hL).mpr c1), if_pos ((h.lnN hL c1).mpr c2), if_pos c3, if_neg c4, if_pos ((eq_keep (h.rdI (f := 259) (j := 17) (c := 1) (x := p1) rfl (h.d14 hL c1))).mpr c9), if_pos ((eq_keep (h.rdF (f := 128) (j := 27) (c := 9) (x := 4 * p1 + p2) rfl (h.dln hL c1 c2))).mpr c10), if_neg (fun z => ((le_flip (h.rdI (f := 130) (j := 28) (c := 9) (x := 4 * p1 + p2) rfl (h.dln hL c1 c2)) (congrArg (· + p3) (h.rdI (f := 131) (j := 30) (c := 9) (x := 4 * p1 + p2) rfl (h.dln hL c1 c2)))).mp z) c11), if_pos ((le_keep (h.bk (h.dln hL c1 c2) (h.lix hL c1 c2)).1 (congrArg (· + p3) (h.rdI (f := 131) (j := 30) (c := 9) (x := 4 * p1 + p2) rfl (h.dln hL c1 c2)))).mpr c12), if_pos (Iff.rfl.mpr ⟨c1, c2⟩), if_pos c3, if_pos c9, if_pos c10, if_pos (in_def.mpr ⟨c12, c11⟩), if_pos c3, if_neg c4, if_neg c13]
                    have hd := (h.dln hL c1 c2)
                    have r1 := (h.thr (v := 0)).pI (f := 131) (j := 30) (x := 4 * p1 + p2) (v := gI M 30 (4 * p1 + p2) + p3) rfl
                    rw [show ci S 131 (4 * p1 + p2) = gI M 30 (4 * p1 + p2) from h.rdI (f := 131) (j := 30) (c := 9) rfl hd]
                    have r2 := r1.look hL (q := 4 * p1 + p2) (fun p hp => qk_30 (qk_0 (hQ p hp))) hY (vv_30 (vv_0 hV))
                    exact ⟨congrFun (it_look_fr (q := 4 * p1 + p2) _).1.1 0, r2.1, r2.2⟩
                · rw [if_pos ((h.n14 hL).mpr c1), if_pos ((h.lnN hL c1).mpr c2), if_pos c3, if_neg c4, if_pos ((eq_keep (h.rdI (f := 259) (j := 17) (c := 1) (x := p1) rfl (h.d14 hL c1))).mpr c9), if_pos ((eq_keep (h.rdF (f := 128) (j := 27) (c := 9) (x := 4 * p1 + p2) rfl (h.dln hL c1 c2))).mpr c10), if_neg (fun z => ((le_flip (h.rdI (f := 130) (j := 28) (c := 9) (x := 4 * p1 + p2) rfl (h.dln hL c1 c2)) (congrArg (· + p3) (h.rdI (f := 131) (j := 30) (c := 9) (x := 4 * p1 + p2) rfl (h.dln hL c1 c2)))).mp z) c11), if_neg (fun z => c12 ((le_keep (h.bk (h.dln hL c1 c2) (h.lix hL c1 c2)).1 (congrArg (· + p3) (h.rdI (f := 131) (j := 30) (c := 9) (x := 4 * p1 + p2) rfl (h.dln hL c1 c2)))).mp z)), if_pos (Iff.rfl.mpr ⟨c1, c2⟩), if_pos c3, if_pos c9, if_pos c10, if_neg (fun z => c12 (in_def.mp z).1), if_pos c3, if_neg c4]
                  exact ⟨mI_sIs.trans xIAS_S.symm, h.thr⟩
              · by_cases c14 : (f_bookedPieces ((4 * p1) + p2) M) ≤ ((gI M 30 ((4 * p1) + p2)) + p3)
                · rw [if_pos ((h.n14 hL).mpr c1), if_pos ((h.lnN hL c1).mpr c2), if_pos c3, if_neg c4, if_pos ((eq_keep (h.rdI (f := 259) (j := 17) (c := 1) (x := p1) rfl (h.d14 hL c1))).mpr c9), if_pos ((eq_keep (h.rdF (f := 128) (j := 27) (c := 9) (x := 4 * p1 + p2) rfl (h.dln hL c1 c2))).mpr c10), if_pos ((le_flip (h.rdI (f := 130) (j := 28) (c := 9) (x := 4 * p1 + p2) rfl (h.dln hL c1 c2)) (congrArg (· + p3) (h.rdI (f := 131) (j := 30) (c := 9) (x := 4 * p1 + p2) rfl (h.dln hL c1 c2)))).mpr c11), if_pos (Iff.rfl.mpr ⟨c1, c2⟩), if_pos c3, if_pos c9, if_pos c10, if_neg (fun z => c11 (in_def.mp z).2), if_pos c3, if_neg c4]
                  exact ⟨mI_sIs.trans xIAS_S.symm, h.thr⟩
                · rw [if_pos ((h.n14 hL).mpr c1), if_pos ((h.lnN hL c1).mpr c2), if_pos c3, if_neg c4, if_pos ((eq_keep (h.rdI (f := 259) (j := 17) (c := 1) (x := p1) rfl (h.d14 hL c1))).mpr c9), if_pos ((eq_keep (h.rdF (f := 128) (j := 27) (c := 9) (x := 4 * p1 + p2) rfl (h.dln hL c1 c2))).mpr c10), if_pos ((le_flip (h.rdI (f := 130) (j := 28) (c := 9) (x := 4 * p1 + p2) rfl (h.dln hL c1 c2)) (congrArg (· + p3) (h.rdI (f := 131) (j := 30) (c := 9) (x := 4 * p1 + p2) rfl (h.dln hL c1 c2)))).mpr c11), if_pos (Iff.rfl.mpr ⟨c1, c2⟩), if_pos c3, if_pos c9, if_pos c10, if_neg (fun z => c14 (in_def.mp z).1), if_pos c3, if_neg c4]
                  exact ⟨mI_sIs.trans xIAS_S.symm, h.thr⟩
            · rw [if_pos ((h.n14 hL).mpr c1), if_pos ((h.lnN hL c1).mpr c2), if_pos c3, if_neg c4, if_pos ((eq_keep (h.rdI (f := 259) (j := 17) (c := 1) (x := p1) rfl (h.d14 hL c1))).mpr c9), if_neg (fun z => c10 ((eq_keep (h.rdF (f := 128) (j := 27) (c := 9) (x := 4 * p1 + p2) rfl (h.dln hL c1 c2))).mp z)), if_pos (Iff.rfl.mpr ⟨c1, c2⟩), if_pos c3, if_pos c9, if_neg c10, if_pos c3, if_neg c4]
              exact ⟨mI_sIs.trans xIAS_S.symm, h.thr⟩
          · rw [if_pos ((h.n14 hL).mpr c1), if_pos ((h.lnN hL c1).mpr c2), if_pos c3, if_neg c4, if_neg (fun z => c9 ((eq_keep (h.rdI (f := 259) (j := 17) (c := 1) (x := p1) rfl (h.d14 hL c1))).mp z)), if_pos (Iff.rfl.mpr ⟨c1, c2⟩), if_pos c3, if_neg c9, if_pos c3, if_neg c4]
            exact ⟨mI_sIs.trans xIAS_S.symm, h.thr⟩
      · by_cases c15 : (gI M 17 p1) = 4
        · by_cases c16 : (gI M 27 ((4 * p1) + p2)) = 0
          · by_cases c17 : P_in ((gI M 30 ((4 * p1) + p2)) + 0) (f_bookedPieces ((4 * p1) + p2) M) (gI M 28 ((4 * p1) + p2))
            · rw [if_pos ((h.n14 hL).mpr c1), if_pos ((h.lnN hL c1).mpr c2), if_neg c3, if_pos (Iff.rfl.mpr ⟨c1, c2⟩), if_neg c3, if_pos c15, if_pos c16, if_pos c17, if_neg c3]
              exact ⟨mI_sIs.trans xIAS_A.symm, h.thr⟩
            · rw [if_pos ((h.n14 hL).mpr c1), if_pos ((h.lnN hL c1).mpr c2), if_neg c3, if_pos (Iff.rfl.mpr ⟨c1, c2⟩), if_neg c3, if_pos c15, if_pos c16, if_neg c17, if_neg c3]
              exact ⟨mI_sIs.trans xIAS_A.symm, h.thr⟩
          · rw [if_pos ((h.n14 hL).mpr c1), if_pos ((h.lnN hL c1).mpr c2), if_neg c3, if_pos (Iff.rfl.mpr ⟨c1, c2⟩), if_neg c3, if_pos c15, if_neg c16, if_neg c3]
            exact ⟨mI_sIs.trans xIAS_A.symm, h.thr⟩
        · rw [if_pos ((h.n14 hL).mpr c1), if_pos ((h.lnN hL c1).mpr c2), if_neg c3, if_pos (Iff.rfl.mpr ⟨c1, c2⟩), if_neg c3, if_neg c15, if_neg c3]
          exact ⟨mI_sIs.trans xIAS_A.symm, h.thr⟩
    · by_cases c18 : P_in p3 (-99) 99
      · rw [if_pos ((h.n14 hL).mpr c1), if_neg (fun z => c2 ((h.lnN hL c1).mp z)), if_neg (fun z => c2 (Iff.rfl.mp z).2), if_pos c18]
        exact ⟨mI_sIs.trans xIAS_I.symm, h.thr⟩
      · rw [if_pos ((h.n14 hL).mpr c1), if_neg (fun z => c2 ((h.lnN hL c1).mp z)), if_neg (fun z => c2 (Iff.rfl.mp z).2), if_neg c18]
        exact ⟨mI_sIs.trans xIAS_I.symm, h.thr⟩
  · by_cases c19 : P_in p3 (-99) 99
    · rw [if_neg (fun z => c1 ((h.n14 hL).mp z)), if_neg (fun z => c1 (Iff.rfl.mp z).1), if_pos c19]
      exact ⟨mI_sIs.trans xIAS_I.symm, h.thr⟩
    · rw [if_neg (fun z => c1 ((h.n14 hL).mp z)), if_neg (fun z => c1 (Iff.rfl.mp z).1), if_neg c19]
      exact ⟨mI_sIs.trans xIAS_I.symm, h.thr⟩
theorem bk44 {M : MS} {p : Int32} : gI (f_books p M) 44 p = 1 := by
  have key : ∀ (N : MS) (q : Int32) (v : Int64) (i : Int32) (u y z o : Int64), gI (rJ (rJ (rJ (f_frees q v (rJ (rI N 44 p 1) 11 i u)).2 2 0 y) 2 3 z) 2 1 o) 44 p = 1 := fun N q v i u y z o => by
    have h9 : gI (f_frees q v (rJ (rI N 44 p 1) 11 i u)).2 44 p = gI (rJ (rI N 44 p 1) 11 i u) 44 p := ((Fr.rfl' (A := []) (B := [19, 11])).frees (by decide) (by decide)).i (by decide) p
    exact h9.trans (show gI (rI N 44 p 1) 44 p = 1 from gI_rIs)
  unfold f_books
  split
  · exact key _ _ _ _ _ _ _ _
  · exact key _ _ _ _ _ _ _ _
section HM2
variable {X : CX} {S : CT} {M : MS}
theorem RR.isDear (h : RR X S M) (hL : LVX X) {p : Int32} (hp : P_isInvoice p M) (hl : dm M 9 (gI M 40 p).toNatClampNeg) : K_isTooDear p X S ↔ ¬ f_why p M < 2 := by
  have hd := h.d39 hL hp
  rw [why2]
  unfold K_isTooDear k_orderedValue dear
  rw [h.rdF (f := 97) (j := 40) (c := 2) (x := p) rfl hd, h.rdF (f := 99) (j := 41) (c := 2) (x := p) rfl hd, h.rdF (f := 129) (j := 29) (c := 9) (x := gI M 40 p) rfl hl, h.rdI (f := 103) (j := 45) (c := 2) (x := p) rfl hd, h.rdG (f := 101) (j := 43) (c := 2) (x := p) rfl hd]
  exact Decidable.not_not.symm
end HM2
theorem qk_ct {M M' : MS} {p : Int32} (h3 : mI M' 3 = mI M 3) (hr : ∀ j, (j = 4 ∨ j = 5 ∨ j = 15 ∨ j = 16 ∨ j = 17 ∨ j = 20 ∨ j = 21 ∨ j = 23 ∨ j = 24 ∨ j = 25 ∨ j = 26) → ∀ x, gI M' j x = gI M j x) (ht : gI M 17 p = 1 → f_total p M' = f_total p M) (h19 : 0 ≤ gJ M' 19 p ∧ (0 < gJ M' 19 p → P_isYear (gI M 20 p))) (h : QK M p) : QK M' p := by
  have ec : ∀ t, CH M p t → CH M' p t := fun t z => ch_cg h3 (fun x => hr 23 (by omega) x) (hr 24 (by omega) p) (hr 25 (by omega) p) (fun x => hr 4 (by omega) x) (fun x => hr 5 (by omega) x) z
  have eP : ∀ b, P_isPerson b M → P_isPerson b M' := fun b z => by
    show P_in b 0 (mI M' 3 - 1)
    rw [h3]; exact z
  obtain ⟨g1, g2, g3, g4, ⟨t, g5⟩, g6, g7, g8, g9⟩ := h
  have q := fun j hj => hr j hj p
  refine ⟨by rw [q 16 (by omega)]; exact g1, by rw [q 15 (by omega)]; exact eP _ g2, ⟨h19.1, fun z => by rw [q 20 (by omega)]; exact h19.2 z⟩, by rw [q 26 (by omega)]; exact g4.imp id (eP _), ⟨t, ec t g5⟩, fun z => by rw [ht (by rw [← q 17 (by omega)]; exact z)]; exact ec _ (g6 (by rw [← q 17 (by omega)]; exact z)), fun z => by rw [q 21 (by omega)]; exact g7 (by rw [← q 17 (by omega)]; exact z), fun z => by rw [q 20 (by omega)]; exact g8 (by rw [← q 17 (by omega)]; exact z), by rw [q 17 (by omega)]; exact g9⟩
theorem qk_45 {M : MS} {p x v : Int32} (h : QK M p) : QK (rI M 45 x v) p := qk_cg (M := M) (M' := rI M 45 x v) rfl (fun j hj y => gI_rIn (beq_eq_false_iff_ne.mpr (by omega))) ⟨h.2.2.1.1, fun z => z⟩ h
theorem vv_45 {M : MS} {x v : Int32} (h : VV M) : VV (rI M 45 x v) := fun u hu => by
  have h9 := h u hu
  rw [show gI (rI M 45 x v) 40 u = gI M 40 u from gI_rIn rfl, show ∀ y, gI (rI M 45 x v) 21 y = gI M 21 y from fun y => gI_rIn rfl]
  exact ⟨⟨(dm_rI (by decide)).mpr h9.1.1, h9.1.2⟩, h9.2⟩
set_option maxRecDepth 100000 in
theorem eq_letGo {X : CX} {S : CT} {M : MS} {p1 : Int32} {p2 : Int32} (hX : XOK X) (hL : LVX X) (h : RR X S M) (hQ : ∀ p, P_isRequest p M → QK M p) (hY : P_isYear (f_yearNow M)) (hV : VV M) : EQi X S xcIS (k_letGo p1 p2 X S) (f_letGo p1 p2 M) := by
  unfold k_letGo f_letGo
  by_cases c1 : P_isInvoice p1 M
  · by_cases c2 : P_isPerson p2 M
    · by_cases c3 : (gI M 44 p1) = 0
      · by_cases c4 : (f_why p1 M) < 2
        · rw [if_pos ((h.n39 hL).mpr c1), if_pos ((h.n3 hL).mpr c2), if_pos ((eq_keep (h.rdI (f := 102) (j := 44) (c := 2) (x := p1) rfl (h.d39 hL c1))).mpr c3), if_neg (fun z => ((h.isDear hL c1 (hV p1 c1).1.1).mp z) c4), if_pos c1, if_pos c2, if_pos c3, if_pos c4]
          exact ⟨mI_sIs.trans xIS_S.symm, h.thr⟩
        · by_cases c5 : p2 = (mI M 10)
          · by_cases c6 : (f_why p1 (rI (sI M 0 0) 45 p1 1)) = 0
            · have c7 : (gI (f_books p1 (rI (sI M 0 0) 45 p1 1)) 44 p1) = 1 := bk44
              rw [if_pos ((h.n39 hL).mpr c1), if_pos ((h.n3 hL).mpr c2), if_pos ((eq_keep (h.rdI (f := 102) (j := 44) (c := 2) (x := p1) rfl (h.d39 hL c1))).mpr c3), if_pos ((h.isDear hL c1 (hV p1 c1).1.1).mpr c4), if_pos ((Iff.of_eq (congrArg (p2 = ·) (h.ctl c2))).mpr c5), if_pos c1, if_pos c2, if_pos c3, if_neg c4, if_pos c5, if_pos c6, if_pos c7]
              have r1 := (h.thr (v := 0)).pI (f := 103) (j := 45) (x := p1) (v := 1) rfl
              have hV1 : VV (rI (sI M 0 0) 45 p1 1) := vv_45 (vv_0 hV)
              have ew := r1.why hL (p := p1) c1 (hV1 p1 c1).1.1 (hV1 p1 c1).1.2
              unfold k_bookUnlessHeld
              rw [ew, if_pos c6]
              exact ⟨congrFun fr_books.1 0, rfl, r1.book hL c1 ((gI_rIn (j := 44) rfl).trans c3) (hV1 p1 c1).1 (fun p hp => qk_45 (qk_0 (hQ p hp))) hY (hV1 p1 c1).2⟩
            · have c8 : ¬ ((gI M 44 p1) = 1) := (fun z => absurd (c3.symm.trans z) (by decide))
              rw [if_pos ((h.n39 hL).mpr c1), if_pos ((h.n3 hL).mpr c2), if_pos ((eq_keep (h.rdI (f := 102) (j := 44) (c := 2) (x := p1) rfl (h.d39 hL c1))).mpr c3), if_pos ((h.isDear hL c1 (hV p1 c1).1.1).mpr c4), if_pos ((Iff.of_eq (congrArg (p2 = ·) (h.ctl c2))).mpr c5), if_pos c1, if_pos c2, if_pos c3, if_neg c4, if_pos c5, if_neg c6, if_neg c8]
              have r1 := (h.thr (v := 0)).pI (f := 103) (j := 45) (x := p1) (v := 1) rfl
              have hV1 : VV (rI (sI M 0 0) 45 p1 1) := vv_45 (vv_0 hV)
              have ew := r1.why hL (p := p1) c1 (hV1 p1 c1).1.1 (hV1 p1 c1).1.2
              unfold k_bookUnlessHeld
              rw [ew, if_neg c6]
              exact ⟨rfl, rfl, r1⟩
          · rw [if_pos ((h.n39 hL).mpr c1), if_pos ((h.n3 hL).mpr c2), if_pos ((eq_keep (h.rdI (f := 102) (j := 44) (c := 2) (x := p1) rfl (h.d39 hL c1))).mpr c3), if_pos ((h.isDear hL c1 (hV p1 c1).1.1).mpr c4), if_neg (fun z => c5 ((Iff.of_eq (congrArg (p2 = ·) (h.ctl c2))).mp z)), if_pos c1, if_pos c2, if_pos c3, if_neg c4, if_neg c5]
            exact ⟨mI_sIs.trans xIS_S.symm, h.thr⟩
      · rw [if_pos ((h.n39 hL).mpr c1), if_pos ((h.n3 hL).mpr c2), if_neg (fun z => c3 ((eq_keep (h.rdI (f := 102) (j := 44) (c := 2) (x := p1) rfl (h.d39 hL c1))).mp z)), if_pos c1, if_pos c2, if_neg c3]
        exact ⟨mI_sIs.trans xIS_S.symm, h.thr⟩
    · rw [if_pos ((h.n39 hL).mpr c1), if_neg (fun z => c2 ((h.n3 hL).mp z)), if_pos c1, if_neg c2]
      exact ⟨mI_sIs.trans xIS_I.symm, h.thr⟩
  · rw [if_neg (fun z => c1 ((h.n39 hL).mp z)), if_neg c1]
    exact ⟨mI_sIs.trans xIS_I.symm, h.thr⟩
theorem cmp_neg {a b c d : Int64} (h1 : a = c) (h2 : b = d) : lg_cmp a b ≤ 0 ↔ ¬ 0 < lg_cmp c d := by rw [h1, h2]; exact Int32.not_lt.symm
theorem cmp_keep {a b c : Int64} (h1 : a = c) : lg_cmp a b ≤ 0 ↔ lg_cmp c b ≤ 0 := by rw [h1]
theorem fr28 {M : MS} {p x u : Int32} {v : Int64} : (f_frees p v (rI M 28 x u)).2 = rI (f_frees p v M).2 28 x u := by
  unfold f_frees
  rw [show gJ (rI M 28 x u) 19 p = gJ M 19 p from rfl]
  split <;> split <;> rfl
theorem ft_28 {X : CX} {S : CT} {M N : MS} {p p1 l : Int32} (h : RR X S M) (hL : LVX X) (hp : P_isRequest p M) (hp1 : P_isRequest p1 M) (hl : P_in l 0 (gI M 18 p1 - 1)) (hne : p ≠ p1) (h18 : ∀ x, gI N 18 x = gI M 18 x) (h29 : ∀ x, gI N 29 x = gI M 29 x) (h28 : ∀ i, i ≠ (4 * p1 + l).toNatClampNeg → gn N 28 i = gn M 28 i) : f_total p N = f_total p M := by
  have hp2 := (h.lnN hL hp1).mpr hl
  obtain ⟨r, hr, h40, rfl, e, h4⟩ := h.rq hL hp
  obtain ⟨r1, hr1, h401, rfl, e1, h41⟩ := h.rq hL hp1
  have hn : r ≠ r1 := fun z => hne (by rw [z])
  have es : nS X 29 (nI r1) = nI (xSz X 29 r1) := by unfold nS; rw [nI_clamp (by omega)]
  rw [es] at hp2
  obtain ⟨j, hj, rfl⟩ := P_num_nI hp2 (by omega)
  rw [show (4 : Int32) = nI 4 from rfl, pk_mul, nI_add, nI_clamp (by omega)] at h28
  unfold f_total
  rw [h18, gI_n, nI_clamp (by omega), e, nI_clamp (by omega)]
  have key : ∀ i, i ≤ xSz X 29 r → it_total (nI r) N i = it_total (nI r) M i := fun i => by
    induction i with
    | zero => exact fun _ => rfl
    | succ i ih =>
      intro hi
      have e28 : gI N 28 (4 * nI r + nI i) = gI M 28 (4 * nI r + nI i) := by
        rw [show (4 : Int32) = nI 4 from rfl, pk_mul, nI_add, gI_n, gI_n, nI_clamp (by omega)]
        exact h28 _ (by omega)
      show st_total (nI r) N (4 * nI r + nI i) (it_total (nI r) N i) = st_total (nI r) M (4 * nI r + nI i) (it_total (nI r) M i)
      unfold st_total
      rw [ih (by omega), e28, h29]
  exact key _ (Nat.le_refl _)
theorem qk_28 {X : CX} {S : CT} {M N : MS} {p1 l : Int32} (h : RR X S M) (hL : LVX X) (hp1 : P_isRequest p1 M) (hl : P_in l 0 (gI M 18 p1 - 1)) (h17 : gI M 17 p1 = 4) (hF : Fr [28] [19, 11] M N) (h28 : ∀ i, i ≠ (4 * p1 + l).toNatClampNeg → gn N 28 i = gn M 28 i) (h19 : ∀ p, P_isRequest p M → 0 ≤ gJ N 19 p ∧ (0 < gJ N 19 p → P_isYear (gI M 20 p))) (hQ : ∀ p, P_isRequest p M → QK M p) : ∀ p, P_isRequest p N → QK N p := fun p hp => by
  have hp' : P_isRequest p M := by
    show P_in p 0 (mI M 14 - 1)
    rw [← hF.1]; exact hp
  refine qk_ct (congrFun hF.1 3) (fun j hj x => hF.i (by simp; omega) x) (fun z => ?_) (h19 p hp') (hQ p hp')
  have hne : p ≠ p1 := fun e => by
    rw [e, h17] at z
    exact absurd z (by decide)
  exact ft_28 h hL hp' hp1 hl hne (fun x => hF.i (by decide) x) (fun x => hF.i (by decide) x) h28
theorem more_bd {p a b : Int32} (hp : P_in p 1 99) (ha : P_in a 1 99) (hb : P_in b 1 100000) : -9800000 ≤ ((p - a).toInt64 * b.toInt64).toInt ∧ ((p - a).toInt64 * b.toInt64).toInt ≤ 9800000 := by
  have p1 := in_int hp
  have a1 := in_int ha
  have b1 := in_int hb
  rw [show (1 : Int32).toInt = 1 from by decide, show (99 : Int32).toInt = 99 from by decide] at p1 a1
  rw [show (1 : Int32).toInt = 1 from by decide, show (100000 : Int32).toInt = 100000 from by decide] at b1
  have e1 := w_s32 (x := p) (y := a) rfl rfl (by omega) (by omega)
  have q1 := mul_bd (a := p.toInt - a.toInt + 98) (b := b.toInt) (A := 196) (B := 100000) (by omega) (by omega) (by omega) (by omega)
  have q2 := mul_bd (a := 98 - (p.toInt - a.toInt)) (b := b.toInt) (A := 196) (B := 100000) (by omega) (by omega) (by omega) (by omega)
  rw [Int.add_mul] at q1
  rw [Int.sub_mul] at q2
  rw [w_m64 (x := (p - a).toInt64) (y := b.toInt64) ((Int32.toInt_toInt64 _).trans e1) (Int32.toInt_toInt64 _) (by omega) (by omega)]
  omega
theorem add_ge {c v : Int64} (h0 : 0 ≤ c) (h1 : c ≤ 1000000000) (h2 : 0 < v) (h3 : v.toInt ≤ 9800000) : 0 ≤ c + v := by
  rw [Int64.le_iff_toInt_le] at h0 h1 ⊢
  rw [Int64.lt_iff_toInt_lt] at h2
  rw [show (0 : Int64).toInt = 0 from by decide] at *
  rw [show (1000000000 : Int64).toInt = 1000000000 from by decide] at h1
  rw [w_a64 (x := c) (y := v) rfl rfl (by omega) (by omega)]
  omega
theorem VV.cg {M M' : MS} {A B : List Nat} (h : VV M) (hf : Fr A B M M') (h40 : 40 ∉ A) (h21 : 21 ∉ A) (h18 : 18 ∉ A) : VV M' := fun v hv => by
  have hv2 : P_isInvoice v M := by
    show P_in v 0 (mI M 39 - 1)
    rw [← hf.1]; exact hv
  have h9 := h v hv2
  rw [hf.i h40, hf.i h21]
  exact ⟨⟨(dm_cg hf.1 (fun i => hf.2.2.1 18 h18 i)).mpr h9.1.1, h9.1.2⟩, h9.2⟩
section HM3
variable {X : CX} {S : CT} {M : MS}
theorem RR.more (h : RR X S M) (hL : LVX X) {p1 p2 p3 : Int32} (c1 : P_isRequest p1 M) (c2 : P_in p2 0 (gI M 18 p1 - 1)) : (((p3 - (ci S 130 (4 * p1 + p2))).toInt64) * ((xi X 129 (4 * p1 + p2)).toInt64)) = (((p3 - (gI M 28 ((4 * p1) + p2))).toInt64) * ((gI M 29 ((4 * p1) + p2)).toInt64)) := by
  rw [show ci S 130 (4 * p1 + p2) = gI M 28 (4 * p1 + p2) from (h.rdI (f := 130) (j := 28) (c := 9) (x := 4 * p1 + p2) rfl (h.dln hL c1 c2)), show xi X 129 (4 * p1 + p2) = gI M 29 (4 * p1 + p2) from (h.rdF (f := 129) (j := 29) (c := 9) (x := 4 * p1 + p2) rfl (h.dln hL c1 c2))]
theorem RR.sum2 (h : RR X S M) (hL : LVX X) {p1 p2 : Int32} (c1 : P_isRequest p1 M) (c2 : P_in p2 0 (gI M 18 p1 - 1)) : ci S 132 (4 * p1 + p2) + ci S 133 (4 * p1 + p2) = f_bookedPieces (4 * p1 + p2) M + f_heldPieces (4 * p1 + p2) M := by
  have h9 := h.bk (h.dln hL c1 c2) (h.lix hL c1 c2)
  rw [h9.1, h9.2]
theorem RR.mmay (h : RR X S M) (hL : LVX X) {p1 p2 p3 : Int32} (c1 : P_isRequest p1 M) (c2 : P_in p2 0 (gI M 18 p1 - 1)) (hq : QK M p1) (h4 : gI M 17 p1 = 4) : (¬ ci S 33 (xi X 257 p1) = 0 ∨ (((p3 - (ci S 130 (4 * p1 + p2))).toInt64) * ((xi X 129 (4 * p1 + p2)).toInt64)) ≤ k_free (3 * (xi X 257 p1) + (ci S 260 p1)) X S) ↔ P_may (gI M 16 p1) (gI M 20 p1) (((p3 - (gI M 28 ((4 * p1) + p2))).toInt64) * ((gI M 29 ((4 * p1) + p2)).toInt64)) M := by
  rw [h.more hL c1 c2, show xi X 257 p1 = gI M 16 p1 from h.rdF (f := 257) (j := 16) (c := 1) rfl (h.d14 hL c1), show ci S 260 p1 = gI M 20 p1 from h.rdI (f := 260) (j := 20) (c := 1) rfl (h.d14 hL c1)]
  exact h.may hq.1 (hq.2.2.2.2.2.2.2.1 h4)
end HM3
set_option maxRecDepth 100000 in
theorem eq_change {X : CX} {S : CT} {M : MS} {p1 : Int32} {p2 : Int32} {p3 : Int32} (hX : XOK X) (hL : LVX X) (h : RR X S M) (hQ : ∀ p, P_isRequest p M → QK M p) (hY : P_isYear (f_yearNow M)) (hV : VV M) (hT : ∀ p, P_isRequest p M → gJ M 19 p ≤ 1000000000) (hLn : ∀ q : Int32, dm M 9 q.toNatClampNeg → P_in (gI M 28 q) 1 99 ∧ P_in (gI M 29 q) 1 100000) : EQi X S xcIAS (k_change p1 p2 p3 X S) (f_change p1 p2 p3 M) := by
  unfold k_change f_change
  by_cases c1 : P_isRequest p1 M
  · by_cases c2 : P_in p2 0 (gI M 18 p1 - 1)
    · by_cases c3 : P_in p3 1 99
      · by_cases c4 : (gI M 17 p1) = 4
        · by_cases c5 : p3 < (gI M 30 ((4 * p1) + p2))
          · have c6 : (f_canChange p1 ((4 * p1) + p2) p3 M) = 0 := (by unfold f_canChange; rw [if_pos c4, if_pos c5])
            rw [if_pos ((h.n14 hL).mpr c1), if_pos ((h.lnN hL c1).mpr c2), if_pos c3, if_pos ((eq_keep (h.rdI (f := 259) (j := 17) (c := 1) (x := p1) rfl (h.d14 hL c1))).mpr c4), if_pos ((lt_keep (a := p3) (c := p3) rfl (h.rdI (f := 131) (j := 30) (c := 9) (x := 4 * p1 + p2) rfl (h.dln hL c1 c2))).mpr c5), if_pos (Iff.rfl.mpr ⟨c1, c2⟩), if_pos c3, if_pos c6]
            exact ⟨mI_sIs.trans xIAS_S.symm, h.thr⟩
          · by_cases c7 : ((f_bookedPieces ((4 * p1) + p2) M) + (f_heldPieces ((4 * p1) + p2) M)) ≤ p3
            · by_cases c8 : 0 < (lg_cmp ((f_total p1 M) + (((p3 - (gI M 28 ((4 * p1) + p2))).toInt64) * ((gI M 29 ((4 * p1) + p2)).toInt64))) (((gJ M 22 p1) * 105) / 100))
              · have c9 : (f_canChange p1 ((4 * p1) + p2) p3 M) = 0 := (by unfold f_canChange; rw [if_pos c4, if_neg c5, if_pos c7, if_pos c8])
                rw [if_pos ((h.n14 hL).mpr c1), if_pos ((h.lnN hL c1).mpr c2), if_pos c3, if_pos ((eq_keep (h.rdI (f := 259) (j := 17) (c := 1) (x := p1) rfl (h.d14 hL c1))).mpr c4), if_neg (fun z => c5 ((lt_keep (a := p3) (c := p3) rfl (h.rdI (f := 131) (j := 30) (c := 9) (x := 4 * p1 + p2) rfl (h.dln hL c1 c2))).mp z)), if_pos ((le_keep (b := p3) (d := p3) (h.sum2 hL c1 c2) rfl).mpr c7), if_neg (fun z => ((cmp_neg (by rw [h.total hL c1, h.more hL c1 c2]) (by rw [h.rdJ (f := 265) (j := 22) (c := 1) (x := p1) rfl (h.d14 hL c1)])).mp z) c8), if_pos (Iff.rfl.mpr ⟨c1, c2⟩), if_pos c3, if_pos c9]
                exact ⟨mI_sIs.trans xIAS_S.symm, h.thr⟩
              · by_cases c10 : (lg_cmp (((p3 - (gI M 28 ((4 * p1) + p2))).toInt64) * ((gI M 29 ((4 * p1) + p2)).toInt64)) 0) ≤ 0
                · have c11 : ¬ ((f_canChange p1 ((4 * p1) + p2) p3 M) = 0) := (fun z => by unfold f_canChange at z; rw [if_pos c4, if_neg c5, if_pos c7, if_neg c8, if_pos c10] at z; exact absurd z (by decide))
                  rw [if_pos ((h.n14 hL).mpr c1), if_pos ((h.lnN hL c1).mpr c2), if_pos c3, if_pos ((eq_keep (h.rdI (f := 259) (j := 17) (c := 1) (x := p1) rfl (h.d14 hL c1))).mpr c4), if_neg (fun z => c5 ((lt_keep (a := p3) (c := p3) rfl (h.rdI (f := 131) (j := 30) (c := 9) (x := 4 * p1 + p2) rfl (h.dln hL c1 c2))).mp z)), if_pos ((le_keep (b := p3) (d := p3) (h.sum2 hL c1 c2) rfl).mpr c7), if_pos ((cmp_neg (by rw [h.total hL c1, h.more hL c1 c2]) (by rw [h.rdJ (f := 265) (j := 22) (c := 1) (x := p1) rfl (h.d14 hL c1)])).mpr c8), if_pos ((cmp_keep (h.more hL c1 c2)).mpr c10), if_pos (Iff.rfl.mpr ⟨c1, c2⟩), if_pos c3, if_neg c11, if_pos c10]
                  have hd := (h.dln hL c1 c2)
                  have hq := hQ p1 c1
                  have hq0 : QK (sI M 0 0) p1 := qk_0 hq
                  have bd := more_bd c3 (hLn (4 * p1 + p2) hd).1 (hLn (4 * p1 + p2) hd).2
                  have hlt := c10
                  rw [h.more hL c1 c2]
                  generalize (p3 - gI M 28 (4 * p1 + p2)).toInt64 * (gI M 29 (4 * p1 + p2)).toInt64 = mo at bd hlt ⊢
                  have r1 := ((h.thr (v := 0)).frees hL (p := p1) (v := -mo) c1 hq.1 hq.2.2.1.2).1
                  have r2 := r1.pI (f := 130) (j := 28) (x := 4 * p1 + p2) (v := p3) rfl
                  rw [← fr28] at r2
                  have hF : Fr [28] [19, 11] (sI M 0 0) (f_frees p1 (-mo) (rI (sI M 0 0) 28 (4 * p1 + p2) p3)).2 := (Fr.rfl'.rI (by decide)).frees (by decide) (by decide)
                  have r3 := r2.look hL (q := 4 * p1 + p2) (qk_28 (h.thr (v := 0)) hL c1 c2 c4 hF (fun i hi => by rw [fr28, gn_rI, if_neg (fun z => hi z.2)]; exact ((Fr.rfl' (A := []) (B := [19, 11])).frees (by decide) (by decide)).2.2.1 28 (by decide) i) (fun p hp => by
                    have h8 := dn_frees (p := p1) (v := -mo) (M := rI (sI M 0 0) 28 (4 * p1 + p2) p3) p.toNatClampNeg (hQ p hp).2.2.1.1
                    exact ⟨h8.1, fun z => (hQ p hp).2.2.1.2 (Int64.lt_of_lt_of_le z h8.2)⟩) (fun p hp => qk_0 (hQ p hp))) (by unfold f_yearNow; rw [hF.1]; exact hY) ((vv_0 hV).cg hF (by decide) (by decide) (by decide))
                  exact ⟨(congrFun (it_look_fr (q := 4 * p1 + p2) _).1.1 0).trans (congrFun hF.1 0), r3.1, r3.2⟩
                · by_cases c12 : P_may (gI M 16 p1) (gI M 20 p1) (((p3 - (gI M 28 ((4 * p1) + p2))).toInt64) * ((gI M 29 ((4 * p1) + p2)).toInt64)) M
                  · have c13 : ¬ ((f_canChange p1 ((4 * p1) + p2) p3 M) = 0) := (fun z => by unfold f_canChange at z; rw [if_pos c4, if_neg c5, if_pos c7, if_neg c8, if_neg c10, if_pos c12] at z; exact absurd z (by decide))
                    rw [if_pos ((h.n14 hL).mpr c1), if_pos ((h.lnN hL c1).mpr c2), if_pos c3, if_pos ((eq_keep (h.rdI (f := 259) (j := 17) (c := 1) (x := p1) rfl (h.d14 hL c1))).mpr c4), if_neg (fun z => c5 ((lt_keep (a := p3) (c := p3) rfl (h.rdI (f := 131) (j := 30) (c := 9) (x := 4 * p1 + p2) rfl (h.dln hL c1 c2))).mp z)), if_pos ((le_keep (b := p3) (d := p3) (h.sum2 hL c1 c2) rfl).mpr c7), if_pos ((cmp_neg (by rw [h.total hL c1, h.more hL c1 c2]) (by rw [h.rdJ (f := 265) (j := 22) (c := 1) (x := p1) rfl (h.d14 hL c1)])).mpr c8), if_neg (fun z => c10 ((cmp_keep (h.more hL c1 c2)).mp z)), if_pos ((h.mmay hL c1 c2 (hQ p1 c1) c4).mpr c12), if_pos (Iff.rfl.mpr ⟨c1, c2⟩), if_pos c3, if_neg c13, if_neg c10]
                    have hd := (h.dln hL c1 c2)
                    have hq := hQ p1 c1
                    have hq0 : QK (sI M 0 0) p1 := qk_0 hq
                    have bd := more_bd c3 (hLn (4 * p1 + p2) hd).1 (hLn (4 * p1 + p2) hd).2
                    have hlt := c10
                    rw [h.more hL c1 c2]
                    generalize (p3 - gI M 28 (4 * p1 + p2)).toInt64 * (gI M 29 (4 * p1 + p2)).toInt64 = mo at bd hlt ⊢
                    have r1 := (h.thr (v := 0)).commits hL (p := p1) (v := mo) c1 hq.1 (hq.2.2.2.2.2.2.2.1 c4)
                    have r2 : RR X (si (k_commit p1 mo X S) 130 (4 * p1 + p2) p3) (f_commits p1 mo (rI (sI M 0 0) 28 (4 * p1 + p2) p3)) := r1.pI (f := 130) (j := 28) (x := 4 * p1 + p2) (v := p3) rfl
                    have hF : Fr [28] [19, 11] (sI M 0 0) (f_commits p1 mo (rI (sI M 0 0) 28 (4 * p1 + p2) p3)) := (Fr.rfl'.rI (by decide)).commits (by decide) (by decide)
                    have hpos : 0 < mo := by
                      rw [lg_cmp_le] at hlt
                      exact Int64.not_le.mp hlt
                    have r3 := r2.look hL (q := 4 * p1 + p2) (qk_28 (h.thr (v := 0)) hL c1 c2 c4 hF (fun i hi => by
                      show gn (rI (sI M 0 0) 28 (4 * p1 + p2) p3) 28 i = _
                      rw [gn_rI, if_neg (fun z => hi z.2)]) (fun p hp => by
                      have e19 : gJ (f_commits p1 mo (rI (sI M 0 0) 28 (4 * p1 + p2) p3)) 19 p = if p.toNatClampNeg = p1.toNatClampNeg then gJ M 19 p1 + mo else gJ M 19 p := by
                        show gl (rJ (rJ (rI (sI M 0 0) 28 (4 * p1 + p2) p3) 19 p1 (gJ M 19 p1 + mo)) 11 _ _) 19 p.toNatClampNeg = _
                        rw [gl_rJn (by decide), gl_rJ]
                        by_cases z : p.toNatClampNeg = p1.toNatClampNeg
                        · rw [if_pos ⟨rfl, z⟩, if_pos z]
                        · rw [if_neg (fun y => z y.2), if_neg z]; rfl
                      rw [e19]
                      by_cases z : p.toNatClampNeg = p1.toNatClampNeg
                      · rw [if_pos z]
                        have e20 : gI (sI M 0 0) 20 p = gI M 20 p1 := by
                          show M.2.2.1 20 p.toNatClampNeg = M.2.2.1 20 p1.toNatClampNeg
                          rw [z]
                        exact ⟨add_ge hq.2.2.1.1 (hT p1 c1) hpos bd.2, fun _ => by rw [e20]; exact hq.2.2.2.2.2.2.2.1 c4⟩
                      · rw [if_neg z]
                        exact (hQ p hp).2.2.1) (fun p hp => qk_0 (hQ p hp))) (by unfold f_yearNow; rw [hF.1]; exact hY) ((vv_0 hV).cg hF (by decide) (by decide) (by decide))
                    exact ⟨(congrFun (it_look_fr (q := 4 * p1 + p2) _).1.1 0).trans (congrFun hF.1 0), r3.1, r3.2⟩
                  · have c14 : (f_canChange p1 ((4 * p1) + p2) p3 M) = 0 := (by unfold f_canChange; rw [if_pos c4, if_neg c5, if_pos c7, if_neg c8, if_neg c10, if_neg c12])
                    rw [if_pos ((h.n14 hL).mpr c1), if_pos ((h.lnN hL c1).mpr c2), if_pos c3, if_pos ((eq_keep (h.rdI (f := 259) (j := 17) (c := 1) (x := p1) rfl (h.d14 hL c1))).mpr c4), if_neg (fun z => c5 ((lt_keep (a := p3) (c := p3) rfl (h.rdI (f := 131) (j := 30) (c := 9) (x := 4 * p1 + p2) rfl (h.dln hL c1 c2))).mp z)), if_pos ((le_keep (b := p3) (d := p3) (h.sum2 hL c1 c2) rfl).mpr c7), if_pos ((cmp_neg (by rw [h.total hL c1, h.more hL c1 c2]) (by rw [h.rdJ (f := 265) (j := 22) (c := 1) (x := p1) rfl (h.d14 hL c1)])).mpr c8), if_neg (fun z => c10 ((cmp_keep (h.more hL c1 c2)).mp z)), if_neg (fun z => c12 ((h.mmay hL c1 c2 (hQ p1 c1) c4).mp z)), if_pos (Iff.rfl.mpr ⟨c1, c2⟩), if_pos c3, if_pos c14]
                    exact ⟨mI_sIs.trans xIAS_S.symm, h.thr⟩
            · have c15 : (f_canChange p1 ((4 * p1) + p2) p3 M) = 0 := (by unfold f_canChange; rw [if_pos c4, if_neg c5, if_neg c7])
              rw [if_pos ((h.n14 hL).mpr c1), if_pos ((h.lnN hL c1).mpr c2), if_pos c3, if_pos ((eq_keep (h.rdI (f := 259) (j := 17) (c := 1) (x := p1) rfl (h.d14 hL c1))).mpr c4), if_neg (fun z => c5 ((lt_keep (a := p3) (c := p3) rfl (h.rdI (f := 131) (j := 30) (c := 9) (x := 4 * p1 + p2) rfl (h.dln hL c1 c2))).mp z)), if_neg (fun z => c7 ((le_keep (b := p3) (d := p3) (h.sum2 hL c1 c2) rfl).mp z)), if_pos (Iff.rfl.mpr ⟨c1, c2⟩), if_pos c3, if_pos c15]
              exact ⟨mI_sIs.trans xIAS_S.symm, h.thr⟩
        · have c16 : (f_canChange p1 ((4 * p1) + p2) p3 M) = 0 := (by unfold f_canChange; rw [if_neg c4])
          rw [if_pos ((h.n14 hL).mpr c1), if_pos ((h.lnN hL c1).mpr c2), if_pos c3, if_neg (fun z => c4 ((eq_keep (h.rdI (f := 259) (j := 17) (c := 1) (x := p1) rfl (h.d14 hL c1))).mp z)), if_pos (Iff.rfl.mpr ⟨c1, c2⟩), if_pos c3, if_pos c16]
          exact ⟨mI_sIs.trans xIAS_S.symm, h.thr⟩
      · rw [if_pos ((h.n14 hL).mpr c1), if_pos ((h.lnN hL c1).mpr c2), if_neg c3, if_pos (Iff.rfl.mpr ⟨c1, c2⟩), if_neg c3]
        exact ⟨mI_sIs.trans xIAS_A.symm, h.thr⟩
    · rw [if_pos ((h.n14 hL).mpr c1), if_neg (fun z => c2 ((h.lnN hL c1).mp z)), if_neg (fun z => c2 (Iff.rfl.mp z).2)]
      exact ⟨mI_sIs.trans xIAS_I.symm, h.thr⟩
  · rw [if_neg (fun z => c1 ((h.n14 hL).mp z)), if_neg (fun z => c1 (Iff.rfl.mp z).1)]
    exact ⟨mI_sIs.trans xIAS_I.symm, h.thr⟩
