section HF
variable {X : CX} {S : CT} {M : MS}
theorem ft_cg {M M' : MS} {p : Int32} (h1 : ∀ x, gI M' 28 x = gI M 28 x) (h2 : ∀ x, gI M' 29 x = gI M 29 x) (h3 : ∀ x, gI M' 18 x = gI M 18 x) : f_total p M' = f_total p M := by
  have hb : ∀ n, it_total p M' n = it_total p M n := fun n => by
    induction n with
    | zero => rfl
    | succ n ih => simp only [it_total, st_total, ih, h1, h2]
  unfold f_total
  rw [h3, hb]
theorem ch_cg {M M' : MS} {p : Int32} {t : Int64} (h3 : mI M' 3 = mI M 3) (h23 : ∀ x, gI M' 23 x = gI M 23 x) (h24 : gI M' 24 p = gI M 24 p) (h25 : gI M' 25 p = gI M 25 p) (h4 : ∀ x, gI M' 4 x = gI M 4 x) (h5 : ∀ x, gI M' 5 x = gI M 5 x) (h : CH M p t) : CH M' p t := by
  obtain ⟨n, a, hn, ha, e1, e2, hj⟩ := h
  refine ⟨n, a, hn, ha, by rw [h24, e1], by rw [h25, e2], fun j hlt => ?_⟩
  have h9 := hj j hlt
  rw [h23, h23]
  unfold P_isPerson MB
  rw [h3, h5, h4]
  exact h9
/-- the place in the chain is told -/
theorem RR.wt (h : RR X S M) {p u v : Int32} (hpn : nI p.toNatClampNeg = p) (hu : u = if gI M 24 p ≤ v then -1 else gI M 23 (12 * p + v)) : RR X (si S 262 p u) (rI M 25 p v) := by
  have hd : ∀ c i, dm (rI M 25 p v) c i ↔ dm M c i := fun c i => dm_rI (by decide)
  have hg : ∀ b i, b ≠ 25 → gn (rI M 25 p v) b i = gn M b i := fun b i z => gn_rIn z
  have hS : ∀ b i, b ≠ 262 → (si S 262 p u).1 b i = S.1 b i := fun b i z => s1_sn z
  obtain ⟨⟨r1, r2⟩, ⟨r3, r4, r5, r6, r7⟩, ⟨r8, r9⟩, ⟨r10, r11⟩, ⟨r12, r13⟩, r14, r15, r16, r17⟩ := h
  refine ⟨⟨fun t ht i hi => ?_, fun t ht i hi => r2 t ht i ((hd _ _).mp hi)⟩, ⟨fun t ht i hi => ?_, fun t ht i hi => r4 t ht i ((hd _ _).mp hi), fun i hi => r5 i ((hd 0 i).mp hi), r6, fun i hi => ?_⟩, ⟨fun t ht => ?_, r9⟩, ⟨r10, fun q hq => ?_⟩, ⟨?_, fun i hi => ?_⟩, fun q hq => ?_, fun q hq => ?_, fun i hi => ?_, r17⟩
  · have h9 : ∀ t ∈ TI, t.1 ≠ 262 ∧ t.2.1 ≠ 25 := by decide
    rw [hS _ _ (h9 t ht).1, hg _ _ (h9 t ht).2]
    exact r1 t ht i ((hd _ _).mp hi)
  · have h9 : ∀ t ∈ TF, t.2.1 ≠ 25 := by decide
    rw [hg _ _ (h9 t ht)]
    exact r3 t ht i ((hd _ _).mp hi)
  · rw [hg 40 _ (by decide), hg 21 _ (by decide)]
    exact r7 i ((hd 2 i).mp hi)
  · have h9 : ∀ t ∈ T0, t.1 ≠ 262 := by decide
    rw [hS _ _ (h9 t ht)]
    exact r8 t ht
  · rw [hg 18 _ (by decide)]
    exact r11 q hq
  · unfold RC
    rw [hS 362 _ (by decide)]
    exact r12
  · rw [hg 6 _ (by decide), hg 7 _ (by decide), hS 196 _ (by decide)]
    exact r13 i ((hd 0 i).mp hi)
  · have h9 := r14 q ((hd 1 q).mp hq)
    by_cases z : q = p.toNatClampNeg
    · have e25 : gn (rI M 25 p v) 25 q = v := by rw [gn_rI, if_pos ⟨rfl, z⟩]
      have e262 : (si S 262 p u).1 262 q = u := by rw [s1_si, if_pos ⟨rfl, z⟩]
      rw [e262, hg 24 q (by decide), e25, gI_n, hg 23 _ (by decide), z, hpn, hu]
      rfl
    · have e25 : gn (rI M 25 p v) 25 q = gn M 25 q := by rw [gn_rI, if_neg (fun y => z y.2)]
      have e262 : (si S 262 p u).1 262 q = S.1 262 q := by rw [s1_si, if_neg (fun y => z y.2)]
      rw [e262, hg 24 q (by decide), e25, gI_n, hg 23 _ (by decide)]
      exact h9
  · have h9 := fb_cg (M := M) (M' := rI M 25 p v) (q := nI q) rfl (fun i => hg 40 _ (by decide)) (fun i => hg 41 _ (by decide)) (fun i => hg 44 _ (by decide))
    rw [hS 132 _ (by decide), hS 133 _ (by decide), h9.1, h9.2]
    exact r15 q ((hd 9 q).mp hq)
  · rw [hS 110 _ (by decide), hS 104 _ (by decide), hS 109 _ (by decide), hg 44 _ (by decide), hg 52 _ (by decide), hg 49 _ (by decide), hg 50 _ (by decide)]
    exact r16 i ((hd 2 i).mp hi)
/-- the one whose turn it was has approved -/
theorem RR.wturn (h : RR X S M) (hL : LVX X) {p : Int32} {t : Int64} (hp : P_isRequest p M) (hc : CH M p t) (hne : ¬ ci S 262 p = -1) : RR X (si S 262 p (k_bossAfter (ci S 262 p) t X S)) (rI M 25 p (gI M 25 p + 1)) ∧ CH (rI M 25 p (gI M 25 p + 1)) p t := by
  obtain ⟨n, a, hn, ha, e1, e2, hj⟩ := hc
  have ht := h.turnC hL hp hn ha e1 e2
  have hlt : a < n := by
    rcases Nat.lt_or_ge a n with z | z
    · exact z
    · rw [if_neg (by omega)] at ht
      exact absurd ht hne
  rw [if_pos hlt] at ht
  obtain ⟨r, hr, h40, er, e, h4⟩ := h.rq hL hp
  refine ⟨h.wt ?_ ?_, n, a + 1, hn, by omega, e1, ?_, hj⟩
  · rw [er, nI_clamp (by omega)]
  · rw [ht, h.boss hL (hj a hlt).1, (hj a hlt).2, e1, e2, nI_1]
    by_cases c : a + 1 < n
    · rw [if_pos c, if_neg (fun y => by have := (nI_leI (a := n) (b := a + 1) (by omega) (by omega)).mp y; omega)]
    · rw [if_neg c, if_pos (nI_le (by omega) (by omega))]
  · rw [gI_rIs, e2, nI_1]
theorem RR.wait (h : RR X S M) (hL : LVX X) {p : Int32} (hp : P_isRequest p M) (hc : CH M p (f_total p M)) (h17 : gI M 17 p = 1) : (k_waitOrApprove p X S).1 = f_left p M ∧ RR X (k_waitOrApprove p X S).2 (rI M 17 p (if f_left p M = 0 then 2 else 1)) := by
  unfold k_waitOrApprove
  rw [h.left hL hp hc]
  by_cases c : f_left p M = 0
  · rw [if_pos c, if_pos c]
    exact ⟨rfl, h.pI rfl⟩
  · rw [if_neg c, if_neg c, rI_self h17]
    exact ⟨rfl, h⟩
/-- a supplier is told, with no invoice yet -/
theorem RR.wsup (h : RR X S M) {p s : Int32} (hN : ∀ i, dm M 2 i → (gn M 40 i).toNatClampNeg / 4 ≠ p.toNatClampNeg) : RR X (si S 264 p s) (rI M 21 p s) := by
  have hd : ∀ c i, dm (rI M 21 p s) c i ↔ dm M c i := fun c i => dm_rI (by decide)
  have hg : ∀ b i, b ≠ 21 → gn (rI M 21 p s) b i = gn M b i := fun b i z => gn_rIn z
  have hS : ∀ b i, b ≠ 264 → (si S 264 p s).1 b i = S.1 b i := fun b i z => s1_sn z
  obtain ⟨⟨r1, r2⟩, ⟨r3, r4, r5, r6, r7⟩, ⟨r8, r9⟩, ⟨r10, r11⟩, ⟨r12, r13⟩, r14, r15, r16, r17⟩ := h
  refine ⟨⟨fun t ht i hi => ?_, fun t ht i hi => r2 t ht i ((hd _ _).mp hi)⟩, ⟨fun t ht i hi => ?_, fun t ht i hi => r4 t ht i ((hd _ _).mp hi), fun i hi => r5 i ((hd 0 i).mp hi), r6, fun i hi => ?_⟩, ⟨fun t ht => ?_, r9⟩, ⟨r10, fun q hq => ?_⟩, ⟨?_, fun i hi => ?_⟩, fun q hq => ?_, fun q hq => ?_, fun i hi => ?_, r17⟩
  · have h9 : ∀ t ∈ TI, (t.1 = 264 ↔ t.2.1 = 21) := by decide
    rw [s1_si, gn_rI]
    by_cases z : t.1 = 264 ∧ i = p.toNatClampNeg
    · rw [if_pos z, if_pos ⟨(h9 t ht).mp z.1, z.2⟩]
    · rw [if_neg z, if_neg (fun y => z ⟨(h9 t ht).mpr y.1, y.2⟩)]
      exact r1 t ht i ((hd _ _).mp hi)
  · have h9 : ∀ t ∈ TF, t.2.1 ≠ 21 := by decide
    rw [hg _ _ (h9 t ht)]
    exact r3 t ht i ((hd _ _).mp hi)
  · rw [hg 40 _ (by decide), gn_rI, if_neg (fun y => hN i ((hd 2 i).mp hi) y.2)]
    exact r7 i ((hd 2 i).mp hi)
  · have h9 : ∀ t ∈ T0, t.1 ≠ 264 := by decide
    rw [hS _ _ (h9 t ht)]
    exact r8 t ht
  · rw [hg _ _ (by decide)]
    exact r11 q hq
  · unfold RC
    rw [hS _ _ (by decide)]
    exact r12
  · rw [hg _ _ (by decide), hg _ _ (by decide), hS _ _ (by decide)]
    exact r13 i ((hd 0 i).mp hi)
  · rw [hS _ _ (by decide), hg _ _ (by decide), hg _ _ (by decide), gI_n, hg _ _ (by decide)]
    exact r14 q ((hd 1 q).mp hq)
  · have h9 := fb_cg (M := M) (M' := rI M 21 p s) (q := nI q) rfl (fun i => hg _ _ (by decide)) (fun i => hg _ _ (by decide)) (fun i => hg _ _ (by decide))
    rw [hS _ _ (by decide), hS _ _ (by decide), h9.1, h9.2]
    exact r15 q ((hd 9 q).mp hq)
  · rw [hS _ _ (by decide), hS _ _ (by decide), hS _ _ (by decide), hg _ _ (by decide), hg _ _ (by decide), hg _ _ (by decide), hg _ _ (by decide)]
    exact r16 i ((hd 2 i).mp hi)
theorem kt_cg {p : Int32} {f : Nat} {x v : Int32} (hf : (130 == f) = false) : k_total p X (si S f x v) = k_total p X S := by
  have hb : ∀ n, kit_total p X (si S f x v) n = kit_total p X S n := fun n => by
    induction n with
    | zero => rfl
    | succ n ih => simp only [kit_total, kst_total, ih, ci_sn hf]
  unfold k_total
  exact hb _
end HF
theorem eq_approve {X : CX} {S : CT} {M : MS} {p1 : Int32} {p2 : Int32} (hX : XOK X) (hL : LVX X) (h : RR X S M) (hQ : ∀ p, P_isRequest p M → QK M p) (hD : ¬ mI M 1 < 0) (hU : ∀ b, P_isPerson b M → gI M 6 b = 0 ∨ P_isPerson (gI M 7 b) M) : EQi X S xcIS (k_approve p1 p2 X S) (f_approve p1 p2 M) := by
  unfold k_approve f_approve
  by_cases c1 : P_isRequest p1 M
  · by_cases c2 : P_isPerson p2 M
    · by_cases c3 : (gI M 17 p1) = 1
      · by_cases c4 : (ci S 262 p1) = -1
        · have c5 : ¬ (f_byTurn p1 M) = p2 := (fun z => by
    have h1 := h.byT hL c1 hD (hQ p1 c1).2.2.2.2.1.choose_spec
    rw [c4, h.appr hL c1 (Or.inl rfl) hD, if_pos rfl, z] at h1
    exact person_ne c2 h1.symm)
          by_cases c6 : (f_byController p1 M) = p2
          · have c7 : P_can p1 p2 M := ⟨c3, Or.inr c6⟩
            by_cases c8 : (f_left p1 (rI (sI M 0 0) 26 p1 (-1))) = 0
            · rw [if_pos ((h.n14 hL).mpr c1), if_pos ((h.n3 hL).mpr c2), if_pos ((eq_keep (h.rdI (f := 259) (j := 17) (c := 1) (x := p1) rfl (h.d14 hL c1))).mpr c3), if_pos c4, if_pos ((eq_flip (h.byC hL c1 hD (hQ p1 c1).2.2.2.1)).mpr c6), if_pos c1, if_pos c2, if_pos c7, if_neg (fun z => c5 ((show (f_byTurn p1 (sI M 0 0)) = p2 ↔ (f_byTurn p1 M) = p2 from Iff.rfl).mp z)), if_pos c8]
              have hq := hQ p1 c1
              have r1 := (h.thr (v := 0)).pI (f := 263) (j := 26) (x := p1) (v := -1) rfl
              have et : f_total p1 (rI (sI M 0 0) 26 p1 (-1)) = f_total p1 M := ft_cg (fun x => gI_rIn rfl) (fun x => gI_rIn rfl) (fun x => gI_rIn rfl)
              have r2 := r1.wait hL (p := p1) c1 (by
                rw [et]
                exact ch_cg rfl (fun x => gI_rIn rfl) (gI_rIn rfl) (gI_rIn rfl) (fun x => gI_rIn rfl) (fun x => gI_rIn rfl) (hq.2.2.2.2.2.1 c3)) ((gI_rIn (j := 17) rfl).trans c3)
              have r3 := r2.2
              rw [if_pos c8] at r3
              exact ⟨rfl, r2.1, r3⟩
            · rw [if_pos ((h.n14 hL).mpr c1), if_pos ((h.n3 hL).mpr c2), if_pos ((eq_keep (h.rdI (f := 259) (j := 17) (c := 1) (x := p1) rfl (h.d14 hL c1))).mpr c3), if_pos c4, if_pos ((eq_flip (h.byC hL c1 hD (hQ p1 c1).2.2.2.1)).mpr c6), if_pos c1, if_pos c2, if_pos c7, if_neg (fun z => c5 ((show (f_byTurn p1 (sI M 0 0)) = p2 ↔ (f_byTurn p1 M) = p2 from Iff.rfl).mp z)), if_neg c8]
              have hq := hQ p1 c1
              have r1 := (h.thr (v := 0)).pI (f := 263) (j := 26) (x := p1) (v := -1) rfl
              have et : f_total p1 (rI (sI M 0 0) 26 p1 (-1)) = f_total p1 M := ft_cg (fun x => gI_rIn rfl) (fun x => gI_rIn rfl) (fun x => gI_rIn rfl)
              have r2 := r1.wait hL (p := p1) c1 (by
                rw [et]
                exact ch_cg rfl (fun x => gI_rIn rfl) (gI_rIn rfl) (gI_rIn rfl) (fun x => gI_rIn rfl) (fun x => gI_rIn rfl) (hq.2.2.2.2.2.1 c3)) ((gI_rIn (j := 17) rfl).trans c3)
              have r3 := r2.2
              rw [if_neg c8] at r3
              exact ⟨rfl, r2.1, r3⟩
          · have c9 : ¬ (P_can p1 p2 M) := (fun z => z.2.elim c5 c6)
            rw [if_pos ((h.n14 hL).mpr c1), if_pos ((h.n3 hL).mpr c2), if_pos ((eq_keep (h.rdI (f := 259) (j := 17) (c := 1) (x := p1) rfl (h.d14 hL c1))).mpr c3), if_pos c4, if_neg (fun z => c6 ((eq_flip (h.byC hL c1 hD (hQ p1 c1).2.2.2.1)).mp z)), if_pos c1, if_pos c2, if_neg c9]
            exact ⟨mI_sIs.trans xIS_S.symm, h.thr⟩
        · by_cases c10 : (f_byTurn p1 M) = p2
          · have c11 : P_can p1 p2 M := ⟨c3, Or.inl c10⟩
            by_cases c12 : (f_left p1 (rI (sI M 0 0) 25 p1 ((gI M 25 p1) + 1))) = 0
            · rw [if_pos ((h.n14 hL).mpr c1), if_pos ((h.n3 hL).mpr c2), if_pos ((eq_keep (h.rdI (f := 259) (j := 17) (c := 1) (x := p1) rfl (h.d14 hL c1))).mpr c3), if_neg c4, if_pos ((eq_flip (h.byT hL c1 hD (hQ p1 c1).2.2.2.2.1.choose_spec)).mpr c10), if_pos c1, if_pos c2, if_pos c11, if_pos ((show (f_byTurn p1 (sI M 0 0)) = p2 ↔ (f_byTurn p1 M) = p2 from Iff.rfl).mpr c10), if_pos c12]
              have hq := hQ p1 c1
              have h0 := h.thr (v := 0)
              rw [h.total hL c1]
              have r1 := h0.wturn hL (p := p1) (t := f_total p1 M) c1 (hq.2.2.2.2.2.1 c3) c4
              have et : f_total p1 (rI (sI M 0 0) 25 p1 (gI M 25 p1 + 1)) = f_total p1 M := ft_cg (fun x => gI_rIn rfl) (fun x => gI_rIn rfl) (fun x => gI_rIn rfl)
              have r2 := r1.1.wait hL (p := p1) c1 (by
                show CH (rI (sI M 0 0) 25 p1 (gI M 25 p1 + 1)) p1 (f_total p1 (rI (sI M 0 0) 25 p1 (gI M 25 p1 + 1)))
                rw [et]
                exact r1.2) ((gI_rIn (j := 17) rfl).trans c3)
              have r3 := r2.2
              rw [if_pos (show f_left p1 (rI (sI M 0 0) 25 p1 (gI (sI M 0 0) 25 p1 + 1)) = 0 from c12)] at r3
              exact ⟨rfl, r2.1, r3⟩
            · rw [if_pos ((h.n14 hL).mpr c1), if_pos ((h.n3 hL).mpr c2), if_pos ((eq_keep (h.rdI (f := 259) (j := 17) (c := 1) (x := p1) rfl (h.d14 hL c1))).mpr c3), if_neg c4, if_pos ((eq_flip (h.byT hL c1 hD (hQ p1 c1).2.2.2.2.1.choose_spec)).mpr c10), if_pos c1, if_pos c2, if_pos c11, if_pos ((show (f_byTurn p1 (sI M 0 0)) = p2 ↔ (f_byTurn p1 M) = p2 from Iff.rfl).mpr c10), if_neg c12]
              have hq := hQ p1 c1
              have h0 := h.thr (v := 0)
              rw [h.total hL c1]
              have r1 := h0.wturn hL (p := p1) (t := f_total p1 M) c1 (hq.2.2.2.2.2.1 c3) c4
              have et : f_total p1 (rI (sI M 0 0) 25 p1 (gI M 25 p1 + 1)) = f_total p1 M := ft_cg (fun x => gI_rIn rfl) (fun x => gI_rIn rfl) (fun x => gI_rIn rfl)
              have r2 := r1.1.wait hL (p := p1) c1 (by
                show CH (rI (sI M 0 0) 25 p1 (gI M 25 p1 + 1)) p1 (f_total p1 (rI (sI M 0 0) 25 p1 (gI M 25 p1 + 1)))
                rw [et]
                exact r1.2) ((gI_rIn (j := 17) rfl).trans c3)
              have r3 := r2.2
              rw [if_neg (show ¬ f_left p1 (rI (sI M 0 0) 25 p1 (gI (sI M 0 0) 25 p1 + 1)) = 0 from c12)] at r3
              exact ⟨rfl, r2.1, r3⟩
          · by_cases c13 : (f_byController p1 M) = p2
            · have c14 : P_can p1 p2 M := ⟨c3, Or.inr c13⟩
              by_cases c15 : (f_left p1 (rI (sI M 0 0) 26 p1 (-1))) = 0
              · rw [if_pos ((h.n14 hL).mpr c1), if_pos ((h.n3 hL).mpr c2), if_pos ((eq_keep (h.rdI (f := 259) (j := 17) (c := 1) (x := p1) rfl (h.d14 hL c1))).mpr c3), if_neg c4, if_neg (fun z => c10 ((eq_flip (h.byT hL c1 hD (hQ p1 c1).2.2.2.2.1.choose_spec)).mp z)), if_pos ((eq_flip (h.byC hL c1 hD (hQ p1 c1).2.2.2.1)).mpr c13), if_pos c1, if_pos c2, if_pos c14, if_neg (fun z => c10 ((show (f_byTurn p1 (sI M 0 0)) = p2 ↔ (f_byTurn p1 M) = p2 from Iff.rfl).mp z)), if_pos c15]
                have hq := hQ p1 c1
                have r1 := (h.thr (v := 0)).pI (f := 263) (j := 26) (x := p1) (v := -1) rfl
                have et : f_total p1 (rI (sI M 0 0) 26 p1 (-1)) = f_total p1 M := ft_cg (fun x => gI_rIn rfl) (fun x => gI_rIn rfl) (fun x => gI_rIn rfl)
                have r2 := r1.wait hL (p := p1) c1 (by
                  rw [et]
                  exact ch_cg rfl (fun x => gI_rIn rfl) (gI_rIn rfl) (gI_rIn rfl) (fun x => gI_rIn rfl) (fun x => gI_rIn rfl) (hq.2.2.2.2.2.1 c3)) ((gI_rIn (j := 17) rfl).trans c3)
                have r3 := r2.2
                rw [if_pos c15] at r3
                exact ⟨rfl, r2.1, r3⟩
              · rw [if_pos ((h.n14 hL).mpr c1), if_pos ((h.n3 hL).mpr c2), if_pos ((eq_keep (h.rdI (f := 259) (j := 17) (c := 1) (x := p1) rfl (h.d14 hL c1))).mpr c3), if_neg c4, if_neg (fun z => c10 ((eq_flip (h.byT hL c1 hD (hQ p1 c1).2.2.2.2.1.choose_spec)).mp z)), if_pos ((eq_flip (h.byC hL c1 hD (hQ p1 c1).2.2.2.1)).mpr c13), if_pos c1, if_pos c2, if_pos c14, if_neg (fun z => c10 ((show (f_byTurn p1 (sI M 0 0)) = p2 ↔ (f_byTurn p1 M) = p2 from Iff.rfl).mp z)), if_neg c15]
                have hq := hQ p1 c1
                have r1 := (h.thr (v := 0)).pI (f := 263) (j := 26) (x := p1) (v := -1) rfl
                have et : f_total p1 (rI (sI M 0 0) 26 p1 (-1)) = f_total p1 M := ft_cg (fun x => gI_rIn rfl) (fun x => gI_rIn rfl) (fun x => gI_rIn rfl)
                have r2 := r1.wait hL (p := p1) c1 (by
                  rw [et]
                  exact ch_cg rfl (fun x => gI_rIn rfl) (gI_rIn rfl) (gI_rIn rfl) (fun x => gI_rIn rfl) (fun x => gI_rIn rfl) (hq.2.2.2.2.2.1 c3)) ((gI_rIn (j := 17) rfl).trans c3)
                have r3 := r2.2
                rw [if_neg c15] at r3
                exact ⟨rfl, r2.1, r3⟩
            · have c16 : ¬ (P_can p1 p2 M) := (fun z => z.2.elim c10 c13)
              rw [if_pos ((h.n14 hL).mpr c1), if_pos ((h.n3 hL).mpr c2), if_pos ((eq_keep (h.rdI (f := 259) (j := 17) (c := 1) (x := p1) rfl (h.d14 hL c1))).mpr c3), if_neg c4, if_neg (fun z => c10 ((eq_flip (h.byT hL c1 hD (hQ p1 c1).2.2.2.2.1.choose_spec)).mp z)), if_neg (fun z => c13 ((eq_flip (h.byC hL c1 hD (hQ p1 c1).2.2.2.1)).mp z)), if_pos c1, if_pos c2, if_neg c16]
              exact ⟨mI_sIs.trans xIS_S.symm, h.thr⟩
      · have c17 : ¬ (P_can p1 p2 M) := (fun z => c3 z.1)
        rw [if_pos ((h.n14 hL).mpr c1), if_pos ((h.n3 hL).mpr c2), if_neg (fun z => c3 ((eq_keep (h.rdI (f := 259) (j := 17) (c := 1) (x := p1) rfl (h.d14 hL c1))).mp z)), if_pos c1, if_pos c2, if_neg c17]
        exact ⟨mI_sIs.trans xIS_S.symm, h.thr⟩
    · rw [if_pos ((h.n14 hL).mpr c1), if_neg (fun z => c2 ((h.n3 hL).mp z)), if_pos c1, if_neg c2]
      exact ⟨mI_sIs.trans xIS_I.symm, h.thr⟩
  · rw [if_neg (fun z => c1 ((h.n14 hL).mp z)), if_neg c1]
    exact ⟨mI_sIs.trans xIS_I.symm, h.thr⟩
theorem eq_order {X : CX} {S : CT} {M : MS} {p1 : Int32} {p2 : Int32} (hX : XOK X) (hL : LVX X) (h : RR X S M) (hN : ∀ p, P_isRequest p M → gI M 17 p = 2 → ∀ i, dm M 2 i → (gn M 40 i).toNatClampNeg / 4 ≠ p.toNatClampNeg) : EQv X S xcIS (k_order p1 p2 X S) (f_order p1 p2 M) := by
  unfold k_order f_order
  by_cases c1 : P_isRequest p1 M
  · by_cases c2 : P_in p2 0 5
    · by_cases c3 : (gI M 17 p1) = 2
      · rw [if_pos ((h.n14 hL).mpr c1), if_pos ((num_sup hL).mpr c2), if_pos ((eq_keep (h.rdI (f := 259) (j := 17) (c := 1) (x := p1) rfl (h.d14 hL c1))).mpr c3), if_pos c1, if_pos c2, if_pos c3]
        have h0 := h.thr (v := 0)
        have r1 := h0.pI (f := 259) (j := 17) (x := p1) (v := 4) rfl
        have r2 := r1.wsup (p := p1) (s := p2) (fun i hi => by
          have hi2 : dm M 2 i := (dm_rI (M := sI M 0 0) (j := 17) (x := p1) (v := 4) (by decide)).mp hi
          have e40 : gn (rI (sI M 0 0) 17 p1 4) 40 i = gn M 40 i := gn_rIn (by decide)
          rw [e40]
          exact hN p1 c1 c3 i hi2)
        have et : f_total p1 (rI (rI (sI M 0 0) 17 p1 4) 21 p1 p2) = f_total p1 M := ft_cg (fun x => (gI_rIn rfl).trans (gI_rIn rfl)) (fun x => (gI_rIn rfl).trans (gI_rIn rfl)) (fun x => (gI_rIn rfl).trans (gI_rIn rfl))
        rw [kt_cg rfl, h.total hL c1, et]
        refine ⟨rfl, ?_⟩
        rw [show si (sj (si S 264 p1 p2) 265 p1 (f_total p1 M)) 259 p1 4 = sj (si (si S 264 p1 p2) 259 p1 4) 265 p1 (f_total p1 M) from rfl, si_comm (by decide)]
        exact r2.pJ rfl
      · rw [if_pos ((h.n14 hL).mpr c1), if_pos ((num_sup hL).mpr c2), if_neg (fun z => c3 ((eq_keep (h.rdI (f := 259) (j := 17) (c := 1) (x := p1) rfl (h.d14 hL c1))).mp z)), if_pos c1, if_pos c2, if_neg c3]
        exact ⟨mI_sIs.trans xIS_S.symm, h.thr⟩
    · rw [if_pos ((h.n14 hL).mpr c1), if_neg (fun z => c2 ((num_sup hL).mp z)), if_pos c1, if_neg c2]
      exact ⟨mI_sIs.trans xIS_I.symm, h.thr⟩
  · rw [if_neg (fun z => c1 ((h.n14 hL).mp z)), if_neg c1]
    exact ⟨mI_sIs.trans xIS_I.symm, h.thr⟩
theorem cok {X : CX} {S : CT} {M : MS} (h : RR X S M) (hL : LVX X) {p q : Int32} : (P_num q (k_countOfKind p X S)) ↔ (if p = 0 then P_in q 0 ((mI M 39) - 1) else if p = 1 then P_in q 0 ((mI M 57) - 1) else P_in q 0 ((mI M 59) - 1)) := by
  unfold k_countOfKind
  by_cases c0 : p = 0
  · rw [if_pos c0, if_pos c0]; exact h.n39 hL
  · rw [if_neg c0, if_neg c0]
    by_cases c1 : p = 1
    · rw [if_pos c1, if_pos c1]; exact h.n57 hL
    · rw [if_neg c1, if_neg c1]; exact h.n59 hL
theorem eq_isSampled {X : CX} {S : CT} {M : MS} {p1 : Int32} {p2 : Int32} (hX : XOK X) (hL : LVX X) (h : RR X S M) : EQi X S xcAI (k_isSampled p1 p2 X S) (f_isSampled p1 p2 M) := by
  have key : ∀ {P : Prop} [Decidable P], (P_num p2 (k_countOfKind p1 X S) ↔ P) → P_in p1 0 2 → EQi X S xcAI (k_isSampled p1 p2 X S) (if P then (if (f_isIn p1 p2 (sI M 0 0)) = 0 then (0, sI M 0 0) else (1, sI M 0 0)) else (0, sI M 0 2)) := by
    intro P _ hP c1
    unfold k_isSampled
    rw [if_pos c1, h.i0 (f := 369) (j := 65) rfl, h.i0 (f := 368) (j := 64) rfl]
    have hI : f_isIn p1 p2 (sI M 0 0) = if mI M 65 ≤ (((((1103515245 * ((100 * p1) + p2)) + (mI M 64)).toUInt32 >>> ((16 : Int32).toUInt32 &&& Int32.toUInt32 31)).toInt32) - ((((1103515245 * ((100 * p1) + p2)) + (mI M 64)).toUInt32 >>> ((16 : Int32).toUInt32 &&& Int32.toUInt32 31)).toInt32) / 100 * 100) then 0 else 1 := by
      unfold f_isIn
      rw [mI_sIn rfl, mI_sIn rfl]
    rw [hI]
    generalize (((((1103515245 * ((100 * p1) + p2)) + (mI M 64)).toUInt32 >>> ((16 : Int32).toUInt32 &&& Int32.toUInt32 31)).toInt32) - ((((1103515245 * ((100 * p1) + p2)) + (mI M 64)).toUInt32 >>> ((16 : Int32).toUInt32 &&& Int32.toUInt32 31)).toInt32) / 100 * 100) = T
    by_cases c2 : P
    · rw [if_pos (hP.mpr c2), if_pos c2]
      by_cases c3 : mI M 65 ≤ T
      · rw [if_pos c3, if_pos c3, if_pos rfl]; exact ⟨mI_sIs, rfl, h.thr⟩
      · rw [if_neg c3, if_neg c3, if_neg (by decide)]; exact ⟨mI_sIs, rfl, h.thr⟩
    · rw [if_neg (fun z => c2 (hP.mp z)), if_neg c2]
      exact ⟨mI_sIs.trans xAI_I.symm, h.thr⟩
  unfold f_isSampled
  by_cases c1 : P_in p1 0 2
  · rw [if_pos c1]
    have hc := cok h hL (p := p1) (q := p2)
    by_cases c2 : p1 = 0
    · rw [if_pos c2] at hc ⊢
      exact key hc c1
    · rw [if_neg c2] at hc ⊢
      by_cases c3 : p1 = 1
      · rw [if_pos c3] at hc ⊢
        exact key hc c1
      · rw [if_neg c3] at hc ⊢
        exact key hc c1
  · rw [if_neg c1]
    have hk : k_isSampled p1 p2 X S = .inr "java/lang/IllegalArgumentException" := by unfold k_isSampled; rw [if_neg c1]
    rw [hk]
    split
    · exact ⟨mI_sIs.trans xAI_A.symm, h.thr⟩
    · split
      · exact ⟨mI_sIs.trans xAI_A.symm, h.thr⟩
      · exact ⟨mI_sIs.trans xAI_A.symm, h.thr⟩
theorem spend_card {c : Int32} {v u : Int64} {X : CX} {S : CT} : k_spend c v X (sj S 367 0 u) = sj (k_spend c v X S) 367 0 u := by
  unfold k_spend
  rw [cj_sn rfl, sj_comm (by decide)]
  rfl
theorem in_keep {a b c d : Int32} (e : b = c) : P_in a d b ↔ P_in a d c := by rw [e]
theorem may_keep {X : CX} {S : CT} {M : MS} (h : RR X S M) {c : Int32} {v v2 : Int64} (h1 : P_isCentre c) (h2 : P_isYear (f_yearNow M)) (e : v = v2) : (¬ ci S 33 c = 0 ∨ v ≤ k_free (3 * c + (k_thisYear X S)) X S) ↔ P_may c (f_yearNow M) v2 M := by
  rw [e, h.year]
  exact h.may h1 h2
theorem eq_tell {X : CX} {S : CT} {M : MS} {p1 : Int32} {p2 : Int32} {p3 : Int32} (hX : XOK X) (hL : LVX X) (h : RR X S M) (hY : P_isYear (f_yearNow M)) (hE : ∀ e, P_in e 0 (mI M 59 - 1) → P_isPerson (gI M 60 e) M ∧ P_in (gI M 61 e) 1 1000000) : EQl X S xcIAS (k_tell p1 p2 p3 X S) (f_tell p1 p2 p3 M) := by
  unfold k_tell f_tell
  by_cases c1 : P_in p1 0 ((mI M 59) - 1)
  · by_cases c2 : P_isCentre p2
    · by_cases c3 : P_in p3 0 (gI M 61 p1)
      · by_cases c4 : (gI M 62 p1) = 0
        · by_cases c5 : P_may p2 (f_yearNow M) (((gI M 61 p1) - p3).toInt64) M
          · rw [if_pos ((h.n59 hL).mpr c1), if_pos ((num_cent hL).mpr c2), if_pos ((in_keep (h.rdF (f := 65) (j := 61) (c := 4) (x := p1) rfl (h.d59 hL c1))).mpr c3), if_pos ((eq_keep (h.rdI (f := 66) (j := 62) (c := 4) (x := p1) rfl (h.d59 hL c1))).mpr c4), if_pos ((may_keep h c2 hY (congrArg (fun z => (z - p3).toInt64) (h.rdF (f := 65) (j := 61) (c := 4) (x := p1) rfl (h.d59 hL c1)))).mpr c5), if_pos c1, if_pos c2, if_pos c3, if_pos c4, if_pos c5]
            have hd := h.d59 hL c1
            have he := hE p1 c1
            rw [h.rdF (f := 65) (j := 61) (c := 4) (x := p1) rfl hd, h.rdF (f := 64) (j := 60) (c := 4) (x := p1) rfl hd, h.rdJ (f := 197) (j := 8) (c := 0) (x := gI M 60 p1) rfl (h.d3 hL he.1), h.j0, neg_l he.2]
            have r1 := (h.thr (v := 0)).pI (f := 66) (j := 62) (x := p1) (v := 1) rfl
            have r2 := (r1.card (v := mJ M 63 + (gI M 61 p1).toInt64)).spend (c := p2) (v := (gI M 61 p1 - p3).toInt64) c2 hY
            have r4 := r2.pJ (f := 197) (j := 8) (x := gI M 60 p1) (v := gJ M 8 (gI M 60 p1) - p3.toInt64) rfl
            rw [spend_card, sj_comm (f := 367) (g := 197) (by decide)] at r4
            have r5 := r4.postV (a := 0) (v := (gI M 61 p1 - p3).toInt64) (z := gJ M 2 0 + (gI M 61 p1 - p3).toInt64) (by decide) (by rw [gJ_rJn rfl, gJ_rJn rfl, gJ_sJ, gJ_rI, gJ_sI])
            have r6 := r5.postV (a := 8) (v := p3.toInt64) (z := gJ M 2 8 + p3.toInt64) (by decide) (by rw [gJ_rJc (by decide), gJ_rJn rfl, gJ_rJn rfl, gJ_sJ, gJ_rI, gJ_sI])
            have r7 := r6.postN (a := 7) (v := (gI M 61 p1).toInt64) (z := gJ M 2 7 - (gI M 61 p1).toInt64) (by decide) (by rw [gJ_rJc (by decide), gJ_rJc (by decide), gJ_rJn rfl, gJ_rJn rfl, gJ_sJ, gJ_rI, gJ_sI])
            exact ⟨rfl, rfl, r7⟩
          · rw [if_pos ((h.n59 hL).mpr c1), if_pos ((num_cent hL).mpr c2), if_pos ((in_keep (h.rdF (f := 65) (j := 61) (c := 4) (x := p1) rfl (h.d59 hL c1))).mpr c3), if_pos ((eq_keep (h.rdI (f := 66) (j := 62) (c := 4) (x := p1) rfl (h.d59 hL c1))).mpr c4), if_neg (fun z => c5 ((may_keep h c2 hY (congrArg (fun z => (z - p3).toInt64) (h.rdF (f := 65) (j := 61) (c := 4) (x := p1) rfl (h.d59 hL c1)))).mp z)), if_pos c1, if_pos c2, if_pos c3, if_pos c4, if_neg c5]
            exact ⟨mI_sIs.trans xIAS_S.symm, h.thr⟩
        · rw [if_pos ((h.n59 hL).mpr c1), if_pos ((num_cent hL).mpr c2), if_pos ((in_keep (h.rdF (f := 65) (j := 61) (c := 4) (x := p1) rfl (h.d59 hL c1))).mpr c3), if_neg (fun z => c4 ((eq_keep (h.rdI (f := 66) (j := 62) (c := 4) (x := p1) rfl (h.d59 hL c1))).mp z)), if_pos c1, if_pos c2, if_pos c3, if_neg c4]
          exact ⟨mI_sIs.trans xIAS_S.symm, h.thr⟩
      · rw [if_pos ((h.n59 hL).mpr c1), if_pos ((num_cent hL).mpr c2), if_neg (fun z => c3 ((in_keep (h.rdF (f := 65) (j := 61) (c := 4) (x := p1) rfl (h.d59 hL c1))).mp z)), if_pos c1, if_pos c2, if_neg c3]
        exact ⟨mI_sIs.trans xIAS_A.symm, h.thr⟩
    · rw [if_pos ((h.n59 hL).mpr c1), if_neg (fun z => c2 ((num_cent hL).mp z)), if_pos c1, if_neg c2]
      exact ⟨mI_sIs.trans xIAS_I.symm, h.thr⟩
  · rw [if_neg (fun z => c1 ((h.n59 hL).mp z)), if_neg c1]
    exact ⟨mI_sIs.trans xIAS_I.symm, h.thr⟩
