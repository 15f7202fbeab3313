theorem fb_cg2 {M M' : MS} {q : Int32} (h : mI M' 39 = mI M 39) (h1 : ∀ i, gn M' 40 i = gn M 40 i) (h2 : ∀ i, gn M' 41 i = gn M 41 i) (h3 : ∀ i, gn M' 44 i = 0 ↔ gn M 44 i = 0) : f_bookedPieces q M' = f_bookedPieces q M ∧ f_heldPieces q M' = f_heldPieces q M := by
  have e1 : ∀ x, gI M' 40 x = gI M 40 x := fun x => h1 _
  have e2 : ∀ x, gI M' 41 x = gI M 41 x := fun x => h2 _
  have e3 : ∀ x, (gI M' 44 x = 0) = (gI M 44 x = 0) := fun x => propext (h3 _)
  have hb : ∀ n, it_bookedPieces q M' n = it_bookedPieces q M n := fun n => by
    induction n with
    | zero => rfl
    | succ n ih => simp only [it_bookedPieces, st_bookedPieces, ih, e1, e2, e3]
  have hh : ∀ n, it_heldPieces q M' n = it_heldPieces q M n := fun n => by
    induction n with
    | zero => rfl
    | succ n ih => simp only [it_heldPieces, st_heldPieces, ih, e1, e2, e3]
  unfold f_bookedPieces f_heldPieces
  rw [h, hb, hh]
  exact ⟨rfl, rfl⟩
section HI
variable {X : CX} {S : CT} {M : MS}
/-- an invoice that is booked or paid becomes the other -/
theorem RR.wst (h : RR X S M) {p b : Int32} {u v : Int64} (h0 : ¬ gI M 44 p = 0) (hb : ¬ b = 0) (hv : v = if b = 1 then u else 0) : RR X (si (sj S 108 p v) 102 p b) (rI (rJ M 48 p u) 44 p b) := by
  have hd : ∀ c i, dm (rI (rJ M 48 p u) 44 p b) c i ↔ dm M c i := fun c i => (dm_rI (by decide)).trans dm_rJ
  have hg : ∀ a i, a ≠ 44 → gn (rI (rJ M 48 p u) 44 p b) a i = gn M a i := fun a i z => gn_rIn z
  have hl : ∀ a i, a ≠ 48 → gl (rI (rJ M 48 p u) 44 p b) a i = gl M a i := fun a i z => gl_rJn z
  have hS : ∀ a i, a ≠ 102 → (si (sj S 108 p v) 102 p b).1 a i = S.1 a i := fun a i z => s1_sn z
  have hS2 : ∀ a i, a ≠ 108 → (si (sj S 108 p v) 102 p b).2 a i = S.2 a i := fun a i z => s2_sn z
  have h44 : ∀ i, gn (rI (rJ M 48 p u) 44 p b) 44 i = if i = p.toNatClampNeg then b else gn M 44 i := fun i => by
    rw [gn_rI]
    by_cases z : i = p.toNatClampNeg
    · rw [if_pos ⟨rfl, z⟩, if_pos z]
    · rw [if_neg (fun y => z y.2), if_neg z]; rfl
  obtain ⟨⟨r1, r2⟩, ⟨r3, r4, r5, r6, r7⟩, ⟨r8, r9⟩, ⟨r10, r11⟩, ⟨r12, r13⟩, r14, r15, r16, r17⟩ := h
  refine ⟨⟨fun t ht i hi => ?_, fun t ht i hi => ?_⟩, ⟨fun t ht i hi => ?_, fun t ht i hi => ?_, fun i hi => r5 i ((hd 0 i).mp hi), r6, fun i hi => ?_⟩, ⟨fun t ht => ?_, ?_⟩, ⟨r10, fun q hq => ?_⟩, ⟨?_, fun i hi => ?_⟩, fun q hq => ?_, fun q hq => ?_, fun i hi => ?_, fun q u' hq hu z hz => ?_⟩
  · have h9 : ∀ t ∈ TI, (t.1 = 102 ↔ t.2.1 = 44) := by decide
    rw [s1_si, gn_rI]
    by_cases z : t.1 = 102 ∧ i = p.toNatClampNeg
    · rw [if_pos z, if_pos ⟨(h9 t ht).mp z.1, z.2⟩]
    · rw [if_neg z, if_neg (fun y => z ⟨(h9 t ht).mpr y.1, y.2⟩)]
      exact r1 t ht i ((hd _ _).mp hi)
  · have h9 : ∀ t ∈ TJ, t.1 ≠ 108 ∧ t.2.1 ≠ 48 := by decide
    rw [hS2 _ _ (h9 t ht).1, hl _ _ (h9 t ht).2]
    exact r2 t ht i ((hd _ _).mp hi)
  · have h9 : ∀ t ∈ TF, t.2.1 ≠ 44 := by decide
    rw [hg _ _ (h9 t ht)]
    exact r3 t ht i ((hd _ _).mp hi)
  · have h9 : ∀ t ∈ TG, t.2.1 ≠ 48 := by decide
    rw [hl _ _ (h9 t ht)]
    exact r4 t ht i ((hd _ _).mp hi)
  · rw [hg 40 _ (by decide), hg 21 _ (by decide)]
    exact r7 i ((hd 2 i).mp hi)
  · have h9 : ∀ t ∈ T0, t.1 ≠ 102 := by decide
    rw [hS _ _ (h9 t ht)]
    exact r8 t ht
  · rw [hS2 367 _ (by decide)]
    exact r9
  · rw [hg 18 _ (by decide)]
    exact r11 q hq
  · unfold RC
    rw [hS 362 _ (by decide)]
    exact r12
  · rw [hg 6 _ (by decide), hg 7 _ (by decide), hS 196 _ (by decide)]
    exact r13 i ((hd 0 i).mp hi)
  · rw [hS 262 _ (by decide), hg 24 _ (by decide), hg 25 _ (by decide), gI_n, hg 23 _ (by decide)]
    exact r14 q ((hd 1 q).mp hq)
  · have h9 := fb_cg2 (M := M) (M' := rI (rJ M 48 p u) 44 p b) (q := nI q) rfl (fun i => hg 40 _ (by decide)) (fun i => hg 41 _ (by decide)) (fun i => by
      rw [h44]
      by_cases z : i = p.toNatClampNeg
      · rw [if_pos z, z]
        exact ⟨fun y => absurd y hb, fun y => absurd y h0⟩
      · rw [if_neg z])
    rw [hS 132 _ (by decide), hS 133 _ (by decide), h9.1, h9.2]
    exact r15 q ((hd 9 q).mp hq)
  · have h9 := r16 i ((hd 2 i).mp hi)
    rw [hS 110 _ (by decide), hS 104 _ (by decide), hS 109 _ (by decide), hg 52 _ (by decide), hg 49 _ (by decide), hg 50 _ (by decide), h44]
    by_cases z : i = p.toNatClampNeg
    · rw [if_pos z]
      refine ⟨?_, fun y => absurd y hb, fun _ => h9.2.2 (by rw [z]; exact h0)⟩
      have e1 : (si (sj S 108 p v) 102 p b).2 108 i = v := by
        show (sj S 108 p v).2 108 i = v
        rw [s2_sj, if_pos ⟨rfl, z⟩]
      have e2 : gl (rI (rJ M 48 p u) 44 p b) 48 i = u := by
        show gl (rJ M 48 p u) 48 i = u
        rw [gl_rJ, if_pos ⟨rfl, z⟩]
      rw [e1, e2, hv]
    · rw [if_neg z]
      have e1 : (si (sj S 108 p v) 102 p b).2 108 i = S.2 108 i := by
        show (sj S 108 p v).2 108 i = S.2 108 i
        rw [s2_sj, if_neg (fun y => z y.2)]
      have e2 : gl (rI (rJ M 48 p u) 44 p b) 48 i = gl M 48 i := by
        show gl (rJ M 48 p u) 48 i = gl M 48 i
        rw [gl_rJ, if_neg (fun y => z y.2)]
      rw [e1, e2]
      exact h9
  · rw [hS2 _ _ (by omega), hl 11 _ (by decide)]
    exact r17 q u' hq hu z hz
theorem RR.bk (h : RR X S M) {q : Int32} (hq : dm M 9 q.toNatClampNeg) (e : nI q.toNatClampNeg = q) : ci S 132 q = f_bookedPieces q M ∧ ci S 133 q = f_heldPieces q M := by
  have h9 := h.2.2.2.2.2.2.1 _ hq
  rw [e] at h9
  exact h9
theorem RR.why (h : RR X S M) (hL : LVX X) {p : Int32} (hp : P_isInvoice p M) (hl : dm M 9 (gI M 40 p).toNatClampNeg) (e : nI (gI M 40 p).toNatClampNeg = gI M 40 p) : k_reasons p X S = f_why p M := by
  have hd := h.d39 hL hp
  have hb := h.bk hl e
  unfold k_reasons f_why K_isTooDear k_orderedValue
  rw [h.rdF (f := 97) (j := 40) (c := 2) (x := p) rfl hd, h.rdF (f := 128) (j := 27) (c := 9) (x := gI M 40 p) rfl hl, h.rdF (f := 99) (j := 41) (c := 2) (x := p) rfl hd, h.rdF (f := 129) (j := 29) (c := 9) (x := gI M 40 p) rfl hl, h.rdI (f := 131) (j := 30) (c := 9) (x := gI M 40 p) rfl hl, h.rdI (f := 130) (j := 28) (c := 9) (x := gI M 40 p) rfl hl, h.rdI (f := 103) (j := 45) (c := 2) (x := p) rfl hd, h.rdG (f := 101) (j := 43) (c := 2) (x := p) rfl hd, hb.1, Int32.add_comm (f_bookedPieces (gI M 40 p) M) (gI M 41 p)]
  generalize lg_cmp (gJ M 43 p) _ = z
  generalize gI M 41 p + f_bookedPieces (gI M 40 p) M = y
  by_cases c1 : gI M 27 (gI M 40 p) = 0 <;> by_cases c2 : gI M 45 p = 0 <;> by_cases c3 : z ≤ 0 <;> by_cases c4 : y ≤ gI M 30 (gI M 40 p) <;> by_cases c5 : y ≤ gI M 28 (gI M 40 p) <;> simp only [c1, c2, c3, c4, c5, if_true, if_false, not_true, not_false_eq_true, and_true, and_false, true_and, false_and] <;> rfl
end HI
theorem rI_cm {M : MS} {f g : Nat} {x y : Int32} {v u : Int32} (h : f ≠ g) : rI (rI M f x v) g y u = rI (rI M g y u) f x v := by
  have e : (rI (rI M f x v) g y u).2.2.1 = (rI (rI M g y u) f x v).2.2.1 := funext fun a => funext fun i => by
    have h1 := gn_rI (M := rI M f x v) (j := g) (a := a) (i := i) (x := y) (v := u)
    have h2 := gn_rI (M := rI M g y u) (j := f) (a := a) (i := i) (x := x) (v := v)
    have h3 := gn_rI (M := M) (j := f) (a := a) (i := i) (x := x) (v := v)
    have h4 := gn_rI (M := M) (j := g) (a := a) (i := i) (x := y) (v := u)
    refine h1.trans (Eq.trans ?_ h2.symm)
    rw [h3, h4]
    by_cases e1 : a = f ∧ i = x.toNatClampNeg
    · rw [if_pos e1, if_pos e1, if_neg (fun z => h (e1.1.symm.trans z.1))]
    · rw [if_neg e1, if_neg e1]
  exact congrArg (fun z => ((M.1, M.2.1, z, M.2.2.2) : MS)) e
theorem eq_bounce {X : CX} {S : CT} {M : MS} {p1 : Int32} (hX : XOK X) (hL : LVX X) (h : RR X S M) : EQl X S xcIS (k_bounce p1 X S) (f_bounce p1 M) := by
  unfold k_bounce f_bounce
  by_cases c1 : P_isInvoice p1 M
  · by_cases c2 : (gI M 44 p1) = 2
    · rw [if_pos ((h.n39 hL).mpr c1), if_pos ((eq_keep (h.rdI (f := 102) (j := 44) (c := 2) (x := p1) rfl (h.d39 hL c1))).mpr c2), if_pos c1, if_pos c2]
      have hd := h.d39 hL c1
      rw [h.rdJ (f := 112) (j := 54) (c := 2) (x := p1) rfl hd, h.rdJ (f := 113) (j := 55) (c := 2) (x := p1) rfl hd]
      have r1 := (h.thr (v := 0)).wst (p := p1) (b := 1) (u := gJ M 54 p1 + gJ M 55 p1) (v := gJ M 54 p1 + gJ M 55 p1) (by
        show ¬ gI M 44 p1 = 0
        rw [c2]
        decide) (by decide) (if_pos rfl).symm
      have r2 := r1.pI (f := 111) (j := 53) (x := p1) (v := 1) rfl
      rw [si_comm (f := 102) (g := 111) (by decide), rI_cm (f := 44) (g := 53) (by decide)] at r2
      have r3 := r2.postV (a := 2) (v := gJ M 54 p1) (z := gJ M 2 2 + gJ M 54 p1) (by decide) (by rw [gJ_rI, gJ_rI, gJ_rJn rfl, gJ_sI])
      have r4 := r3.postV (a := 5) (v := gJ M 55 p1) (z := gJ M 2 5 + gJ M 55 p1) (by decide) (by rw [gJ_rJc (by decide), gJ_rI, gJ_rI, gJ_rJn rfl, gJ_sI])
      have r5 := r4.postN (a := 1) (v := gJ M 54 p1 + gJ M 55 p1) (z := gJ M 2 1 - (gJ M 54 p1 + gJ M 55 p1)) (by decide) (by rw [gJ_rJc (by decide), gJ_rJc (by decide), gJ_rI, gJ_rI, gJ_rJn rfl, gJ_sI])
      exact ⟨rfl, rfl, r5⟩
    · rw [if_pos ((h.n39 hL).mpr c1), if_neg (fun z => c2 ((eq_keep (h.rdI (f := 102) (j := 44) (c := 2) (x := p1) rfl (h.d39 hL c1))).mp z)), if_pos c1, if_neg c2]
      exact ⟨mI_sIs.trans xIS_S.symm, h.thr⟩
  · rw [if_neg (fun z => c1 ((h.n39 hL).mp z)), if_neg c1]
    exact ⟨mI_sIs.trans xIS_I.symm, h.thr⟩
set_option maxRecDepth 100000 in
theorem eq_invoiceOf {X : CX} {S : CT} {M : MS} {p1 : Int32} {p2 : Int32} (hX : XOK X) (hL : LVX X) (h : RR X S M) (hV : ∀ v, P_isInvoice v M → dm M 9 (gI M 40 v).toNatClampNeg ∧ nI (gI M 40 v).toNatClampNeg = gI M 40 v) (h53 : ∀ v, P_isInvoice v M → gI M 53 v = 0 ∨ gI M 53 v = 1) : EQl X S xcIA (k_invoiceOf p1 p2 X S) (f_invoiceOf p1 p2 M) := by
  unfold k_invoiceOf f_invoiceOf
  by_cases c1 : P_isInvoice p1 M
  · by_cases c2 : p2 = 0
    · have c3 : P_in p2 0 7 := (by rw [c2]; decide)
      by_cases c4 : (gI M 44 p1) = 0
      · have c5 : ¬ (3 ≤ p2) := (by rw [c2]; decide)
        rw [if_pos ((h.n39 hL).mpr c1), if_pos c2, if_pos c1, if_pos c3, if_pos c4, if_neg c5, if_pos c2]
        exact ⟨rfl, congrArg Int32.toInt64 (h.rdI (f := 102) (j := 44) (c := 2) rfl (h.d39 hL c1)), h.thr⟩
      · have c6 : ¬ (3 ≤ p2) := (by rw [c2]; decide)
        rw [if_pos ((h.n39 hL).mpr c1), if_pos c2, if_pos c1, if_pos c3, if_neg c4, if_neg c6, if_pos c2]
        exact ⟨rfl, congrArg Int32.toInt64 (h.rdI (f := 102) (j := 44) (c := 2) rfl (h.d39 hL c1)), h.thr⟩
    · by_cases c7 : p2 = 1
      · by_cases c8 : (gI M 44 p1) = 0
        · have c9 : P_in p2 0 7 := (by rw [c7]; decide)
          have c10 : ¬ (3 ≤ p2) := (by rw [c7]; decide)
          have c11 : ¬ (p2 = 2) := (by rw [c7]; decide)
          rw [if_pos ((h.n39 hL).mpr c1), if_neg c2, if_pos c7, if_pos ((eq_keep (h.rdI (f := 102) (j := 44) (c := 2) (x := p1) rfl (h.d39 hL c1))).mpr c8), if_pos c1, if_pos c9, if_pos c8, if_neg c10, if_neg c2, if_neg c11]
          exact ⟨rfl, congrArg Int32.toInt64 ((h.thr (v := 0)).why hL c1 (hV p1 c1).1 (hV p1 c1).2), h.thr⟩
        · have c12 : P_in p2 0 7 := (by rw [c7]; decide)
          have c13 : ¬ (3 ≤ p2) := (by rw [c7]; decide)
          have c14 : ¬ (p2 = 2) := (by rw [c7]; decide)
          rw [if_pos ((h.n39 hL).mpr c1), if_neg c2, if_pos c7, if_neg (fun z => c8 ((eq_keep (h.rdI (f := 102) (j := 44) (c := 2) (x := p1) rfl (h.d39 hL c1))).mp z)), if_pos c1, if_pos c12, if_neg c8, if_neg c13, if_neg c2, if_neg c14]
          exact ⟨rfl, rfl, h.thr⟩
      · by_cases c15 : p2 = 2
        · have c16 : P_in p2 0 7 := (by rw [c15]; decide)
          by_cases c17 : (gI M 44 p1) = 0
          · have c18 : ¬ (3 ≤ p2) := (by rw [c15]; decide)
            rw [if_pos ((h.n39 hL).mpr c1), if_neg c2, if_neg c7, if_pos c15, if_pos c1, if_pos c16, if_pos c17, if_neg c18, if_neg c2, if_pos c15]
            exact ⟨rfl, h.rdG (f := 101) (j := 43) (c := 2) rfl (h.d39 hL c1), h.thr⟩
          · have c19 : ¬ (3 ≤ p2) := (by rw [c15]; decide)
            rw [if_pos ((h.n39 hL).mpr c1), if_neg c2, if_neg c7, if_pos c15, if_pos c1, if_pos c16, if_neg c17, if_neg c19, if_neg c2, if_pos c15]
            exact ⟨rfl, h.rdG (f := 101) (j := 43) (c := 2) rfl (h.d39 hL c1), h.thr⟩
        · by_cases c20 : p2 = 3
          · have c21 : P_in p2 0 7 := (by rw [c20]; decide)
            by_cases c22 : (gI M 44 p1) = 0
            · have c23 : 3 ≤ p2 := (by rw [c20]; decide)
              have c24 : ¬ (6 ≤ p2) := (by rw [c20]; decide)
              rw [if_pos ((h.n39 hL).mpr c1), if_neg c2, if_neg c7, if_neg c15, if_pos c20, if_pos c1, if_pos c21, if_pos c22, if_pos c23, if_neg c24, if_pos c20]
              exact ⟨rfl, h.rdJ (f := 106) (j := 46) (c := 2) rfl (h.d39 hL c1), h.thr⟩
            · have c25 : 3 ≤ p2 := (by rw [c20]; decide)
              have c26 : ¬ (6 ≤ p2) := (by rw [c20]; decide)
              rw [if_pos ((h.n39 hL).mpr c1), if_neg c2, if_neg c7, if_neg c15, if_pos c20, if_pos c1, if_pos c21, if_neg c22, if_pos c25, if_neg c26, if_pos c20]
              exact ⟨rfl, h.rdJ (f := 106) (j := 46) (c := 2) rfl (h.d39 hL c1), h.thr⟩
          · by_cases c27 : p2 = 4
            · have c28 : P_in p2 0 7 := (by rw [c27]; decide)
              by_cases c29 : (gI M 44 p1) = 0
              · have c30 : 3 ≤ p2 := (by rw [c27]; decide)
                have c31 : ¬ (6 ≤ p2) := (by rw [c27]; decide)
                rw [if_pos ((h.n39 hL).mpr c1), if_neg c2, if_neg c7, if_neg c15, if_neg c20, if_pos c27, if_pos c1, if_pos c28, if_pos c29, if_pos c30, if_neg c31, if_neg c20, if_pos c27]
                exact ⟨rfl, h.rdJ (f := 107) (j := 47) (c := 2) rfl (h.d39 hL c1), h.thr⟩
              · have c32 : 3 ≤ p2 := (by rw [c27]; decide)
                have c33 : ¬ (6 ≤ p2) := (by rw [c27]; decide)
                rw [if_pos ((h.n39 hL).mpr c1), if_neg c2, if_neg c7, if_neg c15, if_neg c20, if_pos c27, if_pos c1, if_pos c28, if_neg c29, if_pos c32, if_neg c33, if_neg c20, if_pos c27]
                exact ⟨rfl, h.rdJ (f := 107) (j := 47) (c := 2) rfl (h.d39 hL c1), h.thr⟩
            · by_cases c34 : p2 = 5
              · have c35 : P_in p2 0 7 := (by rw [c34]; decide)
                by_cases c36 : (gI M 44 p1) = 0
                · have c37 : 3 ≤ p2 := (by rw [c34]; decide)
                  have c38 : ¬ (6 ≤ p2) := (by rw [c34]; decide)
                  by_cases c39 : (gI M 44 p1) = 1
                  · rw [if_pos ((h.n39 hL).mpr c1), if_neg c2, if_neg c7, if_neg c15, if_neg c20, if_neg c27, if_pos c34, if_pos c1, if_pos c35, if_pos c36, if_pos c37, if_neg c38, if_neg c20, if_neg c27, if_pos c39]
                    exact ⟨rfl, ((h.2.2.2.2.2.2.2.1 _ (h.d39 hL c1)).1).trans (if_pos c39), h.thr⟩
                  · rw [if_pos ((h.n39 hL).mpr c1), if_neg c2, if_neg c7, if_neg c15, if_neg c20, if_neg c27, if_pos c34, if_pos c1, if_pos c35, if_pos c36, if_pos c37, if_neg c38, if_neg c20, if_neg c27, if_neg c39]
                    exact ⟨rfl, ((h.2.2.2.2.2.2.2.1 _ (h.d39 hL c1)).1).trans (if_neg c39), h.thr⟩
                · have c40 : 3 ≤ p2 := (by rw [c34]; decide)
                  have c41 : ¬ (6 ≤ p2) := (by rw [c34]; decide)
                  by_cases c42 : (gI M 44 p1) = 1
                  · rw [if_pos ((h.n39 hL).mpr c1), if_neg c2, if_neg c7, if_neg c15, if_neg c20, if_neg c27, if_pos c34, if_pos c1, if_pos c35, if_neg c36, if_pos c40, if_neg c41, if_neg c20, if_neg c27, if_pos c42]
                    exact ⟨rfl, ((h.2.2.2.2.2.2.2.1 _ (h.d39 hL c1)).1).trans (if_pos c42), h.thr⟩
                  · rw [if_pos ((h.n39 hL).mpr c1), if_neg c2, if_neg c7, if_neg c15, if_neg c20, if_neg c27, if_pos c34, if_pos c1, if_pos c35, if_neg c36, if_pos c40, if_neg c41, if_neg c20, if_neg c27, if_neg c42]
                    exact ⟨rfl, ((h.2.2.2.2.2.2.2.1 _ (h.d39 hL c1)).1).trans (if_neg c42), h.thr⟩
              · by_cases c43 : p2 = 6
                · have c44 : P_in p2 0 7 := (by rw [c43]; decide)
                  by_cases c45 : (gI M 44 p1) = 0
                  · have c46 : 3 ≤ p2 := (by rw [c43]; decide)
                    have c47 : 6 ≤ p2 := (by rw [c43]; decide)
                    rw [if_pos ((h.n39 hL).mpr c1), if_neg c2, if_neg c7, if_neg c15, if_neg c20, if_neg c27, if_neg c34, if_pos c43, if_pos c1, if_pos c44, if_pos c45, if_pos c46, if_pos c47, if_pos c43]
                    refine ⟨rfl, ?_, h.thr⟩
                    rw [show ci S 110 p1 = -1 from (h.2.2.2.2.2.2.2.1 _ (h.d39 hL c1)).2.1 c45]
                    rfl
                  · have c48 : 3 ≤ p2 := (by rw [c43]; decide)
                    have c49 : 6 ≤ p2 := (by rw [c43]; decide)
                    rw [if_pos ((h.n39 hL).mpr c1), if_neg c2, if_neg c7, if_neg c15, if_neg c20, if_neg c27, if_neg c34, if_pos c43, if_pos c1, if_pos c44, if_neg c45, if_pos c48, if_pos c49, if_pos c43]
                    exact ⟨rfl, congrArg Int32.toInt64 ((h.2.2.2.2.2.2.2.1 _ (h.d39 hL c1)).2.2 c45).2.2, h.thr⟩
                · by_cases c50 : p2 = 7
                  · by_cases c51 : (gI M 53 p1) = 0
                    · have c52 : P_in p2 0 7 := (by rw [c50]; decide)
                      by_cases c53 : (gI M 44 p1) = 0
                      · have c54 : 3 ≤ p2 := (by rw [c50]; decide)
                        have c55 : 6 ≤ p2 := (by rw [c50]; decide)
                        rw [if_pos ((h.n39 hL).mpr c1), if_neg c2, if_neg c7, if_neg c15, if_neg c20, if_neg c27, if_neg c34, if_neg c43, if_pos c50, if_pos ((eq_keep (h.rdI (f := 111) (j := 53) (c := 2) (x := p1) rfl (h.d39 hL c1))).mpr c51), if_pos c1, if_pos c52, if_pos c53, if_pos c54, if_pos c55, if_neg c43, if_pos c51]
                        exact ⟨rfl, rfl, h.thr⟩
                      · have c56 : 3 ≤ p2 := (by rw [c50]; decide)
                        have c57 : 6 ≤ p2 := (by rw [c50]; decide)
                        rw [if_pos ((h.n39 hL).mpr c1), if_neg c2, if_neg c7, if_neg c15, if_neg c20, if_neg c27, if_neg c34, if_neg c43, if_pos c50, if_pos ((eq_keep (h.rdI (f := 111) (j := 53) (c := 2) (x := p1) rfl (h.d39 hL c1))).mpr c51), if_pos c1, if_pos c52, if_neg c53, if_pos c56, if_pos c57, if_neg c43, if_pos c51]
                        exact ⟨rfl, rfl, h.thr⟩
                    · have c58 : P_in p2 0 7 := (by rw [c50]; decide)
                      by_cases c59 : (gI M 44 p1) = 0
                      · have c60 : 3 ≤ p2 := (by rw [c50]; decide)
                        have c61 : 6 ≤ p2 := (by rw [c50]; decide)
                        rw [if_pos ((h.n39 hL).mpr c1), if_neg c2, if_neg c7, if_neg c15, if_neg c20, if_neg c27, if_neg c34, if_neg c43, if_pos c50, if_neg (fun z => c51 ((eq_keep (h.rdI (f := 111) (j := 53) (c := 2) (x := p1) rfl (h.d39 hL c1))).mp z)), if_pos c1, if_pos c58, if_pos c59, if_pos c60, if_pos c61, if_neg c43, if_neg c51]
                        exact ⟨rfl, rfl, h.thr⟩
                      · have c62 : 3 ≤ p2 := (by rw [c50]; decide)
                        have c63 : 6 ≤ p2 := (by rw [c50]; decide)
                        rw [if_pos ((h.n39 hL).mpr c1), if_neg c2, if_neg c7, if_neg c15, if_neg c20, if_neg c27, if_neg c34, if_neg c43, if_pos c50, if_neg (fun z => c51 ((eq_keep (h.rdI (f := 111) (j := 53) (c := 2) (x := p1) rfl (h.d39 hL c1))).mp z)), if_pos c1, if_pos c58, if_neg c59, if_pos c62, if_pos c63, if_neg c43, if_neg c51]
                        exact ⟨rfl, rfl, h.thr⟩
                  · have c64 : ¬ (P_in p2 0 7) := (fun z => by
    obtain ⟨j, hj, e⟩ := in_cases (n := 7) (by decide) z
    have hh : j = 0 ∨ j = 1 ∨ j = 2 ∨ j = 3 ∨ j = 4 ∨ j = 5 ∨ j = 6 ∨ j = 7 := by omega
    rcases hh with rfl | rfl | rfl | rfl | rfl | rfl | rfl | rfl
    · exact c2 e
    · exact c7 e
    · exact c15 e
    · exact c20 e
    · exact c27 e
    · exact c34 e
    · exact c43 e
    · exact c50 e)
                    rw [if_pos ((h.n39 hL).mpr c1), if_neg c2, if_neg c7, if_neg c15, if_neg c20, if_neg c27, if_neg c34, if_neg c43, if_neg c50, if_pos c1, if_neg c64]
                    exact ⟨mI_sIs.trans xIA_A.symm, h.thr⟩
  · rw [if_neg (fun z => c1 ((h.n39 hL).mp z)), if_neg c1]
    exact ⟨mI_sIs.trans xIA_I.symm, h.thr⟩
