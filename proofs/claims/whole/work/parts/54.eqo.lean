section WI
variable {M : MS} {n Q : Nat} {pc u : Int32} {net : Int64}
theorem wi_g {j : Nat} (h : j ≠ 40 ∧ j ≠ 41 ∧ j ≠ 42) {i : Nat} : gn (wiM M (nI n) (nI Q) pc u net) j i = gn M j i := by
  show gn (rI (rI (rI M 40 (nI n) (nI Q)) 41 (nI n) pc) 42 (nI n) u) j i = _
  rw [gn_rIn h.2.2, gn_rIn h.2.1, gn_rIn h.1]
theorem wi_40 {i : Nat} (hn : n < 2 ^ 30) : gn (wiM M (nI n) (nI Q) pc u net) 40 i = if i = n then nI Q else gn M 40 i := by
  show gn (rI (rI (rI M 40 (nI n) (nI Q)) 41 (nI n) pc) 42 (nI n) u) 40 i = _
  rw [gn_rIn (by decide), gn_rIn (by decide), gn_rI, nI_clamp (by omega)]
  by_cases e : i = n
  · rw [if_pos ⟨rfl, e⟩, if_pos e]
  · rw [if_neg (fun z => e z.2), if_neg e]
theorem wi_m {j : Nat} (h : j ≠ 39) : mI (wiM M (nI n) (nI Q) pc u net) j = mI M j := if_neg h
theorem wi_39 : mI (wiM M (nI n) (nI Q) pc u net) 39 = nI (n + 1) := by rw [← nI_1]; exact mI_sIs
theorem wi_cn (hn : n < 60) : cnt (wiM M (nI n) (nI Q) pc u net) 39 = n + 1 := by unfold cnt; rw [wi_39, nI_clamp (by omega)]
theorem wi_dm {i : Nat} : dm (wiM M (nI n) (nI Q) pc u net) 9 i ↔ dm M 9 i := by
  show (i / 4 < cnt (wiM M (nI n) (nI Q) pc u net) 14 ∧ i % 4 < (gn (wiM M (nI n) (nI Q) pc u net) 18 (i / 4)).toNatClampNeg) ↔ (i / 4 < cnt M 14 ∧ i % 4 < (gn M 18 (i / 4)).toNatClampNeg)
  rw [wi_g (by decide)]
  unfold cnt
  rw [wi_m (by decide)]
theorem wi_qk {p : Int32} (h : QK M p) : QK (wiM M (nI n) (nI Q) pc u net) p :=
  qk_cg (M := M) (wi_m (by decide)) (fun j hj y => wi_g (by omega)) ⟨h.2.2.1.1, fun z => z⟩ h
theorem wi_vv (hn : n < 60) (hQ9 : dm M 9 Q) (h160 : Q < 160) (hs : P_in (gn M 21 (Q / 4)) 0 5) (c39 : mI M 39 = nI n) (hV : VV M) : VV (wiM M (nI n) (nI Q) pc u net) := fun v hv => by
  have hv' : P_in v 0 (nI (n + 1) - 1) := by rw [← wi_39 (M := M) (Q := Q) (pc := pc) (u := u) (net := net)]; exact hv
  obtain ⟨i, hi, rfl⟩ := P_num_nI ((num_in (n := n + 1) (by omega)).mpr hv') (by omega)
  rw [gI_n, nI_clamp (by omega), wi_40 (by omega)]
  by_cases e : i = n
  · rw [if_pos e, nI_clamp (by omega), q4_nI h160, gI_n, nI_clamp (by omega), wi_g (by decide)]
    exact ⟨⟨wi_dm.mpr hQ9, rfl⟩, hs⟩
  · have h9 := hV (nI i) (by
      show P_in (nI i) 0 (mI M 39 - 1)
      rw [c39]
      exact (num_in (n := n) (by omega)).mp ⟨nI_pos' (by omega), nI_lt (by omega) (by omega)⟩)
    rw [gI_n, nI_clamp (by omega)] at h9
    rw [if_neg e, gI_n, wi_g (by decide)]
    exact ⟨⟨wi_dm.mpr h9.1.1, h9.1.2⟩, h9.2⟩
end WI
section HO
variable {X : CX} {S : CT} {M : MS}
theorem RR.lnQ (h : RR X S M) (hL : LVX X) {p l : Int32} (hp : P_isRequest p M) (hl : P_in l 0 (gI M 18 p - 1)) : ∃ Q, 4 * p + l = nI Q ∧ Q < 160 ∧ dm M 9 Q ∧ p = nI (Q / 4) ∧ gn M 21 (Q / 4) = gI M 21 p := by
  have hd := h.dln hL hp hl
  have e := h.lix hL hp hl
  have hp2 := (h.lnN hL hp).mpr hl
  obtain ⟨r, hr, h40, rfl, e2, h4⟩ := h.rq hL hp
  have e1 : nS X 29 (nI r) = nI (xSz X 29 r) := by unfold nS; rw [nI_clamp (by omega)]
  rw [e1] at hp2
  obtain ⟨j, hj, rfl⟩ := P_num_nI hp2 (by omega)
  have e3 : 4 * nI r + nI j = nI (4 * r + j) := by rw [show (4 : Int32) = nI 4 from rfl, pk_mul, nI_add]
  rw [e3, nI_clamp (by omega)] at hd
  refine ⟨4 * r + j, e3, by omega, hd, by rw [show (4 * r + j) / 4 = r by omega], ?_⟩
  rw [show (4 * r + j) / 4 = r by omega, gI_n, nI_clamp (by omega)]
end HO
theorem RR.n264 {X : CX} {S : CT} {M : MS} (h : RR X S M) (hL : LVX X) {p : Int32} (hp : P_isRequest p M) (hQ : ∀ p, P_isRequest p M → QK M p) (h4 : gI M 17 p = 4) : ¬ ci S 264 p = -1 := by
  have hs := (hQ p hp).2.2.2.2.2.2.1 (Or.inl h4)
  rw [h.rdI (f := 264) (j := 21) (c := 1) rfl (h.d14 hL hp)]
  intro z
  rw [z] at hs
  exact absurd hs.1 (by decide)
theorem rJ_same {M : MS} {j : Nat} {x : Int32} : rJ M j x (gJ M j x) = M := by
  obtain ⟨a, b, c, d⟩ := M
  unfold rJ gJ
  refine Prod.ext rfl (Prod.ext rfl (Prod.ext rfl ?_))
  funext q
  show (if q = j then vp_updL (d j) x.toNatClampNeg (d j x.toNatClampNeg) else d q) = d q
  by_cases e : q = j
  · rw [if_pos e, e]
    funext i
    unfold vp_updL
    by_cases e2 : i = x.toNatClampNeg
    · simp [e2]
    · simp [e2]
  · rw [if_neg e]
def pyS (X : CX) (S : CT) (p : Int32) (W D c : Int64) : CT := si (sj (k_post 4 (W - c) X (k_post 5 (-D) X (k_post 2 (-(W - D)) X (k_post 1 c X (sj (sj S 113 p D) 112 p (W - D)))))) 108 p 0) 102 p 2
def pyM (M : MS) (p : Int32) (W D : Int64) : MS := rI (rJ (rJ (rJ (rJ (rJ (rJ M 55 p D) 54 p (W - D)) 2 1 ((gJ M 2 1) + (gJ M 48 p))) 2 2 ((gJ M 2 2) - (W - D))) 2 5 ((gJ M 2 5) - D)) 2 4 ((gJ M 2 4) - (((gJ M 48 p) - (W - D)) - D))) 44 p 2
theorem py_4 {a c W D : Int64} : a + (W - c) = a - ((c - (W - D)) - D) := by
  rw [Int64.sub_sub, Int64.sub_add_cancel, Int64.sub_eq_add_neg a (c - W), Int64.neg_sub]
section HP
variable {X : CX} {S : CT} {M : MS}
theorem RR.payG (h : RR X S M) {p : Int32} {W D : Int64} (h44 : gI M 44 p = 1) (hd : dm M 2 p.toNatClampNeg) : RR X (pyS X S p W D (cj S 108 p)) (pyM M p W D) := by
  have c108 : cj S 108 p = gJ M 48 p := by
    have h9 := (h.2.2.2.2.2.2.2.1 _ hd).1
    rw [show gn M 44 p.toNatClampNeg = 1 from h44, if_pos rfl] at h9
    exact h9
  rw [c108]
  unfold pyS pyM
  have r1 := (h.pJ (f := 113) (j := 55) (x := p) (v := D) rfl).pJ (f := 112) (j := 54) (x := p) (v := W - D) rfl
  have r2 := r1.postV (a := 1) (v := gJ M 48 p) (z := gJ M 2 1 + gJ M 48 p) (by decide) (by rw [gJ_rJn rfl, gJ_rJn rfl])
  have r3 := r2.postN (a := 2) (v := W - D) (z := gJ M 2 2 - (W - D)) (by decide) (by rw [gJ_rJc (by decide), gJ_rJn rfl, gJ_rJn rfl])
  have r4 := r3.postN (a := 5) (v := D) (z := gJ M 2 5 - D) (by decide) (by rw [gJ_rJc (by decide), gJ_rJc (by decide), gJ_rJn rfl, gJ_rJn rfl])
  have r5 := r4.postV (a := 4) (v := W - gJ M 48 p) (z := gJ M 2 4 - ((gJ M 48 p - (W - D)) - D)) (by decide) (by rw [gJ_rJc (by decide), gJ_rJc (by decide), gJ_rJc (by decide), gJ_rJn rfl, gJ_rJn rfl]; exact py_4)
  generalize e : rJ (rJ (rJ (rJ (rJ (rJ M 55 p D) 54 p (W - D)) 2 1 ((gJ M 2 1) + (gJ M 48 p))) 2 2 ((gJ M 2 2) - (W - D))) 2 5 ((gJ M 2 5) - D)) 2 4 ((gJ M 2 4) - (((gJ M 48 p) - (W - D)) - D)) = N at r5 ⊢
  have n44 : gI N 44 p = 1 := by rw [← e]; exact h44
  have r6 := r5.wst (p := p) (b := 2) (u := gJ N 48 p) (v := 0) (by rw [n44]; decide) (by decide) (by rw [if_neg (by decide)])
  rw [rJ_same] at r6
  exact r6
theorem RR.early (h : RR X S M) (hL : LVX X) {p : Int32} (hp : P_isInvoice p M) (h44 : gI M 44 p = 1) (hV : VV M) (h49 : P_in (gI M 49 p) 0 1079) (hD : P_in (mI M 1) 0 1079) (h35 : ∀ i, i < 6 → P_in (gn M 35 i) 0 30) : K_isInDiscountDays p X S ↔ P_isEarly p M := by
  obtain ⟨Q, e1, e2, e3, hr, e4, e5, e6, e7⟩ := h.ivl hL hp (hV p hp).1
  have hd := h.d39 hL hp
  have hds : dm M 5 (gI M 21 (gI M 40 p / 4)).toNatClampNeg := Nat.lt_succ_of_le (in_toNat (n := 5) (by decide) (hV p hp).2)
  have hv := (h.2.2.2.2.2.2.2.1 _ hd).2.2 (by show ¬ gI M 44 p = 0; rw [h44]; decide)
  have k109 : ci S 109 p = gI M 49 p := hv.2.1
  have k293 : ci S 293 (gI M 21 (gI M 40 p / 4)) = gI M 35 (gI M 21 (gI M 40 p / 4)) := h.rdI (f := 293) (j := 35) (c := 5) rfl hds
  have k363 : ci S 363 0 = mI M 1 := h.i0 rfl
  unfold K_isInDiscountDays k_isInDiscountDays P_isEarly
  rw [e5, k109, k293, k363]
  have a := in_int h49
  have b := in_int hD
  have c := in_int (h35 _ hds)
  rw [show (0 : Int32).toInt = 0 from by decide] at a b c
  rw [show (1079 : Int32).toInt = 1079 from by decide] at a b
  rw [show (30 : Int32).toInt = 30 from by decide] at c
  rw [← gI_n] at c
  have s1 := w_a32 (x := gI M 49 p) (y := gI M 35 (gI M 21 (gI M 40 p / 4))) rfl rfl (by omega) (by omega)
  have s2 := w_s32 (x := mI M 1) (y := gI M 49 p) rfl rfl (by omega) (by omega)
  rw [Int32.le_iff_toInt_le, s2]
  by_cases z : gI M 49 p + gI M 35 (gI M 21 (gI M 40 p / 4)) < mI M 1
  · rw [if_pos z]
    rw [Int32.lt_iff_toInt_lt, s1] at z
    exact ⟨fun y => absurd y (by decide), fun y => absurd y (by omega)⟩
  · rw [if_neg z]
    rw [Int32.lt_iff_toInt_lt, s1] at z
    exact ⟨fun _ => by omega, fun _ => rfl⟩
theorem RR.pay (h : RR X S M) (hL : LVX X) {p : Int32} (hp : P_isInvoice p M) (h44 : gI M 44 p = 1) (hV : VV M) (hC : ∀ i, i < 6 → P_in (gn M 32 i) 0 2) (hE : K_isInDiscountDays p X S ↔ P_isEarly p M) : RR X (k_pay p X S) (f_pays p M) := by
  obtain ⟨Q, e1, e2, e3, hr, e4, e5, e6, e7⟩ := h.ivl hL hp (hV p hp).1
  have hd := h.d39 hL hp
  have hds : dm M 5 (gI M 21 (gI M 40 p / 4)).toNatClampNeg := Nat.lt_succ_of_le (in_toNat (n := 5) (by decide) (hV p hp).2)
  have hd6 : dm M 6 (gI M 32 (gI M 21 (gI M 40 p / 4))).toNatClampNeg := Nat.lt_succ_of_le (in_toNat (n := 2) (by decide) (hC _ hds))
  have hv := (h.2.2.2.2.2.2.2.1 _ hd).2.2 (by show ¬ gI M 44 p = 0; rw [h44]; decide)
  have k104 : ci S 104 p = gI M 52 p := hv.1
  have k105 : ci S 105 p = gI M 51 p := h.rdI (f := 105) (j := 51) (c := 2) rfl hd
  have k100 : xi X 100 p = gI M 42 p := h.rdF (f := 100) (j := 42) (c := 2) rfl hd
  have k289 : ci S 289 (gI M 21 (gI M 40 p / 4)) = gI M 32 (gI M 21 (gI M 40 p / 4)) := h.rdI (f := 289) (j := 32) (c := 5) rfl hds
  have k292 : ci S 292 (gI M 21 (gI M 40 p / 4)) = gI M 34 (gI M 21 (gI M 40 p / 4)) := h.rdI (f := 292) (j := 34) (c := 5) rfl hds
  have k160 : ci S 160 (gI M 32 (gI M 21 (gI M 40 p / 4))) = gI M 36 (gI M 32 (gI M 21 (gI M 40 p / 4))) := h.rdI (f := 160) (j := 36) (c := 6) rfl hd6
  have ow : k_owedInMoney p X S = if gI M 52 p = 0 then (gI M 41 p).toInt64 * (gI M 42 p).toInt64 else ((gI M 41 p).toInt64 * (gI M 42 p).toInt64 + (gI M 41 p).toInt64 * (gI M 42 p).toInt64 * (gI M 51 p).toInt64 / 100) := by
    unfold k_owedInMoney
    rw [e7, k100, k104, k105]
  unfold k_pay f_pays
  rw [e5, k289, k292, k160, ow]
  by_cases c1 : gI M 52 p = 0
  · rw [if_pos c1, if_pos c1, Int64.add_zero]
    by_cases c2 : P_isEarly p M
    · rw [if_pos c2, if_pos (hE.mpr c2)]
      exact h.payG h44 hd
    · rw [if_neg c2, if_neg (fun z => c2 (hE.mp z))]
      exact h.payG (D := 0) h44 hd
  · rw [if_neg c1, if_neg c1]
    by_cases c2 : P_isEarly p M
    · rw [if_pos c2, if_pos (hE.mpr c2)]
      exact h.payG h44 hd
    · rw [if_neg c2, if_neg (fun z => c2 (hE.mp z))]
      exact h.payG (D := 0) h44 hd
theorem fr_pays {p : Int32} : Fr [44] [55, 54, 2] M (f_pays p M) ∧ ∀ i, i ≠ p.toNatClampNeg → gn (f_pays p M) 44 i = gn M 44 i := by
  have key : ∀ (a b c d e f : Int64), Fr [44] [55, 54, 2] M (rI (rJ (rJ (rJ (rJ (rJ (rJ M 55 p a) 54 p b) 2 1 c) 2 2 d) 2 5 e) 2 4 f) 44 p 2) ∧ ∀ i, i ≠ p.toNatClampNeg → gn (rI (rJ (rJ (rJ (rJ (rJ (rJ M 55 p a) 54 p b) 2 1 c) 2 2 d) 2 5 e) 2 4 f) 44 p 2) 44 i = gn M 44 i := fun a b c d e f =>
    ⟨((((((Fr.rfl'.rJ (by decide)).rJ (by decide)).rJ (by decide)).rJ (by decide)).rJ (by decide)).rJ (by decide)).rI (by decide), fun i hi => by rw [gn_rI, if_neg (fun z => hi z.2)]; rfl⟩
  unfold f_pays
  split <;> split <;> exact key _ _ _ _ _ _
theorem pays_44 {p : Int32} : gI (f_pays p M) 44 p = 2 := by
  unfold f_pays
  split <;> split <;> exact gI_rIs
theorem RR.toPay (h : RR X S M) (hL : LVX X) {p d y : Int32} (hp : P_isInvoice p M) (hV : VV M) (hE : gI M 44 p = 1 → (K_isInDiscountDays p X S ↔ P_isEarly p M)) : K_isToPay p d y X S ↔ gI M 44 p = 1 ∧ gI M 53 p = 0 ∧ (gI M 50 p ≤ d ∨ (¬ y = 0 ∧ P_isEarly p M ∧ ¬ gI M 34 (gI M 21 (gI M 40 p / 4)) ≤ 0)) := by
  obtain ⟨Q, e1, e2, e3, hr, e4, e5, e6, e7⟩ := h.ivl hL hp (hV p hp).1
  have hd := h.d39 hL hp
  have hds : dm M 5 (gI M 21 (gI M 40 p / 4)).toNatClampNeg := Nat.lt_succ_of_le (in_toNat (n := 5) (by decide) (hV p hp).2)
  unfold K_isToPay k_isToPay
  rw [e5, show ci S 292 (gI M 21 (gI M 40 p / 4)) = gI M 34 (gI M 21 (gI M 40 p / 4)) from h.rdI (f := 292) (j := 34) (c := 5) rfl hds, show ci S 102 p = gI M 44 p from h.rdI (f := 102) (j := 44) (c := 2) rfl hd, show ci S 111 p = gI M 53 p from h.rdI (f := 111) (j := 53) (c := 2) rfl hd]
  by_cases a1 : gI M 44 p = 1
  · have hE := hE a1
    have k110 : ci S 110 p = gI M 50 p := ((h.2.2.2.2.2.2.2.1 _ hd).2.2 (by show ¬ gI M 44 p = 0; rw [a1]; decide)).2.2
    rw [if_pos a1, k110]
    by_cases a2 : gI M 53 p = 0 <;> by_cases a3 : y = 0 <;> by_cases a4 : gI M 50 p ≤ d <;> by_cases a6 : gI M 34 (gI M 21 (gI M 40 p / 4)) ≤ 0 <;> by_cases a5 : P_isEarly p M <;> simp only [hE, a1, a2, a3, a4, a5, a6, if_true, if_false, not_true, not_false_eq_true, true_and, and_true, false_and, and_false, true_or, or_true, or_false, false_or] <;> decide
  · rw [if_neg a1]
    exact ⟨fun z => absurd z (by decide), fun z => absurd z.1 a1⟩
theorem st_run_eq {p d y a : Int32} : st_run d y p a M = if gI M 44 p = 1 ∧ gI M 53 p = 0 ∧ (gI M 50 p ≤ d ∨ (¬ y = 0 ∧ P_isEarly p M ∧ ¬ gI M 34 (gI M 21 (gI M 40 p / 4)) ≤ 0)) then (a + 1, f_pays p M) else (a, M) := by
  unfold st_run
  generalize f_pays p M = z
  by_cases a1 : gI M 44 p = 1 <;> by_cases a2 : gI M 53 p = 0 <;> by_cases a3 : y = 0 <;> by_cases a4 : gI M 50 p ≤ d <;> by_cases a6 : gI M 34 (gI M 21 (gI M 40 p / 4)) ≤ 0 <;> by_cases a5 : P_isEarly p M <;> simp only [a1, a2, a3, a4, a5, a6, if_true, if_false, not_true, not_false_eq_true, true_and, and_true, false_and, and_false, true_or, or_true, or_false, false_or]
theorem RR.runL (h : RR X S M) (hL : LVX X) (hV : VV M) (hC : ∀ i, i < 6 → P_in (gn M 32 i) 0 2) (h49 : ∀ v, P_isInvoice v M → gI M 44 v = 1 → P_in (gI M 49 v) 0 1079) (hD : P_in (mI M 1) 0 1079) (h35 : ∀ i, i < 6 → P_in (gn M 35 i) 0 30) {d y : Int32} : ∀ n, n ≤ cnt M 39 → (kit_run d y X S n).1 = (it_run d y M n).1 ∧ RR X (kit_run d y X S n).2 (it_run d y M n).2 ∧ Fr [44] [55, 54, 2] M (it_run d y M n).2 ∧ ∀ i, gn (it_run d y M n).2 44 i = 1 → gn M 44 i = 1
  | 0, _ => ⟨rfl, h, Fr.rfl', fun _ z => z⟩
  | n + 1, hn => by
    obtain ⟨i1, i2, i3, i4⟩ := RR.runL h hL hV hC h49 hD h35 (d := d) (y := y) n (by omega)
    have h39 := h.bo39 hL
    show (kst_run d y X (nI n) (kit_run d y X S n).1 (kit_run d y X S n).2).1 = (st_run d y (nI n) (it_run d y M n).1 (it_run d y M n).2).1 ∧ RR X (kst_run d y X (nI n) (kit_run d y X S n).1 (kit_run d y X S n).2).2 (st_run d y (nI n) (it_run d y M n).1 (it_run d y M n).2).2 ∧ Fr [44] [55, 54, 2] M (st_run d y (nI n) (it_run d y M n).1 (it_run d y M n).2).2 ∧ ∀ i, gn (st_run d y (nI n) (it_run d y M n).1 (it_run d y M n).2).2 44 i = 1 → gn M 44 i = 1
    rw [← i1]
    generalize (kit_run d y X S n).1 = a at *
    generalize (kit_run d y X S n).2 = T at *
    generalize (it_run d y M n).2 = N at *
    have hpM := inv_n h39.1 h39.2 (show n < cnt M 39 by omega)
    have hp : P_isInvoice (nI n) N := by
      show P_in (nI n) 0 (mI N 39 - 1)
      rw [i3.1]; exact hpM
    have vN : VV N := hV.cg i3 (by decide) (by decide) (by decide)
    have hE : gI N 44 (nI n) = 1 → (K_isInDiscountDays (nI n) X T ↔ P_isEarly (nI n) N) := fun z => i2.early hL hp z vN (by rw [i3.i (by decide)]; exact h49 _ hpM (i4 _ z)) (by rw [i3.1]; exact hD) (fun i hi => by rw [i3.2.2.1 35 (by decide)]; exact h35 i hi)
    have hK := i2.toPay hL (d := d) (y := y) hp vN hE
    rw [st_run_eq]
    unfold kst_run
    by_cases c : K_isToPay (nI n) d y X T
    · have c' := hK.mp c
      rw [if_pos c, if_pos c']
      have fr := fr_pays (M := N) (p := nI n)
      refine ⟨rfl, i2.pay hL hp c'.1 vN (fun i hi => by rw [i3.2.2.1 32 (by decide)]; exact hC i hi) (hE c'.1), i3.trans fr.1, fun i z => ?_⟩
      by_cases e : i = (nI n).toNatClampNeg
      · have h9 := pays_44 (M := N) (p := nI n)
        rw [gI_n, ← e] at h9
        have z' : gn (f_pays (nI n) N) 44 i = 1 := z
        rw [h9] at z'
        exact absurd z' (by decide)
      · have z' : gn (f_pays (nI n) N) 44 i = 1 := z
        rw [fr.2 i e] at z'
        exact i4 i z'
    · rw [if_neg c, if_neg (fun z => c (hK.mpr z))]
      exact ⟨rfl, i2, i3, i4⟩
end HP
theorem eq_run {X : CX} {S : CT} {M : MS} {p1 : Int32} {p2 : Int32} (hX : XOK X) (hL : LVX X) (h : RR X S M) (hV : VV M) (hC : ∀ i, i < 6 → P_in (gn M 32 i) 0 2) (h49 : ∀ v, P_isInvoice v M → gI M 44 v = 1 → P_in (gI M 49 v) 0 1079) (hD : P_in (mI M 1) 0 1079) (h35 : ∀ i, i < 6 → P_in (gn M 35 i) 0 30) : EQi X S xcA (k_run p1 p2 X S) (f_run p1 p2 M) := by
  unfold k_run f_run
  by_cases c1 : P_in p1 0 2000
  · rw [if_pos c1, if_pos c1]
    have h0 := h.thr (v := 0)
    have h9 := h0.runL hL (vv_0 hV) hC h49 hD h35 (d := p1) (y := p2) (xSz X 25 0) (by rw [h0.c39 hL]; exact Nat.le_refl _)
    have e : (mI M 39).toNatClampNeg = xSz X 25 0 := h.c39 hL
    rw [e]
    exact ⟨congrFun h9.2.2.1.1 0, h9.1, h9.2.1⟩
  · rw [if_neg c1, if_neg c1]
    exact ⟨mI_sIs.trans xA_A.symm, h.thr⟩
set_option maxRecDepth 100000 in
theorem eq_invoice {X : CX} {S : CT} {M : MS} {p1 : Int32} {p2 : Int32} {p3 : Int32} {p4 : Int32} (hX : XOK X) (hL : LVX X) (h : RR X S M) (hQ : ∀ p, P_isRequest p M → QK M p) (hY : P_isYear (f_yearNow M)) (hV : VV M) (hC : ∀ i, i < 6 → P_in (gn M 32 i) 0 2) (hz : ∀ j, j = 44 ∨ j = 45 ∨ j = 51 ∨ j = 53 → ∀ i, mI M 39 = nI i → gn M j i = 0) (hzl : ∀ j, j = 46 ∨ j = 47 ∨ j = 54 ∨ j = 55 → ∀ i, mI M 39 = nI i → gl M j i = 0) : EQa X S xcIAS (y_invoice X p1 (4 * p1 + p2) (ci S 264 p1) p3 p4 ((((p3.toInt64) * (p4.toInt64)) * ((ci S 160 (ci S 289 (ci S 264 p1))).toInt64)) / 1000)) 25 0 (k_invoice p1 p2 p3 p4 X S) (f_invoice p1 p2 p3 p4 M) := by
  unfold k_invoice f_invoice
  by_cases c1 : P_isRequest p1 M
  · by_cases c2 : P_in p2 0 (gI M 18 p1 - 1)
    · by_cases c3 : P_in p3 1 99
      · by_cases c4 : P_in p4 1 100000
        · by_cases c5 : (ci S 264 p1) = -1
          · have c6 : ¬ ((gI M 17 p1) = 4) := (fun z => h.n264 hL c1 hQ z c5)
            rw [if_pos ((h.n14 hL).mpr c1), if_pos ((h.lnN hL c1).mpr c2), if_pos c3, if_pos c4, if_pos c5, if_pos (Iff.rfl.mpr ⟨c1, c2⟩), if_pos c3, if_pos c4, if_neg c6]
            exact ⟨mI_sIs.trans xIAS_S.symm, h.thr⟩
          · by_cases c7 : (gI M 17 p1) = 4
            · by_cases c8 : (mI M 39) = 60
              · rw [if_pos ((h.n14 hL).mpr c1), if_pos ((h.lnN hL c1).mpr c2), if_pos c3, if_pos c4, if_neg c5, if_pos ((eq_keep (h.rdI (f := 259) (j := 17) (c := 1) (x := p1) rfl (h.d14 hL c1))).mpr c7), if_neg (fun z => ((h.l39 hL).mp z) c8), if_pos (Iff.rfl.mpr ⟨c1, c2⟩), if_pos c3, if_pos c4, if_pos c7, if_pos c8]
                exact ⟨mI_sIs.trans xIAS_S.symm, h.thr⟩
              · by_cases c9 : (f_why (mI M 39) (sI (rJ (rI (rI (rI (sI M 0 0) 40 (mI M 39) ((4 * p1) + p2)) 41 (mI M 39) p3) 42 (mI M 39) p4) 43 (mI M 39) ((((p3.toInt64) * (p4.toInt64)) * ((gI M 36 (gI M 32 (gI M 21 p1))).toInt64)) / 1000)) 39 ((mI M 39) + 1))) = 0
                · rw [if_pos ((h.n14 hL).mpr c1), if_pos ((h.lnN hL c1).mpr c2), if_pos c3, if_pos c4, if_neg c5, if_pos ((eq_keep (h.rdI (f := 259) (j := 17) (c := 1) (x := p1) rfl (h.d14 hL c1))).mpr c7), if_pos ((h.l39 hL).mpr c8), if_pos (Iff.rfl.mpr ⟨c1, c2⟩), if_pos c3, if_pos c4, if_pos c7, if_neg c8, if_pos c9]
                  have h17 := c7
                  have hsp := (hQ p1 c1).2.2.2.2.2.2.1 (Or.inl h17)
                  obtain ⟨s1, s2⟩ := h.sup hL c1 hsp hC
                  rw [s2]
                  obtain ⟨Q, q1, q2, q3, q4, q5⟩ := h.lnQ hL c1 c2
                  obtain ⟨net, en⟩ : ∃ net, net = (((p3.toInt64) * (p4.toInt64)) * ((gI M 36 (gI M 32 (gI M 21 p1))).toInt64)) / 1000 := ⟨_, rfl⟩
                  obtain ⟨n, e39⟩ : ∃ n, n = xSz X 25 0 := ⟨_, rfl⟩
                  have m39 : mI M 39 = nI n := by rw [e39]; exact h.z39.symm
                  have hlt : n < 60 := by
                    have h9 := (h.l39 hL).mpr c8
                    have hb := hL.2.2.1.2.2.2.2.2.1
                    rw [e39]
                    exact (nI_ltI (by omega) (by omega)).mp (show nI (xSz X 25 0) < nI 60 from h9)
                  have hw := c9
                  rw [← en, q1, m39] at hw
                  rw [← en, q1, m39]
                  rw [← e39]
                  have ew : ∀ (N : MS), sI (rJ (rI (rI (rI N 40 (nI n) (nI Q)) 41 (nI n) p3) 42 (nI n) p4) 43 (nI n) net) 39 (nI n + 1) = wiM N (nI n) (nI Q) p3 p4 net := fun N => rfl
                  rw [ew] at hw
                  rw [ew]
                  have es : si (s_invoice X S p1 (nI Q) (ci S 264 p1) p3 p4 net) 133 (nI Q) (ci (s_invoice X S p1 (nI Q) (ci S 264 p1) p3 p4 net) 133 (nI Q) + p3) = wiS S (nI n) (nI Q) p3 := by rw [e39]; rfl
                  rw [es]
                  have h44 := hz 44 (by decide) n (by rw [m39])
                  have h0 := h.thr (v := 0)
                  have a21 : gn M 21 (Q / 4) = ci S 264 p1 := q5.trans s1.symm
                  obtain ⟨MZ, eZ⟩ : ∃ MZ, MZ = sI M 0 0 := ⟨_, rfl⟩
                  rw [← eZ] at hw h0 ⊢
                  have m39' : mI MZ 39 = nI n := by rw [eZ]; exact m39
                  have v1 : VV (wiM MZ (nI n) (nI Q) p3 p4 net) := wi_vv hlt (by rw [eZ]; exact dm_0.mpr q3) q2 (by rw [eZ]; show P_in (gn M 21 (Q / 4)) 0 5; rw [q5]; exact hsp) m39' (by rw [eZ]; exact vv_0 hV)
                  refine ⟨?_, by rw [← nI_1, Int32.add_sub_cancel], fun X2 hN => ?_⟩
                  · exact (congrFun fr_books.1 0).trans ((wi_m (by decide)).trans (by rw [eZ]; exact mI_sIs))
                  have r1 : RR X2 (wiS S (nI n) (nI Q) p3) (wiM MZ (nI n) (nI Q) p3 p4 net) := h0.ninv (s := ci S 264 p1) hL e39 hlt (by rw [eZ]; exact dm_0.mpr q3) (by rw [eZ]; exact a21.symm) (by rw [← q4]; exact hN) (by rw [eZ]; exact hz 44 (by decide) n (by rw [m39])) (by rw [eZ]; exact hz 45 (by decide) n (by rw [m39])) (by rw [eZ]; exact hz 51 (by decide) n (by rw [m39])) (by rw [eZ]; exact hz 53 (by decide) n (by rw [m39])) (by rw [eZ]; exact hzl 46 (by decide) n (by rw [m39])) (by rw [eZ]; exact hzl 47 (by decide) n (by rw [m39])) (by rw [eZ]; exact hzl 54 (by decide) n (by rw [m39])) (by rw [eZ]; exact hzl 55 (by decide) n (by rw [m39]))
                  have hv1 : P_isInvoice (nI n) (wiM MZ (nI n) (nI Q) p3 p4 net) := by
                    show P_in (nI n) 0 (mI (wiM MZ (nI n) (nI Q) p3 p4 net) 39 - 1)
                    rw [wi_39]
                    exact (num_in (n := n + 1) (by omega)).mp ⟨nI_pos' (by omega), nI_lt (by omega) (by omega)⟩
                  have g44 : gI (wiM MZ (nI n) (nI Q) p3 p4 net) 44 (nI n) = 0 := by
                    rw [gI_n, nI_clamp (by omega), wi_g (by decide), eZ]
                    exact h44
                  rw [bu_X (X2 := X2) hN.2.2.1 hN.2.2.2.1]
                  unfold k_bookUnlessHeld
                  rw [r1.why hN.2.1 (p := nI n) hv1 (v1 _ hv1).1.1 (v1 _ hv1).1.2]
                  rw [if_pos hw]
                  exact r1.book hN.2.1 hv1 g44 (v1 _ hv1).1 (fun p hp => wi_qk (by rw [eZ]; exact qk_0 (hQ p (by have hp' : P_in p 0 (mI (wiM MZ (nI n) (nI Q) p3 p4 net) 14 - 1) := hp; rw [wi_m (by decide), eZ] at hp'; exact hp')))) (by rw [eZ]; exact hY) (v1 _ hv1).2
                · rw [if_pos ((h.n14 hL).mpr c1), if_pos ((h.lnN hL c1).mpr c2), if_pos c3, if_pos c4, if_neg c5, if_pos ((eq_keep (h.rdI (f := 259) (j := 17) (c := 1) (x := p1) rfl (h.d14 hL c1))).mpr c7), if_pos ((h.l39 hL).mpr c8), if_pos (Iff.rfl.mpr ⟨c1, c2⟩), if_pos c3, if_pos c4, if_pos c7, if_neg c8, if_neg c9]
                  have h17 := c7
                  have hsp := (hQ p1 c1).2.2.2.2.2.2.1 (Or.inl h17)
                  obtain ⟨s1, s2⟩ := h.sup hL c1 hsp hC
                  rw [s2]
                  obtain ⟨Q, q1, q2, q3, q4, q5⟩ := h.lnQ hL c1 c2
                  obtain ⟨net, en⟩ : ∃ net, net = (((p3.toInt64) * (p4.toInt64)) * ((gI M 36 (gI M 32 (gI M 21 p1))).toInt64)) / 1000 := ⟨_, rfl⟩
                  obtain ⟨n, e39⟩ : ∃ n, n = xSz X 25 0 := ⟨_, rfl⟩
                  have m39 : mI M 39 = nI n := by rw [e39]; exact h.z39.symm
                  have hlt : n < 60 := by
                    have h9 := (h.l39 hL).mpr c8
                    have hb := hL.2.2.1.2.2.2.2.2.1
                    rw [e39]
                    exact (nI_ltI (by omega) (by omega)).mp (show nI (xSz X 25 0) < nI 60 from h9)
                  have hw := c9
                  rw [← en, q1, m39] at hw
                  rw [← en, q1, m39]
                  rw [← e39]
                  have ew : ∀ (N : MS), sI (rJ (rI (rI (rI N 40 (nI n) (nI Q)) 41 (nI n) p3) 42 (nI n) p4) 43 (nI n) net) 39 (nI n + 1) = wiM N (nI n) (nI Q) p3 p4 net := fun N => rfl
                  rw [ew] at hw
                  rw [ew]
                  have es : si (s_invoice X S p1 (nI Q) (ci S 264 p1) p3 p4 net) 133 (nI Q) (ci (s_invoice X S p1 (nI Q) (ci S 264 p1) p3 p4 net) 133 (nI Q) + p3) = wiS S (nI n) (nI Q) p3 := by rw [e39]; rfl
                  rw [es]
                  have h44 := hz 44 (by decide) n (by rw [m39])
                  have h0 := h.thr (v := 0)
                  have a21 : gn M 21 (Q / 4) = ci S 264 p1 := q5.trans s1.symm
                  obtain ⟨MZ, eZ⟩ : ∃ MZ, MZ = sI M 0 0 := ⟨_, rfl⟩
                  rw [← eZ] at hw h0 ⊢
                  have m39' : mI MZ 39 = nI n := by rw [eZ]; exact m39
                  have v1 : VV (wiM MZ (nI n) (nI Q) p3 p4 net) := wi_vv hlt (by rw [eZ]; exact dm_0.mpr q3) q2 (by rw [eZ]; show P_in (gn M 21 (Q / 4)) 0 5; rw [q5]; exact hsp) m39' (by rw [eZ]; exact vv_0 hV)
                  refine ⟨?_, by rw [← nI_1, Int32.add_sub_cancel], fun X2 hN => ?_⟩
                  · exact (wi_m (by decide)).trans (by rw [eZ]; exact mI_sIs)
                  have r1 : RR X2 (wiS S (nI n) (nI Q) p3) (wiM MZ (nI n) (nI Q) p3 p4 net) := h0.ninv (s := ci S 264 p1) hL e39 hlt (by rw [eZ]; exact dm_0.mpr q3) (by rw [eZ]; exact a21.symm) (by rw [← q4]; exact hN) (by rw [eZ]; exact hz 44 (by decide) n (by rw [m39])) (by rw [eZ]; exact hz 45 (by decide) n (by rw [m39])) (by rw [eZ]; exact hz 51 (by decide) n (by rw [m39])) (by rw [eZ]; exact hz 53 (by decide) n (by rw [m39])) (by rw [eZ]; exact hzl 46 (by decide) n (by rw [m39])) (by rw [eZ]; exact hzl 47 (by decide) n (by rw [m39])) (by rw [eZ]; exact hzl 54 (by decide) n (by rw [m39])) (by rw [eZ]; exact hzl 55 (by decide) n (by rw [m39]))
                  have hv1 : P_isInvoice (nI n) (wiM MZ (nI n) (nI Q) p3 p4 net) := by
                    show P_in (nI n) 0 (mI (wiM MZ (nI n) (nI Q) p3 p4 net) 39 - 1)
                    rw [wi_39]
                    exact (num_in (n := n + 1) (by omega)).mp ⟨nI_pos' (by omega), nI_lt (by omega) (by omega)⟩
                  have g44 : gI (wiM MZ (nI n) (nI Q) p3 p4 net) 44 (nI n) = 0 := by
                    rw [gI_n, nI_clamp (by omega), wi_g (by decide), eZ]
                    exact h44
                  rw [bu_X (X2 := X2) hN.2.2.1 hN.2.2.2.1]
                  unfold k_bookUnlessHeld
                  rw [r1.why hN.2.1 (p := nI n) hv1 (v1 _ hv1).1.1 (v1 _ hv1).1.2]
                  rw [if_neg hw]
                  exact r1
            · rw [if_pos ((h.n14 hL).mpr c1), if_pos ((h.lnN hL c1).mpr c2), if_pos c3, if_pos c4, if_neg c5, if_neg (fun z => c7 ((eq_keep (h.rdI (f := 259) (j := 17) (c := 1) (x := p1) rfl (h.d14 hL c1))).mp z)), if_pos (Iff.rfl.mpr ⟨c1, c2⟩), if_pos c3, if_pos c4, if_neg c7]
              exact ⟨mI_sIs.trans xIAS_S.symm, h.thr⟩
        · rw [if_pos ((h.n14 hL).mpr c1), if_pos ((h.lnN hL c1).mpr c2), if_pos c3, if_neg c4, if_pos (Iff.rfl.mpr ⟨c1, c2⟩), if_pos c3, if_neg c4]
          exact ⟨mI_sIs.trans xIAS_A.symm, h.thr⟩
      · rw [if_pos ((h.n14 hL).mpr c1), if_pos ((h.lnN hL c1).mpr c2), if_neg c3, if_pos (Iff.rfl.mpr ⟨c1, c2⟩), if_neg c3]
        exact ⟨mI_sIs.trans xIAS_A.symm, h.thr⟩
    · by_cases c10 : P_in p3 1 99
      · by_cases c11 : P_in p4 1 100000
        · rw [if_pos ((h.n14 hL).mpr c1), if_neg (fun z => c2 ((h.lnN hL c1).mp z)), if_neg (fun z => c2 (Iff.rfl.mp z).2), if_pos c10, if_pos c11]
          exact ⟨mI_sIs.trans xIAS_I.symm, h.thr⟩
        · rw [if_pos ((h.n14 hL).mpr c1), if_neg (fun z => c2 ((h.lnN hL c1).mp z)), if_neg (fun z => c2 (Iff.rfl.mp z).2), if_pos c10, if_neg c11]
          exact ⟨mI_sIs.trans xIAS_I.symm, h.thr⟩
      · rw [if_pos ((h.n14 hL).mpr c1), if_neg (fun z => c2 ((h.lnN hL c1).mp z)), if_neg (fun z => c2 (Iff.rfl.mp z).2), if_neg c10]
        exact ⟨mI_sIs.trans xIAS_I.symm, h.thr⟩
  · by_cases c12 : P_in p3 1 99
    · by_cases c13 : P_in p4 1 100000
      · rw [if_neg (fun z => c1 ((h.n14 hL).mp z)), if_neg (fun z => c1 (Iff.rfl.mp z).1), if_pos c12, if_pos c13]
        exact ⟨mI_sIs.trans xIAS_I.symm, h.thr⟩
      · rw [if_neg (fun z => c1 ((h.n14 hL).mp z)), if_neg (fun z => c1 (Iff.rfl.mp z).1), if_pos c12, if_neg c13]
        exact ⟨mI_sIs.trans xIAS_I.symm, h.thr⟩
    · rw [if_neg (fun z => c1 ((h.n14 hL).mp z)), if_neg (fun z => c1 (Iff.rfl.mp z).1), if_neg c12]
      exact ⟨mI_sIs.trans xIAS_I.symm, h.thr⟩
