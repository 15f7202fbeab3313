theorem pc_bd {M : MS} (h60 : cnt M 39 ≤ 60) (h39 : mI M 39 = nI (cnt M 39)) (h41 : ∀ v, P_isInvoice v M → P_in (gI M 41 v) 1 99) {q : Int32} : ∀ n, n ≤ cnt M 39 → (0 ≤ (it_heldPieces q M n).toInt ∧ (it_heldPieces q M n).toInt ≤ 99 * n) ∧ (0 ≤ (it_bookedPieces q M n).toInt ∧ (it_bookedPieces q M n).toInt ≤ 99 * n)
  | 0, _ => by
    have e : (0 : Int32).toInt = 0 := by decide
    show (0 ≤ (0 : Int32).toInt ∧ (0 : Int32).toInt ≤ 99 * ((0 : Nat) : Int)) ∧ (0 ≤ (0 : Int32).toInt ∧ (0 : Int32).toInt ≤ 99 * ((0 : Nat) : Int))
    rw [e]
    omega
  | n + 1, hn => by
    obtain ⟨⟨a1, a2⟩, b1, b2⟩ := pc_bd h60 h39 h41 (q := q) n (by omega)
    have p1 := in_int (h41 (nI n) (inv_n h60 h39 (by omega)))
    rw [show (1 : Int32).toInt = 1 from by decide, show (99 : Int32).toInt = 99 from by decide] at p1
    have e1 := w_a32 (x := it_heldPieces q M n) (y := gI M 41 (nI n)) rfl rfl (by omega) (by omega)
    have e2 := w_a32 (x := it_bookedPieces q M n) (y := gI M 41 (nI n)) rfl rfl (by omega) (by omega)
    unfold it_heldPieces it_bookedPieces st_heldPieces st_bookedPieces
    by_cases c1 : gI M 40 (nI n) = q
    · rw [if_pos c1, if_pos c1]
      by_cases c2 : gI M 44 (nI n) = 0
      · rw [if_pos c2, if_pos c2, e1, Int32.add_zero]
        omega
      · rw [if_neg c2, if_neg c2, e2, Int32.add_zero]
        omega
    · rw [if_neg c1, if_neg c1, Int32.add_zero, Int32.add_zero]
      omega
theorem held_bd {M : MS} (h60 : cnt M 39 ≤ 60) (h39 : mI M 39 = nI (cnt M 39)) (h41 : ∀ v, P_isInvoice v M → P_in (gI M 41 v) 1 99) {q : Int32} : 0 ≤ (f_heldPieces q M).toInt ∧ (f_heldPieces q M).toInt ≤ 5940 := by
  have h9 := (pc_bd h60 h39 h41 (q := q) _ (Nat.le_refl _)).1
  unfold f_heldPieces
  unfold cnt at h9 h60
  omega
theorem booked_bd {M : MS} (h60 : cnt M 39 ≤ 60) (h39 : mI M 39 = nI (cnt M 39)) (h41 : ∀ v, P_isInvoice v M → P_in (gI M 41 v) 1 99) {q : Int32} : 0 ≤ (f_bookedPieces q M).toInt ∧ (f_bookedPieces q M).toInt ≤ 5940 := by
  have h9 := (pc_bd h60 h39 h41 (q := q) _ (Nat.le_refl _)).2
  unfold f_bookedPieces
  unfold cnt at h9 h60
  omega
theorem sum4 {a b c d : Int32} (ha : 0 ≤ a.toInt ∧ a.toInt ≤ 5940) (hb : 0 ≤ b.toInt ∧ b.toInt ≤ 5940) (hc : 0 ≤ c.toInt ∧ c.toInt ≤ 5940) (hd : 0 ≤ d.toInt ∧ d.toInt ≤ 5940) : (0 + a) + b + c + d ≤ 0 ↔ a ≤ 0 ∧ b ≤ 0 ∧ c ≤ 0 ∧ d ≤ 0 := by
  rw [Int32.zero_add]
  simp only [Int32.le_iff_toInt_le]
  have e1 := w_a32 (x := a) (y := b) rfl rfl (by omega) (by omega)
  have e2 := w_a32 (y := c) e1 rfl (by omega) (by omega)
  rw [w_a32 (y := d) e2 rfl (by omega) (by omega), show (0 : Int32).toInt = 0 from by decide]
  omega
section HN
variable {X : CX} {S : CT} {M : MS}
theorem hh_iff {t : Int32} : ∀ (f i : Nat), hh_run t X S f i = 1 ↔ ¬ ∀ j, i ≤ j → j < i + f → ci S 133 (4 * t + nI j) ≤ 0
  | 0, i => ⟨fun z => absurd z (by unfold hh_run; decide), fun z => (z fun j h1 h2 => by omega).elim⟩
  | f + 1, i => by
    unfold hh_run
    by_cases c : ci S 133 (4 * t + nI i) ≤ 0
    · rw [if_pos c, hh_iff f (i + 1)]
      refine not_congr ⟨fun z j h1 h2 => ?_, fun z j h1 h2 => z j (by omega) (by omega)⟩
      by_cases e : j = i
      · rw [e]; exact c
      · exact z j (by omega) (by omega)
    · rw [if_neg c]
      exact ⟨fun _ z => c (z i (Nat.le_refl _) (by omega)), fun _ => rfl⟩
theorem RR.held (h : RR X S M) (hL : LVX X) (hV : VV M) (h41 : ∀ v, P_isInvoice v M → P_in (gI M 41 v) 1 99) {p : Int32} (hp : P_isRequest p M) : K_hasHeldInvoices p X S ↔ ¬ ((((0 + (f_heldPieces ((4 * p) + 0) M)) + (f_heldPieces ((4 * p) + 1) M)) + (f_heldPieces ((4 * p) + 2) M)) + (f_heldPieces ((4 * p) + 3) M)) ≤ 0 := by
  have h39 := h.bo39 hL
  rw [sum4 (held_bd h39.1 h39.2 h41) (held_bd h39.1 h39.2 h41) (held_bd h39.1 h39.2 h41) (held_bd h39.1 h39.2 h41)]
  unfold K_hasHeldInvoices k_hasHeldInvoices
  rw [hh_iff]
  refine not_congr ?_
  obtain ⟨r, hr, h40, rfl, e, h4⟩ := h.rq hL hp
  rw [show (nI r).toNatClampNeg = r from nI_clamp (by omega)]
  have ix : ∀ j, 4 * nI r + nI j = nI (4 * r + j) := fun j => by rw [show (4 : Int32) = nI 4 from rfl, pk_mul, nI_add]
  have key : ∀ j, j < 4 → ((j < xSz X 29 r → ci S 133 (4 * nI r + nI j) ≤ 0) ↔ f_heldPieces (4 * nI r + nI j) M ≤ 0) := fun j hj => by
    by_cases c : j < xSz X 29 r
    · have hd : dm M 9 (4 * r + j) := by
        show (4 * r + j) / 4 < cnt M 14 ∧ (4 * r + j) % 4 < (gn M 18 ((4 * r + j) / 4)).toNatClampNeg
        rw [show (4 * r + j) / 4 = r by omega, show (4 * r + j) % 4 = j by omega, h.c14 hL, e, nI_clamp (by omega)]
        exact ⟨hr, c⟩
      have hb := h.bk (q := nI (4 * r + j)) (by rw [nI_clamp (by omega)]; exact hd) (by rw [nI_clamp (by omega)])
      rw [ix, hb.2]
      exact ⟨fun z => z c, fun z _ => z⟩
    · have h0 := (fb_none (M := M) (q := nI (4 * r + j)) h39.1 (fun i hi z => by
        have hv := hV (nI i) (inv_n h39.1 h39.2 hi)
        rw [gI_n, nI_clamp (by omega), z] at hv
        have h9 := hv.1.1
        rw [nI_clamp (by omega)] at h9
        have h8 : (4 * r + j) % 4 < (gn M 18 ((4 * r + j) / 4)).toNatClampNeg := h9.2
        rw [show (4 * r + j) / 4 = r by omega, show (4 * r + j) % 4 = j by omega, e, nI_clamp (by omega)] at h8
        exact c h8)).2
      rw [ix, h0]
      exact ⟨fun _ => by decide, fun _ z => absurd z c⟩
  constructor
  · intro z
    refine ⟨(key 0 (by omega)).mp fun y => z 0 (by omega) (by omega), (key 1 (by omega)).mp fun y => z 1 (by omega) (by omega), (key 2 (by omega)).mp fun y => z 2 (by omega) (by omega), (key 3 (by omega)).mp fun y => z 3 (by omega) (by omega)⟩
  · rintro ⟨z0, z1, z2, z3⟩ j _ hj
    have : j = 0 ∨ j = 1 ∨ j = 2 ∨ j = 3 := by omega
    rcases this with rfl | rfl | rfl | rfl
    · exact (key 0 (by omega)).mpr z0 (by omega)
    · exact (key 1 (by omega)).mpr z1 (by omega)
    · exact (key 2 (by omega)).mpr z2 (by omega)
    · exact (key 3 (by omega)).mpr z3 (by omega)
end HN
theorem ff1 {p : Int32} {M : MS} (h : 0 ≤ gJ M 19 p) : (f_frees p (gJ M 19 p) M).1 = gJ M 19 p := by
  unfold f_frees
  rw [if_pos (by rw [lg_cmp_ge]; exact Int64.le_refl _)]
  split <;> rfl
theorem eq_end {X : CX} {S : CT} {M : MS} {p1 : Int32} (hX : XOK X) (hL : LVX X) (h : RR X S M) (hQ : ∀ p, P_isRequest p M → QK M p) (hY : P_isYear (f_yearNow M)) (hV : VV M) (h41 : ∀ v, P_isInvoice v M → P_in (gI M 41 v) 1 99) : EQl X S xcIS (k_end p1 X S) (f_end p1 M) := by
  unfold k_end f_end
  by_cases c1 : P_isRequest p1 M
  · by_cases c2 : (gI M 17 p1) = 4
    · by_cases c3 : ((((0 + (f_heldPieces ((4 * p1) + 0) M)) + (f_heldPieces ((4 * p1) + 1) M)) + (f_heldPieces ((4 * p1) + 2) M)) + (f_heldPieces ((4 * p1) + 3) M)) ≤ 0
      · rw [if_pos ((h.n14 hL).mpr c1), if_pos ((eq_keep (h.rdI (f := 259) (j := 17) (c := 1) (x := p1) rfl (h.d14 hL c1))).mpr c2), if_neg (fun z => ((h.held hL hV h41 c1).mp z) c3), if_pos c1, if_pos c2, if_pos c3]
        have hq := hQ p1 c1
        have r1 := (h.thr (v := 0)).pI (f := 259) (j := 17) (x := p1) (v := 5) rfl
        have r2 := r1.frees hL (p := p1) (v := gJ M 19 p1) c1 (by rw [gI_rIn rfl]; exact hq.1) (fun z => by rw [gI_rIn rfl]; exact hq.2.2.1.2 z)
        have e1 : (f_frees p1 (gJ M 19 p1) (rI (sI M 0 0) 17 p1 5)).1 = gJ M 19 p1 := ff1 (M := rI (sI M 0 0) 17 p1 5) hq.2.2.1.1
        have hF : Fr [17] [19, 11] (sI M 0 0) (f_frees p1 (gJ M 19 p1) (rI (sI M 0 0) 17 p1 5)).2 := (Fr.rfl'.rI (by decide)).frees (by decide) (by decide)
        rw [h.rdJ (f := 261) (j := 19) (c := 1) (x := p1) rfl (h.d14 hL c1)]
        refine ⟨congrFun hF.1 0, ?_, r2.1⟩
        rcases r2.2 with z | ⟨z1, z2⟩
        · exact z.symm
        · refine z2.trans ?_
          show 0 = (f_frees p1 (gJ M 19 p1) (rI (sI M 0 0) 17 p1 5)).1
          rw [e1] at z1 ⊢
          exact Int64.le_antisymm hq.2.2.1.1 z1
      · rw [if_pos ((h.n14 hL).mpr c1), if_pos ((eq_keep (h.rdI (f := 259) (j := 17) (c := 1) (x := p1) rfl (h.d14 hL c1))).mpr c2), if_pos ((h.held hL hV h41 c1).mpr c3), if_pos c1, if_pos c2, if_neg c3]
        exact ⟨mI_sIs.trans xIS_S.symm, h.thr⟩
    · rw [if_pos ((h.n14 hL).mpr c1), if_neg (fun z => c2 ((eq_keep (h.rdI (f := 259) (j := 17) (c := 1) (x := p1) rfl (h.d14 hL c1))).mp z)), if_pos c1, if_neg c2]
      exact ⟨mI_sIs.trans xIS_S.symm, h.thr⟩
  · rw [if_neg (fun z => c1 ((h.n14 hL).mp z)), if_neg c1]
    exact ⟨mI_sIs.trans xIS_I.symm, h.thr⟩
