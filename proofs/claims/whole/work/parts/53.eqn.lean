theorem pc_bd {M : MS} (h60 : cnt M 39 ≤ 60) (h39 : mI M 39 = nI (cnt M 39)) (h41 : ∀ v, P_isInvoice v M → P_in (gI M 41 v) 1 99) {q : Int32} : ∀ n, n ≤ cnt M 39 → (0 ≤ (it_heldPieces q M n).toInt ∧ (it_heldPieces q M n).toInt ≤ 99 * n) ∧ (0 ≤ (it_bookedPieces q M n).toInt ∧ (it_bookedPieces q M n).toInt ≤ 99 * n)
  | 0, _ => by
    have e : (0 : Int32).toInt = 0 := by decide
    show (0 ≤ (0 : Int32).toInt ∧ (0 : Int32).toInt ≤ 99 * ((0 : Nat) : Int)) ∧ (0 ≤ (0 : Int32).toInt ∧ (0 : Int32).toInt ≤ 99 * ((0 : Nat) : Int))
    rw [e]
    omega
  | n + 1, hn => by
    obtain ⟨⟨a1, a2⟩, b1, b2⟩ := pc_bd h60 h39 h41 (q := q) n (by omega)
    have p1 := in_int (h41 (nI n) (inv_n h60 h39 (by omega)))
    rw [show (1 : Int32).toInt = 1 from by decide, show (99 : Int32).toInt = 99 from by decide] at p1
    have e1 := w_a32 (x := it_heldPieces q M n) (y := gI M 41 (nI n)) rfl rfl (by omega) (by omega)
    have e2 := w_a32 (x := it_bookedPieces q M n) (y := gI M 41 (nI n)) rfl rfl (by omega) (by omega)
    unfold it_heldPieces it_bookedPieces st_heldPieces st_bookedPieces
    by_cases c1 : gI M 40 (nI n) = q
    · rw [if_pos c1, if_pos c1]
      by_cases c2 : gI M 44 (nI n) = 0
      · rw [if_pos c2, if_pos c2, e1, Int32.add_zero]
        omega
      · rw [if_neg c2, if_neg c2, e2, Int32.add_zero]
        omega
    · rw [if_neg c1, if_neg c1, Int32.add_zero, Int32.add_zero]
      omega
theorem held_bd {M : MS} (h60 : cnt M 39 ≤ 60) (h39 : mI M 39 = nI (cnt M 39)) (h41 : ∀ v, P_isInvoice v M → P_in (gI M 41 v) 1 99) {q : Int32} : 0 ≤ (f_heldPieces q M).toInt ∧ (f_heldPieces q M).toInt ≤ 5940 := by
  have h9 := (pc_bd h60 h39 h41 (q := q) _ (Nat.le_refl _)).1
  unfold f_heldPieces
  unfold cnt at h9 h60
  omega
theorem booked_bd {M : MS} (h60 : cnt M 39 ≤ 60) (h39 : mI M 39 = nI (cnt M 39)) (h41 : ∀ v, P_isInvoice v M → P_in (gI M 41 v) 1 99) {q : Int32} : 0 ≤ (f_bookedPieces q M).toInt ∧ (f_bookedPieces q M).toInt ≤ 5940 := by
  have h9 := (pc_bd h60 h39 h41 (q := q) _ (Nat.le_refl _)).2
  unfold f_bookedPieces
  unfold cnt at h9 h60
  omega
theorem sum4 {a b c d : Int32} (ha : 0 ≤ a.toInt ∧ a.toInt ≤ 5940) (hb : 0 ≤ b.toInt ∧ b.toInt ≤ 5940) (hc : 0 ≤ c.toInt ∧ c.toInt ≤ 5940) (hd : 0 ≤ d.toInt ∧ d.toInt ≤ 5940) : (0 + a) + b + c + d ≤ 0 ↔ a ≤ 0 ∧ b ≤ 0 ∧ c ≤ 0 ∧ d ≤ 0 := by
  rw [Int32.zero_add]
  simp only [Int32.le_iff_toInt_le]
  have e1 := w_a32 (x := a) (y := b) rfl rfl (by omega) (by omega)
  have e2 := w_a32 (y := c) e1 rfl (by omega) (by omega)
  rw [w_a32 (y := d) e2 rfl (by omega) (by omega), show (0 : Int32).toInt = 0 from by decide]
  omega
section HN
variable {X : CX} {S : CT} {M : MS}
theorem hh_iff {t : Int32} : ∀ (f i : Nat), hh_run t X S f i = 1 ↔ ¬ ∀ j, i ≤ j → j < i + f → ci S 133 (4 * t + nI j) ≤ 0
  | 0, i => ⟨fun z => absurd z (by unfold hh_run; decide), fun z => (z fun j h1 h2 => by omega).elim⟩
  | f + 1, i => by
    unfold hh_run
    by_cases c : ci S 133 (4 * t + nI i) ≤ 0
    · rw [if_pos c, hh_iff f (i + 1)]
      refine not_congr ⟨fun z j h1 h2 => ?_, fun z j h1 h2 => z j (by omega) (by omega)⟩
      by_cases e : j = i
      · rw [e]; exact c
      · exact z j (by omega) (by omega)
    · rw [if_neg c]
      exact ⟨fun _ z => c (z i (Nat.le_refl _) (by omega)), fun _ => rfl⟩
theorem RR.held (h : RR X S M) (hL : LVX X) (hV : VV M) (h41 : ∀ v, P_isInvoice v M → P_in (gI M 41 v) 1 99) {p : Int32} (hp : P_isRequest p M) : K_hasHeldInvoices p X S ↔ ¬ ((((0 + (f_heldPieces ((4 * p) + 0) M)) + (f_heldPieces ((4 * p) + 1) M)) + (f_heldPieces ((4 * p) + 2) M)) + (f_heldPieces ((4 * p) + 3) M)) ≤ 0 := by
  have h39 := h.bo39 hL
  rw [sum4 (held_bd h39.1 h39.2 h41) (held_bd h39.1 h39.2 h41) (held_bd h39.1 h39.2 h41) (held_bd h39.1 h39.2 h41)]
  unfold K_hasHeldInvoices k_hasHeldInvoices
  rw [hh_iff]
  refine not_congr ?_
  obtain ⟨r, hr, h40, rfl, e, h4⟩ := h.rq hL hp
  rw [show (nI r).toNatClampNeg = r from nI_clamp (by omega)]
  have ix : ∀ j, 4 * nI r + nI j = nI (4 * r + j) := fun j => by rw [show (4 : Int32) = nI 4 from rfl, pk_mul, nI_add]
  have key : ∀ j, j < 4 → ((j < xSz X 29 r → ci S 133 (4 * nI r + nI j) ≤ 0) ↔ f_heldPieces (4 * nI r + nI j) M ≤ 0) := fun j hj => by
    by_cases c : j < xSz X 29 r
    · have hd : dm M 9 (4 * r + j) := by
        show (4 * r + j) / 4 < cnt M 14 ∧ (4 * r + j) % 4 < (gn M 18 ((4 * r + j) / 4)).toNatClampNeg
        rw [show (4 * r + j) / 4 = r by omega, show (4 * r + j) % 4 = j by omega, h.c14 hL, e, nI_clamp (by omega)]
        exact ⟨hr, c⟩
      have hb := h.bk (q := nI (4 * r + j)) (by rw [nI_clamp (by omega)]; exact hd) (by rw [nI_clamp (by omega)])
      rw [ix, hb.2]
      exact ⟨fun z => z c, fun z _ => z⟩
    · have h0 := (fb_none (M := M) (q := nI (4 * r + j)) h39.1 (fun i hi z => by
        have hv := hV (nI i) (inv_n h39.1 h39.2 hi)
        rw [gI_n, nI_clamp (by omega), z] at hv
        have h9 := hv.1.1
        rw [nI_clamp (by omega)] at h9
        have h8 : (4 * r + j) % 4 < (gn M 18 ((4 * r + j) / 4)).toNatClampNeg := h9.2
        rw [show (4 * r + j) / 4 = r by omega, show (4 * r + j) % 4 = j by omega, e, nI_clamp (by omega)] at h8
        exact c h8)).2
      rw [ix, h0]
      exact ⟨fun _ => by decide, fun _ z => absurd z c⟩
  constructor
  · intro z
    refine ⟨(key 0 (by omega)).mp fun y => z 0 (by omega) (by omega), (key 1 (by omega)).mp fun y => z 1 (by omega) (by omega), (key 2 (by omega)).mp fun y => z 2 (by omega) (by omega), (key 3 (by omega)).mp fun y => z 3 (by omega) (by omega)⟩
  · rintro ⟨z0, z1, z2, z3⟩ j _ hj
    have : j = 0 ∨ j = 1 ∨ j = 2 ∨ j = 3 := by omega
    rcases this with rfl | rfl | rfl | rfl
    · exact (key 0 (by omega)).mpr z0 (by omega)
    · exact (key 1 (by omega)).mpr z1 (by omega)
    · exact (key 2 (by omega)).mpr z2 (by omega)
    · exact (key 3 (by omega)).mpr z3 (by omega)
end HN
theorem ff1 {p : Int32} {M : MS} (h : 0 ≤ gJ M 19 p) : (f_frees p (gJ M 19 p) M).1 = gJ M 19 p := by
  unfold f_frees
  rw [if_pos (by rw [lg_cmp_ge]; exact Int64.le_refl _)]
  split <;> rfl
theorem eq_end {X : CX} {S : CT} {M : MS} {p1 : Int32} (hX : XOK X) (hL : LVX X) (h : RR X S M) (hQ : ∀ p, P_isRequest p M → QK M p) (hY : P_isYear (f_yearNow M)) (hV : VV M) (h41 : ∀ v, P_isInvoice v M → P_in (gI M 41 v) 1 99) : EQl X S xcIS (k_end p1 X S) (f_end p1 M) := by
  unfold k_end f_end
  by_cases c1 : P_isRequest p1 M
  · by_cases c2 : (gI M 17 p1) = 4
    · by_cases c3 : ((((0 + (f_heldPieces ((4 * p1) + 0) M)) + (f_heldPieces ((4 * p1) + 1) M)) + (f_heldPieces ((4 * p1) + 2) M)) + (f_heldPieces ((4 * p1) + 3) M)) ≤ 0
      · rw [if_pos ((h.n14 hL).mpr c1), if_pos ((eq_keep (h.rdI (f := 259) (j := 17) (c := 1) (x := p1) rfl (h.d14 hL c1))).mpr c2), if_neg (fun z => ((h.held hL hV h41 c1).mp z) c3), if_pos c1, if_pos c2, if_pos c3]
        have hq := hQ p1 c1
        have r1 := (h.thr (v := 0)).pI (f := 259) (j := 17) (x := p1) (v := 5) rfl
        have r2 := r1.frees hL (p := p1) (v := gJ M 19 p1) c1 (by rw [gI_rIn rfl]; exact hq.1) (fun z => by rw [gI_rIn rfl]; exact hq.2.2.1.2 z)
        have e1 : (f_frees p1 (gJ M 19 p1) (rI (sI M 0 0) 17 p1 5)).1 = gJ M 19 p1 := ff1 (M := rI (sI M 0 0) 17 p1 5) hq.2.2.1.1
        have hF : Fr [17] [19, 11] (sI M 0 0) (f_frees p1 (gJ M 19 p1) (rI (sI M 0 0) 17 p1 5)).2 := (Fr.rfl'.rI (by decide)).frees (by decide) (by decide)
        rw [h.rdJ (f := 261) (j := 19) (c := 1) (x := p1) rfl (h.d14 hL c1)]
        refine ⟨congrFun hF.1 0, ?_, r2.1⟩
        rcases r2.2 with z | ⟨z1, z2⟩
        · exact z.symm
        · refine z2.trans ?_
          show 0 = (f_frees p1 (gJ M 19 p1) (rI (sI M 0 0) 17 p1 5)).1
          rw [e1] at z1 ⊢
          exact Int64.le_antisymm hq.2.2.1.1 z1
      · rw [if_pos ((h.n14 hL).mpr c1), if_pos ((eq_keep (h.rdI (f := 259) (j := 17) (c := 1) (x := p1) rfl (h.d14 hL c1))).mpr c2), if_pos ((h.held hL hV h41 c1).mpr c3), if_pos c1, if_pos c2, if_neg c3]
        exact ⟨mI_sIs.trans xIS_S.symm, h.thr⟩
    · rw [if_pos ((h.n14 hL).mpr c1), if_neg (fun z => c2 ((eq_keep (h.rdI (f := 259) (j := 17) (c := 1) (x := p1) rfl (h.d14 hL c1))).mp z)), if_pos c1, if_neg c2]
      exact ⟨mI_sIs.trans xIS_S.symm, h.thr⟩
  · rw [if_neg (fun z => c1 ((h.n14 hL).mp z)), if_neg c1]
    exact ⟨mI_sIs.trans xIS_I.symm, h.thr⟩
theorem fb_more {M M' : MS} {q q' pc : Int32} {n : Nat} (hn : cnt M 39 = n) (hn' : cnt M' 39 = n + 1) (h60 : n < 60) (h1 : ∀ i, i < n → gn M' 40 i = gn M 40 i) (h2 : ∀ i, i < n → gn M' 41 i = gn M 41 i) (h3 : ∀ i, i < n → gn M' 44 i = gn M 44 i) (g40 : gn M' 40 n = q') (g41 : gn M' 41 n = pc) (g44 : gn M' 44 n = 0) : f_bookedPieces q M' = f_bookedPieces q M ∧ f_heldPieces q M' = f_heldPieces q M + (if q' = q then pc else 0) := by
  have key : ∀ k, k ≤ n → it_bookedPieces q M' k = it_bookedPieces q M k ∧ it_heldPieces q M' k = it_heldPieces q M k := fun k => by
    induction k with
    | zero => exact fun _ => ⟨rfl, rfl⟩
    | succ k ih =>
      intro hk
      obtain ⟨i1, i2⟩ := ih (by omega)
      unfold it_bookedPieces it_heldPieces st_bookedPieces st_heldPieces
      rw [i1, i2, gI_n, gI_n, gI_n, gI_n, gI_n, gI_n, nI_clamp (by omega), h1 k (by omega), h2 k (by omega), h3 k (by omega)]
      exact ⟨rfl, rfl⟩
  obtain ⟨k1, k2⟩ := key n (Nat.le_refl _)
  have e1 : f_bookedPieces q M' = it_bookedPieces q M' (n + 1) := by unfold f_bookedPieces; rw [← hn']; rfl
  have e2 : f_heldPieces q M' = it_heldPieces q M' (n + 1) := by unfold f_heldPieces; rw [← hn']; rfl
  have e3 : f_bookedPieces q M = it_bookedPieces q M n := by unfold f_bookedPieces; rw [← hn]; rfl
  have e4 : f_heldPieces q M = it_heldPieces q M n := by unfold f_heldPieces; rw [← hn]; rfl
  rw [e1, e2, e3, e4]
  show st_bookedPieces q M' (nI n) (it_bookedPieces q M' n) = it_bookedPieces q M n ∧ st_heldPieces q M' (nI n) (it_heldPieces q M' n) = it_heldPieces q M n + (if q' = q then pc else 0)
  unfold st_bookedPieces st_heldPieces
  rw [k1, k2, gI_n, gI_n, gI_n, nI_clamp (by omega), g40, g41, g44]
  by_cases c : q' = q
  · rw [if_pos c, if_pos c, if_pos c, if_pos rfl, if_pos rfl, Int32.add_zero]
    exact ⟨rfl, rfl⟩
  · rw [if_neg c, if_neg c, if_neg c, Int32.add_zero]
    exact ⟨rfl, rfl⟩
def wiS (S : CT) (x q pc : Int32) : CT := si (sj (sj (si (si (si (sj (sj (sj (si (si (si (si S 102 x 0) 103 x 0) 104 x 1) 105 x 0) 106 x 0) 107 x 0) 108 x 0) 109 x (-1)) 110 x (-1)) 111 x 0) 112 x 0) 113 x 0) 133 q (ci S 133 q + pc)
def wiM (M : MS) (x q pc u : Int32) (net : Int64) : MS := sI (rJ (rI (rI (rI M 40 x q) 41 x pc) 42 x u) 43 x net) 39 (x + 1)
theorem RR.ninv {X X2 : CX} {S : CT} {M : MS} {n Q : Nat} {pc u s : Int32} {net : Int64} (h : RR X S M) (hL : LVX X) (en : n = xSz X 25 0) (hlt : n < 60) (hQ : dm M 9 Q) (hs : s = gn M 21 (Q / 4)) (hN : NX (y_invoice X (nI (Q / 4)) (nI Q) s pc u net) X2 25 0) (z44 : gn M 44 n = 0) (z45 : gn M 45 n = 0) (z51 : gn M 51 n = 0) (z53 : gn M 53 n = 0) (z46 : gl M 46 n = 0) (z47 : gl M 47 n = 0) (z54 : gl M 54 n = 0) (z55 : gl M 55 n = 0) : RR X2 (wiS S (nI n) (nI Q) pc) (wiM M (nI n) (nI Q) pc u net) := by
  have hQ30 := h.d9 hL hQ
  have h39 := h.bo39 hL
  have cn : cnt M 39 = n := by rw [h.c39 hL, en]
  have hcn : (nI n).toNatClampNeg = n := nI_clamp (by omega)
  have hcq : (nI Q).toNatClampNeg = Q := nI_clamp (by omega)
  have hYf : ∀ f i, xFi X2 f i = xFi (fiX (fiX (fiX (fiX (fiX X 96 n (nI (Q / 4))) 97 n (nI Q)) 98 n s) 99 n pc) 100 n u) f i := fun f i => by
    rw [hN.2.2.1, en]; rfl
  have hYj : ∀ f i, xFj X2 f i = xFj (fjX X 101 n net) f i := fun f i => by
    rw [hN.2.2.2.1, en]; rfl
  have hsz : xSz X2 = fun L j => if L = 25 ∧ j = 0 then n + 1 else xSz X L j := by rw [en]; exact hN.2.2.2.2.1
  have hd9 : ∀ {i}, dm M 9 i → i < 2 ^ 30 := fun z => h.d9 hL z
  generalize eT : wiS S (nI n) (nI Q) pc = T
  generalize eN : wiM M (nI n) (nI Q) pc u net = N
  unfold wiS at eT
  unfold wiM at eN
  have hm : ∀ j, j ≠ 39 → mI N j = mI M j := fun j z => by rw [← eN]; exact if_neg z
  have hm39 : mI N 39 = nI (n + 1) := by rw [← eN, ← nI_1]; exact mI_sIs
  have hmj : mJ N = mJ M := by rw [← eN]; rfl
  have hg : ∀ j i, ¬ ((j = 40 ∨ j = 41 ∨ j = 42) ∧ i = n) → gn N j i = gn M j i := fun j i z => by
    rw [← eN]
    show gn (rI (rI (rI M 40 (nI n) (nI Q)) 41 (nI n) pc) 42 (nI n) u) j i = _
    rw [gn_rI, hcn, if_neg (fun y => z ⟨by omega, y.2⟩), gn_rI, hcn, if_neg (fun y => z ⟨by omega, y.2⟩), gn_rI, hcn, if_neg (fun y => z ⟨by omega, y.2⟩)]
  have g42 : gn N 42 n = u := by
    rw [← eN]
    show gn (rI (rI (rI M 40 (nI n) (nI Q)) 41 (nI n) pc) 42 (nI n) u) 42 n = _
    rw [gn_rI, hcn, if_pos ⟨rfl, rfl⟩]
  have g41 : gn N 41 n = pc := by
    rw [← eN]
    show gn (rI (rI (rI M 40 (nI n) (nI Q)) 41 (nI n) pc) 42 (nI n) u) 41 n = _
    rw [gn_rIn (by decide), gn_rI, hcn, if_pos ⟨rfl, rfl⟩]
  have g40 : gn N 40 n = nI Q := by
    rw [← eN]
    show gn (rI (rI (rI M 40 (nI n) (nI Q)) 41 (nI n) pc) 42 (nI n) u) 40 n = _
    rw [gn_rIn (by decide), gn_rIn (by decide), gn_rI, hcn, if_pos ⟨rfl, rfl⟩]
  have hl : ∀ j i, ¬ (j = 43 ∧ i = n) → gl N j i = gl M j i := fun j i z => by
    rw [← eN]
    show gl (rJ M 43 (nI n) net) j i = _
    rw [gl_rJ, hcn, if_neg z]
  have l43 : gl N 43 n = net := by
    rw [← eN]
    show gl (rJ M 43 (nI n) net) 43 n = _
    rw [gl_rJ, hcn, if_pos ⟨rfl, rfl⟩]
  have hS1 : ∀ f i, ¬ (f / 32 = 3 ∧ i = n) → ¬ (f = 133 ∧ i = Q) → T.1 f i = S.1 f i := fun f i z1 z2 => by
    rw [← eT, s1_si, hcq, if_neg z2]
    show (si (si (si (si (si (si (si S 102 (nI n) 0) 103 (nI n) 0) 104 (nI n) 1) 105 (nI n) 0) 109 (nI n) (-1)) 110 (nI n) (-1)) 111 (nI n) 0).1 f i = _
    rw [s1_si, hcn, if_neg (fun y => z1 ⟨by omega, y.2⟩), s1_si, hcn, if_neg (fun y => z1 ⟨by omega, y.2⟩), s1_si, hcn, if_neg (fun y => z1 ⟨by omega, y.2⟩), s1_si, hcn, if_neg (fun y => z1 ⟨by omega, y.2⟩), s1_si, hcn, if_neg (fun y => z1 ⟨by omega, y.2⟩), s1_si, hcn, if_neg (fun y => z1 ⟨by omega, y.2⟩), s1_si, hcn, if_neg (fun y => z1 ⟨by omega, y.2⟩)]
  have hT3 : ∀ f, f ≠ 133 → T.1 f n = (si (si (si (si (si (si (si S 102 (nI n) 0) 103 (nI n) 0) 104 (nI n) 1) 105 (nI n) 0) 109 (nI n) (-1)) 110 (nI n) (-1)) 111 (nI n) 0).1 f n := fun f z => by
    rw [← eT, s1_sn z]
    rfl
  have k111 : T.1 111 n = 0 := by rw [hT3 _ (by decide), s1_si, hcn, if_pos ⟨rfl, rfl⟩]
  have k110 : T.1 110 n = -1 := by rw [hT3 _ (by decide), s1_sn (by decide), s1_si, hcn, if_pos ⟨rfl, rfl⟩]
  have k105 : T.1 105 n = 0 := by rw [hT3 _ (by decide), s1_sn (by decide), s1_sn (by decide), s1_sn (by decide), s1_si, hcn, if_pos ⟨rfl, rfl⟩]
  have k103 : T.1 103 n = 0 := by rw [hT3 _ (by decide), s1_sn (by decide), s1_sn (by decide), s1_sn (by decide), s1_sn (by decide), s1_sn (by decide), s1_si, hcn, if_pos ⟨rfl, rfl⟩]
  have k102 : T.1 102 n = 0 := by rw [hT3 _ (by decide), s1_sn (by decide), s1_sn (by decide), s1_sn (by decide), s1_sn (by decide), s1_sn (by decide), s1_sn (by decide), s1_si, hcn, if_pos ⟨rfl, rfl⟩]
  have k133 : T.1 133 Q = ci S 133 (nI Q) + pc := by rw [← eT, s1_si, hcq, if_pos ⟨rfl, rfl⟩]
  have hT2 : ∀ f i, T.2 f i = (sj (sj (sj (sj (sj S 106 (nI n) 0) 107 (nI n) 0) 108 (nI n) 0) 112 (nI n) 0) 113 (nI n) 0).2 f i := fun f i => by rw [← eT]; rfl
  have hS2 : ∀ f i, ¬ (f / 32 = 3 ∧ i = n) → T.2 f i = S.2 f i := fun f i z1 => by
    rw [hT2, s2_sj, hcn, if_neg (fun y => z1 ⟨by omega, y.2⟩), s2_sj, hcn, if_neg (fun y => z1 ⟨by omega, y.2⟩), s2_sj, hcn, if_neg (fun y => z1 ⟨by omega, y.2⟩), s2_sj, hcn, if_neg (fun y => z1 ⟨by omega, y.2⟩), s2_sj, hcn, if_neg (fun y => z1 ⟨by omega, y.2⟩)]
  have j113 : T.2 113 n = 0 := by rw [hT2, s2_sj, hcn, if_pos ⟨rfl, rfl⟩]
  have j112 : T.2 112 n = 0 := by rw [hT2, s2_sn (by decide), s2_sj, hcn, if_pos ⟨rfl, rfl⟩]
  have j108 : T.2 108 n = 0 := by rw [hT2, s2_sn (by decide), s2_sn (by decide), s2_sj, hcn, if_pos ⟨rfl, rfl⟩]
  have j107 : T.2 107 n = 0 := by rw [hT2, s2_sn (by decide), s2_sn (by decide), s2_sn (by decide), s2_sj, hcn, if_pos ⟨rfl, rfl⟩]
  have j106 : T.2 106 n = 0 := by rw [hT2, s2_sn (by decide), s2_sn (by decide), s2_sn (by decide), s2_sn (by decide), s2_sj, hcn, if_pos ⟨rfl, rfl⟩]
  have hX1 : ∀ f i, ¬ (f / 32 = 3 ∧ i = n) → xFi X2 f i = xFi X f i := fun f i z => by
    rw [hYf, fi_o (fun y => z ⟨by rw [y.1], y.2⟩), fi_o (fun y => z ⟨by rw [y.1], y.2⟩), fi_o (fun y => z ⟨by rw [y.1], y.2⟩), fi_o (fun y => z ⟨by rw [y.1], y.2⟩), fi_o (fun y => z ⟨by rw [y.1], y.2⟩)]
  have hX2 : ∀ f i, ¬ (f / 32 = 3 ∧ i = n) → xFj X2 f i = xFj X f i := fun f i z => by
    rw [hYj, fj_o (fun y => z ⟨by rw [y.1], y.2⟩)]
  have hd : ∀ c i, dm N c i ↔ dm M c i ∨ (c = 2 ∧ i = n) := by
    have e3 : cnt N 3 = cnt M 3 := by unfold cnt; rw [hm 3 (by decide)]
    have e14 : cnt N 14 = cnt M 14 := by unfold cnt; rw [hm 14 (by decide)]
    have e57 : cnt N 57 = cnt M 57 := by unfold cnt; rw [hm 57 (by decide)]
    have e59 : cnt N 59 = cnt M 59 := by unfold cnt; rw [hm 59 (by decide)]
    have e39 : cnt N 39 = n + 1 := by unfold cnt; rw [hm39, nI_clamp (by omega)]
    intro c i
    by_cases e : c = 2
    · subst e
      show i < cnt N 39 ↔ i < cnt M 39 ∨ (2 = 2 ∧ i = n)
      rw [e39, cn]
      omega
    · refine Iff.trans ?_ (Iff.symm (or_iff_left (fun z => e z.1)))
      by_cases e9 : c = 9
      · subst e9
        show (i / 4 < cnt N 14 ∧ i % 4 < (gn N 18 (i / 4)).toNatClampNeg) ↔ (i / 4 < cnt M 14 ∧ i % 4 < (gn M 18 (i / 4)).toNatClampNeg)
        rw [e14, hg 18 _ (by omega)]
      · unfold dm
        rw [e3, e14, e57, e59]
        split <;> first | exact Iff.rfl | exact absurd rfl e | exact absurd rfl e9
  have hne : ∀ i, dm M 2 i → i ≠ n := fun i z e => by
    have z' : i < cnt M 39 := z
    omega
  obtain ⟨⟨r1, r2⟩, ⟨r3, r4, r5, r6, r7⟩, ⟨r8, r9⟩, ⟨r10, r11⟩, ⟨r12, r13⟩, r14, r15, r16, r17⟩ := h
  refine ⟨⟨fun t ht i hi => ?_, fun t ht i hi => ?_⟩, ⟨fun t ht i hi => ?_, fun t ht i hi => ?_, fun i hi => ?_, fun i hi => ?_, fun i hi => ?_⟩, ⟨fun t ht => ?_, ?_⟩, ⟨?_, fun q hq => ?_⟩, ⟨?_, fun i hi => ?_⟩, fun q hq => ?_, fun q hq => ?_, fun i hi => ?_, fun q u' hq hu z hz => ?_⟩
  · have h9 : ∀ t ∈ TI, (t.1 / 32 = 3 → t.2.2 = 2) ∧ t.2.1 ≠ 40 ∧ t.2.1 ≠ 41 ∧ t.2.1 ≠ 42 ∧ t.1 ≠ 133 := by decide
    obtain ⟨a1, a2⟩ := h9 t ht
    rw [hg _ _ (by omega)]
    rcases (hd _ _).mp hi with z | ⟨z1, z2⟩
    · rw [hS1 _ _ (fun y => hne i (a1 y.1 ▸ z) y.2) (by omega)]
      exact r1 t ht i z
    · have h9 : ∀ t ∈ TI, t.2.2 = 2 → t = (102, 44, 2) ∨ t = (103, 45, 2) ∨ t = (105, 51, 2) ∨ t = (111, 53, 2) := by decide
      rw [z2]
      rcases h9 t ht z1 with rfl | rfl | rfl | rfl
      · exact k102.trans z44.symm
      · exact k103.trans z45.symm
      · exact k105.trans z51.symm
      · exact k111.trans z53.symm
  · have h9 : ∀ t ∈ TJ, (t.1 / 32 = 3 → t.2.2 = 2) ∧ t.2.1 ≠ 43 := by decide
    obtain ⟨a1, a2⟩ := h9 t ht
    rw [hl _ _ (by omega)]
    rcases (hd _ _).mp hi with z | ⟨z1, z2⟩
    · rw [hS2 _ _ (fun y => hne i (a1 y.1 ▸ z) y.2)]
      exact r2 t ht i z
    · have h9 : ∀ t ∈ TJ, t.2.2 = 2 → t = (106, 46, 2) ∨ t = (107, 47, 2) ∨ t = (112, 54, 2) ∨ t = (113, 55, 2) := by decide
      rw [z2]
      rcases h9 t ht z1 with rfl | rfl | rfl | rfl
      · exact j106.trans z46.symm
      · exact j107.trans z47.symm
      · exact j112.trans z54.symm
      · exact j113.trans z55.symm
  · have h9 : ∀ t ∈ TF, (t.1 / 32 = 3 → t.2.2 = 2) ∧ ((t.2.1 = 40 ∨ t.2.1 = 41 ∨ t.2.1 = 42) → t.2.2 = 2) := by decide
    obtain ⟨a1, a2⟩ := h9 t ht
    rcases (hd _ _).mp hi with z | ⟨z1, z2⟩
    · rw [hX1 _ _ (fun y => hne i (a1 y.1 ▸ z) y.2), hg _ _ (fun y => hne i (a2 y.1 ▸ z) y.2)]
      exact r3 t ht i z
    · have h9 : ∀ t ∈ TF, t.2.2 = 2 → t = (97, 40, 2) ∨ t = (99, 41, 2) ∨ t = (100, 42, 2) := by decide
      rw [z2]
      rcases h9 t ht z1 with rfl | rfl | rfl
      · rw [hYf, g40, fi_sn rfl, fi_sn rfl, fi_sn rfl, fi_ss]
      · rw [hYf, g41, fi_sn rfl, fi_ss]
      · rw [hYf, g42, fi_ss]
  · have h9 : ∀ t ∈ TG, (t.1 / 32 = 3 → t.2.2 = 2) ∧ (t.2.1 = 43 → t.2.2 = 2) := by decide
    obtain ⟨a1, a2⟩ := h9 t ht
    rcases (hd _ _).mp hi with z | ⟨z1, z2⟩
    · rw [hX2 _ _ (fun y => hne i (a1 y.1 ▸ z) y.2), hl _ _ (fun y => hne i (a2 y.1 ▸ z) y.2)]
      exact r4 t ht i z
    · have h9 : ∀ t ∈ TG, t.2.2 = 2 → t = (101, 43, 2) := by decide
      rw [z2]
      rcases h9 t ht z1 with rfl
      rw [hYj, l43]
      exact fj_ss
  · rw [hX1 _ _ (by omega)]
    exact r5 i (((hd 0 i).mp hi).resolve_right (by omega))
  · rw [hX1 _ _ (by omega)]
    exact r6 i hi
  · rw [hg 21 _ (by omega)]
    rcases (hd _ _).mp hi with z | ⟨_, z2⟩
    · rw [hX1 _ _ (fun y => hne i z y.2), hX1 _ _ (fun y => hne i z y.2), hg 40 _ (fun y => hne i z y.2)]
      exact r7 i z
    · rw [z2, g40, hcq, hYf, hYf]
      exact ⟨by rw [fi_sn rfl, fi_sn rfl, fi_sn rfl, fi_sn rfl, fi_ss], by rw [fi_sn rfl, fi_sn rfl, fi_ss]; exact hs⟩
  · have h9 : ∀ t ∈ T0, t.1 / 32 ≠ 3 ∧ t.1 ≠ 133 ∧ t.2 ≠ 39 := by decide
    obtain ⟨a1, a2, a3⟩ := h9 t ht
    rw [hS1 _ _ (fun y => a1 y.1) (fun y => a2 y.1), hm _ a3]
    exact r8 t ht
  · rw [hS2 _ _ (by omega), hmj]
    exact r9
  · have hs' : ∀ L j, L ≠ 25 → xSz X2 L j = xSz X L j := fun L j z => by
      rw [hsz]
      exact if_neg (fun y => z y.1)
    have hs25 : xSz X2 25 0 = n + 1 := by rw [hsz]; exact if_pos ⟨rfl, rfl⟩
    rw [hm 3 (by decide), hm 14 (by decide), hm39, hm 57 (by decide), hm 59 (by decide), hs' _ _ (by decide), hs' _ _ (by decide), hs25, hs' _ _ (by decide), hs' _ _ (by decide)]
    exact ⟨r10.1, r10.2.1, rfl, r10.2.2.2.1, r10.2.2.2.2⟩
  · have hs' : ∀ L j, L ≠ 25 → xSz X2 L j = xSz X L j := fun L j z => by
      rw [hsz]
      exact if_neg (fun y => z y.1)
    rw [hs' _ _ (by decide)] at hq ⊢
    rw [hg 18 _ (by omega)]
    exact r11 q hq
  · unfold RC
    rw [hS1 _ _ (by omega) (by omega), hm 3 (by decide), hm 10 (by decide)]
    exact r12
  · rw [hg 6 _ (by omega), hg 7 _ (by omega), hS1 _ _ (by omega) (by omega)]
    exact r13 i (((hd 0 i).mp hi).resolve_right (by omega))
  · rw [hS1 _ _ (by omega) (by omega), hg 24 _ (by omega), hg 25 _ (by omega), gI_n, hg 23 _ (by omega)]
    exact r14 q (((hd 1 q).mp hq).resolve_right (by omega))
  · have hq' := ((hd 9 q).mp hq).resolve_right (by omega)
    have h9 := fb_more (M := M) (M' := N) (q := nI q) (q' := nI Q) (pc := pc) (n := n) cn (by unfold cnt; rw [hm39, nI_clamp (by omega)]) hlt (fun i hi => hg 40 _ (by omega)) (fun i hi => hg 41 _ (by omega)) (fun i hi => hg 44 _ (by omega)) g40 g41 (by rw [hg 44 _ (by omega)]; exact z44)
    have h8 := r15 q hq'
    have hq30 : q < 2 ^ 30 := hd9 hq'
    rw [h9.1, h9.2, hS1 132 _ (by omega) (by omega), h8.1]
    refine ⟨rfl, ?_⟩
    by_cases z : q = Q
    · rw [z, k133, if_pos rfl, ci_n, hcq, ← z, h8.2]
    · rw [hS1 _ _ (by omega) (fun y => z y.2), if_neg (fun y => z (by
        have := congrArg Int32.toNatClampNeg y
        rw [hcq, nI_clamp (by omega)] at this
        exact this.symm)), Int32.add_zero]
      exact h8.2
  · rcases (hd _ _).mp hi with z | ⟨_, z2⟩
    · have y := hne i z
      rw [hg 44 _ (by omega), hS2 _ _ (fun w => y w.2), hl 48 _ (by omega), hS1 _ _ (fun w => y w.2) (by omega), hS1 _ _ (fun w => y w.2) (by omega), hS1 _ _ (fun w => y w.2) (by omega), hg 52 _ (by omega), hg 49 _ (by omega), hg 50 _ (by omega)]
      exact r16 i z
    · have e44 : gn N 44 n = 0 := by rw [hg 44 _ (by omega)]; exact z44
      rw [z2, e44, j108, k110]
      exact ⟨rfl, fun _ => rfl, fun w => absurd rfl w⟩
  · rw [hS2 _ _ (by omega), hl _ _ (by omega)]
    exact r17 q u' hq hu z hz
section HI2
variable {X X2 : CX} {S : CT} {M : MS}
theorem bu_X {Y : CX} {p : Int32} (h1 : xFi X2 = xFi Y) (h2 : xFj X2 = xFj Y) : k_bookUnlessHeld p Y S = k_bookUnlessHeld p X2 S := by
  obtain ⟨a1, a2, a3, a4, a5, a6, a7, a8, a9⟩ := Y
  obtain ⟨b1, b2, b3, b4, b5, b6, b7, b8, b9⟩ := X2
  have e1 : b5 = a5 := h1
  have e2 : b6 = a6 := h2
  subst e1
  subst e2
  rfl
theorem RR.sup (h : RR X S M) (hL : LVX X) {p : Int32} (hp : P_isRequest p M) (hs : P_in (gI M 21 p) 0 5) (hC : ∀ i, i < 6 → P_in (gn M 32 i) 0 2) : ci S 264 p = gI M 21 p ∧ ci S 160 (ci S 289 (ci S 264 p)) = gI M 36 (gI M 32 (gI M 21 p)) := by
  have e1 : ci S 264 p = gI M 21 p := h.rdI (f := 264) (j := 21) (c := 1) rfl (h.d14 hL hp)
  have hd5 : dm M 5 (gI M 21 p).toNatClampNeg := Nat.lt_succ_of_le (in_toNat (n := 5) (by decide) hs)
  have e2 : ci S 289 (gI M 21 p) = gI M 32 (gI M 21 p) := h.rdI (f := 289) (j := 32) (c := 5) rfl hd5
  have hd6 : dm M 6 (gI M 32 (gI M 21 p)).toNatClampNeg := Nat.lt_succ_of_le (in_toNat (n := 2) (by decide) (hC _ hd5))
  refine ⟨e1, ?_⟩
  rw [e1, e2]
  exact h.rdI (f := 160) (j := 36) (c := 6) rfl hd6
end HI2
