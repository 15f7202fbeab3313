/-- who comes behind b in a chain -/
def MB (M : MS) (b : Int32) (t : Int64) : Int32 := if lg_cmp ((gI M 5 b).toInt64) t < 0 then gI M 4 b else -1
/-- a chain as laid for a total -/
def CH (M : MS) (p : Int32) (t : Int64) : Prop := ∃ n a : Nat, n ≤ 12 ∧ a ≤ n ∧ gI M 24 p = nI n ∧ gI M 25 p = nI a ∧ ∀ j, j < n → P_isPerson (gI M 23 (12 * p + nI j)) M ∧ MB M (gI M 23 (12 * p + nI j)) t = if j + 1 < n then gI M 23 (12 * p + nI (j + 1)) else -1
/-- what always holds of a request -/
def QK (M : MS) (p : Int32) : Prop := P_isCentre (gI M 16 p) ∧ P_isPerson (gI M 15 p) M ∧ (0 ≤ gJ M 19 p ∧ (0 < gJ M 19 p → P_isYear (gI M 20 p))) ∧ (gI M 26 p = -1 ∨ P_isPerson (gI M 26 p) M) ∧ (∃ t, CH M p t) ∧ (gI M 17 p = 1 → CH M p (f_total p M)) ∧ ((gI M 17 p = 4 ∨ gI M 17 p = 5) → P_in (gI M 21 p) 0 5) ∧ (gI M 17 p = 4 → P_isYear (gI M 20 p)) ∧ P_in (gI M 17 p) 0 5
section HC
variable {X : CX} {S : CT} {M : MS}
theorem RR.boss (h : RR X S M) (hL : LVX X) {b : Int32} {t : Int64} (hb : P_isPerson b M) : k_bossAfter b t X S = MB M b t := by
  have hd := h.d3 hL hb
  unfold k_bossAfter MB
  rw [h.rdF (f := 194) (j := 5) (c := 0) rfl hd, h.rdF (f := 193) (j := 4) (c := 0) rfl hd]
theorem person_ne {b : Int32} (hb : P_isPerson b M) : ¬ b = -1 := fun e => by
  rw [e] at hb
  exact absurd hb.1 (by decide)
theorem RR.turn (h : RR X S M) (hL : LVX X) {p : Int32} (hp : P_isRequest p M) : ci S 262 p = if gI M 24 p ≤ gI M 25 p then -1 else gI M 23 (12 * p + gI M 25 p) := by
  obtain ⟨r, hr, h40, rfl, e, h4⟩ := h.rq hL hp
  have hd : dm M 1 r := by
    show r < cnt M 14
    rw [h.c14 hL]
    exact hr
  have h9 := h.2.2.2.2.2.1 r hd
  rw [ci_n, gI_n, gI_n, nI_clamp (by omega)]
  exact h9
theorem RR.turnC (h : RR X S M) (hL : LVX X) {p : Int32} (hp : P_isRequest p M) {n a : Nat} (hn : n ≤ 12) (ha : a ≤ n) (e1 : gI M 24 p = nI n) (e2 : gI M 25 p = nI a) : ci S 262 p = if a < n then gI M 23 (12 * p + nI a) else -1 := by
  rw [h.turn hL hp, e1, e2]
  by_cases c : a < n
  · rw [if_pos c, if_neg (fun z => by have := (nI_leI (a := n) (b := a) (by omega) (by omega)).mp z; omega)]
  · rw [if_neg c, if_pos (nI_le (by omega) (by omega))]
theorem RR.ma (h : RR X S M) (hL : LVX X) {p : Int32} {t : Int64} {n : Nat} (hn : n ≤ 12) (hc : ∀ j, j < n → P_isPerson (gI M 23 (12 * p + nI j)) M ∧ MB M (gI M 23 (12 * p + nI j)) t = if j + 1 < n then gI M 23 (12 * p + nI (j + 1)) else -1) : ∀ (f j acc : Nat), j ≤ n → n - j < f → ma_run t X S f (if j < n then gI M 23 (12 * p + nI j) else -1) (nI acc) = nI (acc + (n - j))
  | 0, j, acc, h1, h2 => by omega
  | f + 1, j, acc, h1, h2 => by
    unfold ma_run
    by_cases c : j < n
    · rw [if_pos c, if_neg (person_ne (hc j c).1), h.boss hL (hc j c).1, (hc j c).2, nI_1, h.ma hL hn hc f (j + 1) (acc + 1) (by omega) (by omega)]
      congr 1
      omega
    · rw [if_neg c, if_pos rfl]
      congr 1
      omega
theorem RR.left (h : RR X S M) (hL : LVX X) {p : Int32} (hp : P_isRequest p M) (hc : CH M p (f_total p M)) : k_missingApprovals p X S = f_left p M := by
  obtain ⟨n, a, hn, ha, e1, e2, hj⟩ := hc
  unfold k_missingApprovals f_left
  rw [h.rdI (f := 263) (j := 26) (c := 1) rfl (h.d14 hL hp), h.total hL hp, h.turnC hL hp hn ha e1 e2, e1, e2]
  have m0 : ma_run (f_total p M) X S 13 (if a < n then gI M 23 (12 * p + nI a) else -1) 0 = nI (0 + (n - a)) := h.ma hL hn hj 13 a 0 ha (by omega)
  have m1 : ma_run (f_total p M) X S 13 (if a < n then gI M 23 (12 * p + nI a) else -1) 1 = nI (1 + (n - a)) := h.ma hL hn hj 13 a 1 ha (by omega)
  rw [m0, m1, pk_sub ha]
  by_cases c : gI M 26 p = -1
  · rw [if_pos c, if_pos c, Nat.zero_add]
    exact (Int32.add_zero _).symm
  · rw [if_neg c, if_neg c, nI_1, Nat.add_comm]
theorem RR.byT (h : RR X S M) (hL : LVX X) {p : Int32} (hp : P_isRequest p M) (hd0 : ¬ mI M 1 < 0) {t : Int64} (hc : CH M p t) : k_approverFor p (ci S 262 p) X S = f_byTurn p M := by
  obtain ⟨n, a, hn, ha, e1, e2, hj⟩ := hc
  rw [h.turnC hL hp hn ha e1 e2]
  unfold f_byTurn
  rw [e1, e2]
  by_cases c : a < n
  · rw [if_pos c, if_neg (fun z => by have := (nI_leI (a := n) (b := a) (by omega) (by omega)).mp z; omega), h.appr hL hp (Or.inr (hj a c).1) hd0, if_neg (person_ne (hj a c).1)]
  · rw [if_neg c, if_pos (nI_le (by omega) (by omega)), h.appr hL hp (Or.inl rfl) hd0, if_pos rfl]
theorem RR.byC (h : RR X S M) (hL : LVX X) {p : Int32} (hp : P_isRequest p M) (hd0 : ¬ mI M 1 < 0) (hc : gI M 26 p = -1 ∨ P_isPerson (gI M 26 p) M) : k_approverFor p (ci S 263 p) X S = f_byController p M := by
  rw [h.rdI (f := 263) (j := 26) (c := 1) rfl (h.d14 hL hp), h.appr hL hp hc hd0]
  rfl
theorem RR.num (h : RR X S M) (hL : LVX X) {b : Int32} (hb : P_isPerson b M) : xi X 192 b = b := by
  have h4 : xFi X 192 b.toNatClampNeg = nI b.toNatClampNeg := h.2.1.2.2.1 _ (h.d3 hL hb)
  obtain ⟨k, hk, rfl⟩ := P_num_nI (n := xSz X 20 0) ((h.n3 hL).mpr hb) (by have := hL.2.2.1; omega)
  show xFi X 192 (nI k).toNatClampNeg = nI k
  rw [h4, nI_clamp (by have := hL.2.2.1; omega)]
theorem appr_ok {b p : Int32} (hU : ∀ b, P_isPerson b M → gI M 6 b = 0 ∨ P_isPerson (gI M 7 b) M) (hb : P_isPerson b M) (hd0 : ¬ mI M 1 < 0) : f_approver b p M = -1 ∨ P_isPerson (f_approver b p M) M := by
  unfold f_approver
  by_cases c : gI M 6 b ≤ mI M 1
  · rw [if_pos c]; exact Or.inr hb
  · rw [if_neg c]
    by_cases c2 : gI M 7 b = gI M 15 p
    · rw [if_pos c2]; exact Or.inl rfl
    · rw [if_neg c2]
      refine (hU b hb).elim (fun z => absurd ?_ c) Or.inr
      rw [z]
      exact Int32.not_lt.mp hd0
theorem byT_ok {p : Int32} (hU : ∀ b, P_isPerson b M → gI M 6 b = 0 ∨ P_isPerson (gI M 7 b) M) (hd0 : ¬ mI M 1 < 0) {t : Int64} (hc : CH M p t) : f_byTurn p M = -1 ∨ P_isPerson (f_byTurn p M) M := by
  obtain ⟨n, a, hn, ha, e1, e2, hj⟩ := hc
  unfold f_byTurn
  rw [e1, e2]
  by_cases c : nI n ≤ nI a
  · rw [if_pos c]; exact Or.inl rfl
  · rw [if_neg c]
    have c2 : a < n := by
      rcases Nat.lt_or_ge a n with z | z
      · exact z
      · exact absurd (nI_le z (by omega)) c
    exact appr_ok hU (hj a c2).1 hd0
theorem byC_ok {p : Int32} (hU : ∀ b, P_isPerson b M → gI M 6 b = 0 ∨ P_isPerson (gI M 7 b) M) (hd0 : ¬ mI M 1 < 0) (hc : gI M 26 p = -1 ∨ P_isPerson (gI M 26 p) M) : f_byController p M = -1 ∨ P_isPerson (f_byController p M) M := by
  unfold f_byController
  by_cases c : gI M 26 p = -1
  · rw [if_pos c]; exact Or.inl rfl
  · rw [if_neg c]
    exact appr_ok hU (hc.resolve_left c) hd0
theorem eq_flip {a b c : Int32} (e : a = b) : c = a ↔ b = c := by rw [e]; exact eq_comm
theorem eq_keep {a b c : Int32} (e : a = b) : a = c ↔ b = c := by rw [e]
theorem lt4 {x : Int32} (h : P_in x 0 5) (h4 : ¬ x = 4) (h5 : ¬ x = 5) : x < 4 := by
  obtain ⟨j, hj, rfl⟩ := in_cases (n := 5) (by decide) h
  have : j < 4 := by
    have g4 : j ≠ 4 := fun e => h4 (by rw [e]; rfl)
    have g5 : j ≠ 5 := fun e => h5 (by rw [e]; rfl)
    omega
  exact nI_lt (b := 4) this (by decide)
theorem si_comm {S : CT} {f g : Nat} {x y : Int32} {v u : Int32} (h : f ≠ g) : si (si S f x v) g y u = si (si S g y u) f x v := by
  refine Prod.ext (funext fun a => funext fun i => ?_) rfl
  rw [s1_si, s1_si, s1_si, s1_si]
  by_cases e1 : a = f ∧ i = x.toNatClampNeg
  · rw [if_pos e1, if_pos e1, if_neg (fun z => h (e1.1.symm.trans z.1))]
  · rw [if_neg e1, if_neg e1]
theorem rel_si {p q u : Int32} {v : Int64} {X : CX} {S : CT} : (k_release p v X (si S 259 q u)).2 = si (k_release p v X S).2 259 q u := by
  unfold k_release
  rw [cj_i]
  by_cases c : 0 < lg_cmp (if cj S 261 p < v then cj S 261 p else v) 0
  · rw [if_pos c, if_pos c]; rfl
  · rw [if_neg c, if_neg c]
theorem rI_self {M : MS} {j : Nat} {x v : Int32} (h : gI M j x = v) : rI M j x v = M := by
  refine Prod.ext rfl (Prod.ext rfl (Prod.ext (funext fun a => funext fun i => ?_) rfl))
  have h9 := gn_rI (M := M) (j := j) (a := a) (i := i) (x := x) (v := v)
  refine h9.trans ?_
  by_cases e : a = j ∧ i = x.toNatClampNeg
  · rw [if_pos e, e.1, e.2]; exact h.symm
  · rw [if_neg e]; rfl
end HC
theorem RR.supN {X : CX} {S : CT} {M : MS} (h : RR X S M) {s : Int32} (hs : P_in s 0 5) : xi X 288 s = s := by
  obtain ⟨j, hj, rfl⟩ := in_cases (n := 5) (by decide) hs
  show xFi X 288 (nI j).toNatClampNeg = nI j
  rw [nI_clamp (by omega)]
  exact h.2.1.2.2.2.1 j (by omega)
theorem eq_requestOf {X : CX} {S : CT} {M : MS} {p1 : Int32} {p2 : Int32} (hX : XOK X) (hL : LVX X) (h : RR X S M) (hQ : ∀ p, P_isRequest p M → QK M p) (hD : ¬ mI M 1 < 0) (hU : ∀ b, P_isPerson b M → gI M 6 b = 0 ∨ P_isPerson (gI M 7 b) M) (hS : ∀ p, P_isRequest p M → gI M 21 p = -1 ∨ P_in (gI M 21 p) 0 5) : EQl X S xcIA (k_requestOf p1 p2 X S) (f_requestOf p1 p2 M) := by
  unfold k_requestOf f_requestOf
  by_cases c1 : P_isRequest p1 M
  · by_cases c2 : p2 = 0
    · have c3 : P_in p2 0 5 := (by rw [c2]; decide)
      have c4 : ¬ (3 ≤ p2) := (by rw [c2]; decide)
      rw [if_pos ((h.n14 hL).mpr c1), if_pos c2, if_pos c1, if_pos c3, if_neg c4, if_pos c2]
      exact ⟨rfl, congrArg Int32.toInt64 (h.rdI (f := 259) (j := 17) (c := 1) rfl (h.d14 hL c1)), h.thr⟩
    · by_cases c5 : p2 = 1
      · have c6 : P_in p2 0 5 := (by rw [c5]; decide)
        have c7 : ¬ (3 ≤ p2) := (by rw [c5]; decide)
        rw [if_pos ((h.n14 hL).mpr c1), if_neg c2, if_pos c5, if_pos c1, if_pos c6, if_neg c7, if_neg c2, if_pos c5]
        exact ⟨rfl, (h.thr (v := 0)).total hL c1, h.thr⟩
      · by_cases c8 : p2 = 2
        · have c9 : P_in p2 0 5 := (by rw [c8]; decide)
          have c10 : ¬ (3 ≤ p2) := (by rw [c8]; decide)
          rw [if_pos ((h.n14 hL).mpr c1), if_neg c2, if_neg c5, if_pos c8, if_pos c1, if_pos c9, if_neg c10, if_neg c2, if_neg c5]
          exact ⟨rfl, h.rdJ (f := 261) (j := 19) (c := 1) rfl (h.d14 hL c1), h.thr⟩
        · by_cases c11 : p2 = 3
          · have c12 : P_in p2 0 5 := (by rw [c11]; decide)
            have c13 : 3 ≤ p2 := (by rw [c11]; decide)
            rw [if_pos ((h.n14 hL).mpr c1), if_neg c2, if_neg c5, if_neg c8, if_pos c11, if_pos c1, if_pos c12, if_pos c13, if_pos c11]
            exact ⟨rfl, congrArg Int32.toInt64 (h.rdI (f := 260) (j := 20) (c := 1) rfl (h.d14 hL c1)), h.thr⟩
          · by_cases c14 : p2 = 4
            · by_cases c15 : (gI M 17 p1) = 1
              · have c16 : P_in p2 0 5 := (by rw [c14]; decide)
                have c17 : 3 ≤ p2 := (by rw [c14]; decide)
                have c18 : ¬ (p2 = 5) := (by rw [c14]; decide)
                rw [if_pos ((h.n14 hL).mpr c1), if_neg c2, if_neg c5, if_neg c8, if_neg c11, if_pos c14, if_pos ((eq_keep (h.rdI (f := 259) (j := 17) (c := 1) (x := p1) rfl (h.d14 hL c1))).mpr c15), if_pos c1, if_pos c16, if_pos c17, if_neg c11, if_neg c18, if_pos c15]
                exact ⟨rfl, congrArg Int32.toInt64 (h.left hL c1 ((hQ p1 c1).2.2.2.2.2.1 c15)), h.thr⟩
              · have c19 : P_in p2 0 5 := (by rw [c14]; decide)
                have c20 : 3 ≤ p2 := (by rw [c14]; decide)
                have c21 : ¬ (p2 = 5) := (by rw [c14]; decide)
                rw [if_pos ((h.n14 hL).mpr c1), if_neg c2, if_neg c5, if_neg c8, if_neg c11, if_pos c14, if_neg (fun z => c15 ((eq_keep (h.rdI (f := 259) (j := 17) (c := 1) (x := p1) rfl (h.d14 hL c1))).mp z)), if_pos c1, if_pos c19, if_pos c20, if_neg c11, if_neg c21, if_neg c15]
                exact ⟨rfl, rfl, h.thr⟩
            · by_cases c22 : p2 = 5
              · by_cases c23 : (gI M 21 p1) = -1
                · have c24 : P_in p2 0 5 := (by rw [c22]; decide)
                  have c25 : 3 ≤ p2 := (by rw [c22]; decide)
                  rw [if_pos ((h.n14 hL).mpr c1), if_neg c2, if_neg c5, if_neg c8, if_neg c11, if_neg c14, if_pos c22, if_pos ((eq_keep (h.rdI (f := 264) (j := 21) (c := 1) (x := p1) rfl (h.d14 hL c1))).mpr c23), if_pos c1, if_pos c24, if_pos c25, if_neg c11, if_pos c22]
                  refine ⟨rfl, ?_, h.thr⟩
                  rw [c23]
                  rfl
                · have c26 : P_in p2 0 5 := (by rw [c22]; decide)
                  have c27 : 3 ≤ p2 := (by rw [c22]; decide)
                  rw [if_pos ((h.n14 hL).mpr c1), if_neg c2, if_neg c5, if_neg c8, if_neg c11, if_neg c14, if_pos c22, if_neg (fun z => c23 ((eq_keep (h.rdI (f := 264) (j := 21) (c := 1) (x := p1) rfl (h.d14 hL c1))).mp z)), if_pos c1, if_pos c26, if_pos c27, if_neg c11, if_pos c22]
                  refine ⟨rfl, congrArg Int32.toInt64 ?_, h.thr⟩
                  rw [h.rdI (f := 264) (j := 21) (c := 1) (x := p1) rfl (h.d14 hL c1)]
                  exact h.supN ((hS p1 c1).resolve_left c23)
              · have c28 : ¬ (P_in p2 0 5) := (fun z => by
    obtain ⟨j, hj, e⟩ := in_cases (n := 5) (by decide) z
    have hh : j = 0 ∨ j = 1 ∨ j = 2 ∨ j = 3 ∨ j = 4 ∨ j = 5 := by omega
    rcases hh with rfl | rfl | rfl | rfl | rfl | rfl
    · exact c2 e
    · exact c5 e
    · exact c8 e
    · exact c11 e
    · exact c14 e
    · exact c22 e)
                rw [if_pos ((h.n14 hL).mpr c1), if_neg c2, if_neg c5, if_neg c8, if_neg c11, if_neg c14, if_neg c22, if_pos c1, if_neg c28]
                exact ⟨mI_sIs.trans xIA_A.symm, h.thr⟩
  · rw [if_neg (fun z => c1 ((h.n14 hL).mp z)), if_neg c1]
    exact ⟨mI_sIs.trans xIA_I.symm, h.thr⟩
theorem eq_next {X : CX} {S : CT} {M : MS} {p1 : Int32} (hX : XOK X) (hL : LVX X) (h : RR X S M) (hQ : ∀ p, P_isRequest p M → QK M p) (hD : ¬ mI M 1 < 0) (hU : ∀ b, P_isPerson b M → gI M 6 b = 0 ∨ P_isPerson (gI M 7 b) M) : EQi X S xcI (k_next p1 X S) (f_next p1 M) := by
  unfold k_next f_next
  by_cases c1 : P_isRequest p1 M
  · by_cases c2 : (gI M 17 p1) = 1
    · by_cases c3 : (f_byTurn p1 (sI M 0 0)) = (-1)
      · by_cases c4 : (f_byController p1 M) = (-1)
        · rw [if_pos ((h.n14 hL).mpr c1), if_pos ((eq_keep (h.rdI (f := 259) (j := 17) (c := 1) (x := p1) rfl (h.d14 hL c1))).mpr c2), if_pos ((eq_keep (h.byT hL c1 hD (hQ p1 c1).2.2.2.2.1.choose_spec)).mpr c3), if_pos ((eq_keep (h.byC hL c1 hD (hQ p1 c1).2.2.2.1)).mpr c4), if_pos c1, if_pos c2, if_pos c2, if_pos c3]
          exact ⟨rfl, c4.symm, h.thr⟩
        · rw [if_pos ((h.n14 hL).mpr c1), if_pos ((eq_keep (h.rdI (f := 259) (j := 17) (c := 1) (x := p1) rfl (h.d14 hL c1))).mpr c2), if_pos ((eq_keep (h.byT hL c1 hD (hQ p1 c1).2.2.2.2.1.choose_spec)).mpr c3), if_neg (fun z => c4 ((eq_keep (h.byC hL c1 hD (hQ p1 c1).2.2.2.1)).mp z)), if_pos c1, if_pos c2, if_pos c2, if_pos c3]
          refine ⟨rfl, ?_, h.thr⟩
          rw [h.byC hL c1 hD (hQ p1 c1).2.2.2.1]
          exact h.num hL ((byC_ok hU hD (hQ p1 c1).2.2.2.1).resolve_left c4)
      · rw [if_pos ((h.n14 hL).mpr c1), if_pos ((eq_keep (h.rdI (f := 259) (j := 17) (c := 1) (x := p1) rfl (h.d14 hL c1))).mpr c2), if_neg (fun z => c3 ((eq_keep (h.byT hL c1 hD (hQ p1 c1).2.2.2.2.1.choose_spec)).mp z)), if_pos c1, if_pos c2, if_pos c2, if_neg c3]
        refine ⟨rfl, ?_, h.thr⟩
        rw [h.byT hL c1 hD (hQ p1 c1).2.2.2.2.1.choose_spec]
        exact h.num hL ((byT_ok hU hD (hQ p1 c1).2.2.2.2.1.choose_spec).resolve_left c3)
    · rw [if_pos ((h.n14 hL).mpr c1), if_neg (fun z => c2 ((eq_keep (h.rdI (f := 259) (j := 17) (c := 1) (x := p1) rfl (h.d14 hL c1))).mp z)), if_pos c1, if_neg c2, if_neg c2]
      exact ⟨rfl, rfl, h.thr⟩
  · rw [if_neg (fun z => c1 ((h.n14 hL).mp z)), if_neg c1]
    exact ⟨mI_sIs.trans xI_I.symm, h.thr⟩
theorem eq_refuse {X : CX} {S : CT} {M : MS} {p1 : Int32} {p2 : Int32} (hX : XOK X) (hL : LVX X) (h : RR X S M) (hQ : ∀ p, P_isRequest p M → QK M p) (hD : ¬ mI M 1 < 0) (hU : ∀ b, P_isPerson b M → gI M 6 b = 0 ∨ P_isPerson (gI M 7 b) M) : EQv X S xcIS (k_refuse p1 p2 X S) (f_refuse p1 p2 M) := by
  unfold k_refuse f_refuse
  by_cases c1 : P_isRequest p1 M
  · by_cases c2 : P_isPerson p2 M
    · by_cases c3 : (gI M 17 p1) = 1
      · by_cases c4 : (f_byTurn p1 M) = p2
        · have c5 : P_can p1 p2 M := ⟨c3, Or.inl c4⟩
          rw [if_pos ((h.n14 hL).mpr c1), if_pos ((h.n3 hL).mpr c2), if_pos ((eq_keep (h.rdI (f := 259) (j := 17) (c := 1) (x := p1) rfl (h.d14 hL c1))).mpr c3), if_pos ((eq_flip (h.byT hL c1 hD (hQ p1 c1).2.2.2.2.1.choose_spec)).mpr c4), if_pos c1, if_pos c2, if_pos c5]
          rw [h.rdJ (f := 261) (j := 19) (c := 1) (x := p1) rfl (h.d14 hL c1), ← rel_si]
          have r1 := (h.thr (v := 0)).pI (f := 259) (j := 17) (x := p1) (v := 3) rfl
          have hq := hQ p1 c1
          have r2 := r1.frees hL (p := p1) (v := gJ M 19 p1) c1 hq.1 hq.2.2.1.2
          refine ⟨?_, r2.1⟩
          rw [mI_frees]
          rfl
        · by_cases c6 : (f_byController p1 M) = p2
          · have c7 : P_can p1 p2 M := ⟨c3, Or.inr c6⟩
            rw [if_pos ((h.n14 hL).mpr c1), if_pos ((h.n3 hL).mpr c2), if_pos ((eq_keep (h.rdI (f := 259) (j := 17) (c := 1) (x := p1) rfl (h.d14 hL c1))).mpr c3), if_neg (fun z => c4 ((eq_flip (h.byT hL c1 hD (hQ p1 c1).2.2.2.2.1.choose_spec)).mp z)), if_pos ((eq_flip (h.byC hL c1 hD (hQ p1 c1).2.2.2.1)).mpr c6), if_pos c1, if_pos c2, if_pos c7]
            rw [h.rdJ (f := 261) (j := 19) (c := 1) (x := p1) rfl (h.d14 hL c1), ← rel_si]
            have r1 := (h.thr (v := 0)).pI (f := 259) (j := 17) (x := p1) (v := 3) rfl
            have hq := hQ p1 c1
            have r2 := r1.frees hL (p := p1) (v := gJ M 19 p1) c1 hq.1 hq.2.2.1.2
            refine ⟨?_, r2.1⟩
            rw [mI_frees]
            rfl
          · have c8 : ¬ (P_can p1 p2 M) := (fun z => z.2.elim c4 c6)
            rw [if_pos ((h.n14 hL).mpr c1), if_pos ((h.n3 hL).mpr c2), if_pos ((eq_keep (h.rdI (f := 259) (j := 17) (c := 1) (x := p1) rfl (h.d14 hL c1))).mpr c3), if_neg (fun z => c4 ((eq_flip (h.byT hL c1 hD (hQ p1 c1).2.2.2.2.1.choose_spec)).mp z)), if_neg (fun z => c6 ((eq_flip (h.byC hL c1 hD (hQ p1 c1).2.2.2.1)).mp z)), if_pos c1, if_pos c2, if_neg c8]
            exact ⟨mI_sIs.trans xIS_S.symm, h.thr⟩
      · have c9 : ¬ (P_can p1 p2 M) := (fun z => c3 z.1)
        rw [if_pos ((h.n14 hL).mpr c1), if_pos ((h.n3 hL).mpr c2), if_neg (fun z => c3 ((eq_keep (h.rdI (f := 259) (j := 17) (c := 1) (x := p1) rfl (h.d14 hL c1))).mp z)), if_pos c1, if_pos c2, if_neg c9]
        exact ⟨mI_sIs.trans xIS_S.symm, h.thr⟩
    · rw [if_pos ((h.n14 hL).mpr c1), if_neg (fun z => c2 ((h.n3 hL).mp z)), if_pos c1, if_neg c2]
      exact ⟨mI_sIs.trans xIS_I.symm, h.thr⟩
  · rw [if_neg (fun z => c1 ((h.n14 hL).mp z)), if_neg c1]
    exact ⟨mI_sIs.trans xIS_I.symm, h.thr⟩
theorem eq_edit {X : CX} {S : CT} {M : MS} {p1 : Int32} {p2 : Int32} {p3 : Int32} (hX : XOK X) (hL : LVX X) (h : RR X S M) (hQ : ∀ p, P_isRequest p M → QK M p) (hD : ¬ mI M 1 < 0) (hU : ∀ b, P_isPerson b M → gI M 6 b = 0 ∨ P_isPerson (gI M 7 b) M) : EQi X S xcIAS (k_edit p1 p2 p3 X S) (f_edit p1 p2 p3 M) := by
  unfold k_edit f_edit
  by_cases c1 : P_isRequest p1 M
  · by_cases c2 : P_in p2 0 (gI M 18 p1 - 1)
    · by_cases c3 : P_in p3 1 99
      · by_cases c4 : (gI M 17 p1) = 4
        · have c5 : ¬ ((gI M 17 p1) < 4) := (by rw [c4]; decide)
          rw [if_pos ((h.n14 hL).mpr c1), if_pos ((h.lnN hL c1).mpr c2), if_pos c3, if_pos ((eq_keep (h.rdI (f := 259) (j := 17) (c := 1) (x := p1) rfl (h.d14 hL c1))).mpr c4), if_pos (Iff.rfl.mpr ⟨c1, c2⟩), if_pos c3, if_neg c5]
          exact ⟨mI_sIs.trans xIAS_S.symm, h.thr⟩
        · by_cases c6 : (gI M 17 p1) = 5
          · have c7 : ¬ ((gI M 17 p1) < 4) := (by rw [c6]; decide)
            rw [if_pos ((h.n14 hL).mpr c1), if_pos ((h.lnN hL c1).mpr c2), if_pos c3, if_neg (fun z => c4 ((eq_keep (h.rdI (f := 259) (j := 17) (c := 1) (x := p1) rfl (h.d14 hL c1))).mp z)), if_pos ((eq_keep (h.rdI (f := 259) (j := 17) (c := 1) (x := p1) rfl (h.d14 hL c1))).mpr c6), if_pos (Iff.rfl.mpr ⟨c1, c2⟩), if_pos c3, if_neg c7]
            exact ⟨mI_sIs.trans xIAS_S.symm, h.thr⟩
          · have c8 : (gI M 17 p1) < 4 := (lt4 (hQ p1 c1).2.2.2.2.2.2.2.2 c4 c6)
            rw [if_pos ((h.n14 hL).mpr c1), if_pos ((h.lnN hL c1).mpr c2), if_pos c3, if_neg (fun z => c4 ((eq_keep (h.rdI (f := 259) (j := 17) (c := 1) (x := p1) rfl (h.d14 hL c1))).mp z)), if_neg (fun z => c6 ((eq_keep (h.rdI (f := 259) (j := 17) (c := 1) (x := p1) rfl (h.d14 hL c1))).mp z)), if_pos (Iff.rfl.mpr ⟨c1, c2⟩), if_pos c3, if_pos c8]
            rw [h.rdJ (f := 261) (j := 19) (c := 1) (x := p1) rfl (h.d14 hL c1), h.rdI (f := 130) (j := 28) (c := 9) (x := 4 * p1 + p2) rfl (h.dln hL c1 c2), si_comm (by decide)]
            have hq := hQ p1 c1
            have r2 := (h.thr (v := 0)).frees hL (p := p1) (v := gJ M 19 p1) c1 hq.1 hq.2.2.1.2
            refine ⟨?_, rfl, (r2.1.pI rfl).pI rfl⟩
            show mI (f_frees p1 (gJ M 19 p1) (sI M 0 0)).2 0 = 0
            rw [mI_frees]
            rfl
      · rw [if_pos ((h.n14 hL).mpr c1), if_pos ((h.lnN hL c1).mpr c2), if_neg c3, if_pos (Iff.rfl.mpr ⟨c1, c2⟩), if_neg c3]
        exact ⟨mI_sIs.trans xIAS_A.symm, h.thr⟩
    · rw [if_pos ((h.n14 hL).mpr c1), if_neg (fun z => c2 ((h.lnN hL c1).mp z)), if_neg (fun z => c2 (Iff.rfl.mp z).2)]
      exact ⟨mI_sIs.trans xIAS_I.symm, h.thr⟩
  · rw [if_neg (fun z => c1 ((h.n14 hL).mp z)), if_neg (fun z => c1 (Iff.rfl.mp z).1)]
    exact ⟨mI_sIs.trans xIAS_I.symm, h.thr⟩
