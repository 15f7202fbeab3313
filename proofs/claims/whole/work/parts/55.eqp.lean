def cs1 (M : MS) (a b : Int32) (c : Int64) : MS := rJ (rJ M 11 a (gJ M 11 a - c)) 11 b 0
def cs2 (M : MS) (a : Int32) (c : Int64) : MS := rJ M 11 a (gJ M 11 a + c)
def cy4 (o x : Int32) (M : MS) : MS := cs2 (cs2 (cs1 M (f_at x o 0) (f_at x o 1) (gJ M 11 (f_at x o 1))) (f_at x (o + 1) 0) (gJ M 11 (f_at x o 1))) (f_at x (o + 1) 1) (gJ M 11 (f_at x o 1))
def cy6 (o x : Int32) (M : MS) (R : Int64) : MS := rJ (rJ M 11 (f_at x o 0) (gJ M 11 (f_at x o 0) - R)) 11 (f_at x (o + 1) 0) (gJ (rJ M 11 (f_at x o 0) (gJ M 11 (f_at x o 0) - R)) 11 (f_at x (o + 1) 0) + R)
theorem cy_ref {o x : Int32} {M : MS} : cl3 o x M = if lg_cmp (f_free x o (cy4 o x M)) 0 ≤ 0 then cy6 o x (cy4 o x M) 0 else cy6 o x (cy4 o x M) (f_free x o (cy4 o x M) * (mI M 13).toInt64 / 100) := rfl
def ky4 (p1 p2 : Int32) (S : CT) : CT := (sj (sj (sj (sj S 225 p1 0) 224 p1 ((cj S 224 p1) - (cj S 225 p1))) 225 p2 ((cj (sj S 225 p1 0) 225 p2) + (cj S 225 p1))) 224 p2 ((cj (sj (sj S 225 p1 0) 224 p1 ((cj S 224 p1) - (cj S 225 p1))) 224 p2) + (cj S 225 p1)))
def ky6 (p1 p2 : Int32) (S : CT) (R : Int64) : CT := sj (sj S 224 p1 (cj S 224 p1 - R)) 224 p2 (cj (sj S 224 p1 (cj S 224 p1 - R)) 224 p2 + R)
theorem cy_cls {p1 p2 : Int32} {X : CX} {S : CT} : k_carryOver p1 p2 X S = if lg_cmp (k_free p1 X (ky4 p1 p2 S)) 0 ≤ 0 then ky4 p1 p2 S else ky6 p1 p2 (ky4 p1 p2 S) (k_free p1 X (ky4 p1 p2 S) * (ci S 364 0).toInt64 / 100) := rfl
theorem ix_ne {a b : Nat} (ha : a < 2 ^ 30) (hb : b < 2 ^ 30) (h : a ≠ b) : ((nI a).toNatClampNeg == (nI b).toNatClampNeg) = false := by
  rw [nI_clamp (by omega), nI_clamp (by omega)]
  exact beq_eq_false_iff_ne.mpr h
section HC
variable {X : CX} {S : CT} {M : MS}
theorem RR.cyA (h : RR X S M) {q u : Nat} (hq : q < 6) (hu : u < 2) : RR X (ky4 (nI (3 * q + u)) (nI (3 * q + (u + 1))) S) (cy4 (nI u) (nI q) M) := by
  unfold ky4 cy4 cs2 cs1
  rw [show (nI u : Int32) + 1 = nI (u + 1) from nI_1 u]
  rw [show f_at (nI q) (nI u) 0 = nI (9 * q + 3 * u + 0) from at_ix (z := 0), show f_at (nI q) (nI u) 1 = nI (9 * q + 3 * u + 1) from at_ix (z := 1), show f_at (nI q) (nI (u + 1)) 0 = nI (9 * q + 3 * (u + 1) + 0) from at_ix (z := 0), show f_at (nI q) (nI (u + 1)) 1 = nI (9 * q + 3 * (u + 1) + 1) from at_ix (z := 1)]
  rw [gJ_rJc (ix_ne (by omega) (by omega) (by omega)), gJ_rJc (ix_ne (by omega) (by omega) (by omega)), gJ_rJc (ix_ne (by omega) (by omega) (by omega)), gJ_rJc (ix_ne (by omega) (by omega) (by omega)), gJ_rJc (ix_ne (by omega) (by omega) (by omega))]
  rw [cj_sc (ix_ne (by omega) (by omega) (by omega)), cj_sc (ix_ne (by omega) (by omega) (by omega)), cj_sn rfl]
  rw [← h.pur (z := 0) (u := u) hq (by omega) (by decide), ← h.pur (z := 1) (u := u) hq (by omega) (by decide), ← h.pur (z := 0) (u := u + 1) hq (by omega) (by decide), ← h.pur (z := 1) (u := u + 1) hq (by omega) (by decide)]
  have r1 := h.wpur (z := 0) (u := u) (v := cj S 224 (nI (3 * q + u)) - cj S 225 (nI (3 * q + u))) hq (by omega) (by decide)
  have r2 := r1.wpur (z := 1) (u := u) (v := 0) hq (by omega) (by decide)
  have r3 := r2.wpur (z := 0) (u := u + 1) (v := cj S 224 (nI (3 * q + (u + 1))) + cj S 225 (nI (3 * q + u))) hq (by omega) (by decide)
  have r4 := r3.wpur (z := 1) (u := u + 1) (v := cj S 225 (nI (3 * q + (u + 1))) + cj S 225 (nI (3 * q + u))) hq (by omega) (by decide)
  rw [sj_comm (f := 224 + 0) (g := 224 + 1) (x := nI (3 * q + u)) (y := nI (3 * q + u)) (by decide), sj_comm (f := 224 + 0) (g := 224 + 1) (x := nI (3 * q + (u + 1))) (y := nI (3 * q + (u + 1))) (by decide)] at r4
  exact r4
theorem RR.cyB (h : RR X S M) {q u : Nat} {R : Int64} (hq : q < 6) (hu : u < 2) : RR X (ky6 (nI (3 * q + u)) (nI (3 * q + (u + 1))) S R) (cy6 (nI u) (nI q) M R) := by
  unfold ky6 cy6
  rw [show (nI u : Int32) + 1 = nI (u + 1) from nI_1 u]
  rw [show f_at (nI q) (nI u) 0 = nI (9 * q + 3 * u + 0) from at_ix (z := 0), show f_at (nI q) (nI (u + 1)) 0 = nI (9 * q + 3 * (u + 1) + 0) from at_ix (z := 0)]
  rw [gJ_rJc (ix_ne (by omega) (by omega) (by omega)), cj_sc (ix_ne (by omega) (by omega) (by omega))]
  rw [← h.pur (z := 0) (u := u) hq (by omega) (by decide), ← h.pur (z := 0) (u := u + 1) hq (by omega) (by decide)]
  have r1 := h.wpur (z := 0) (u := u) (v := cj S 224 (nI (3 * q + u)) - R) hq (by omega) (by decide)
  exact r1.wpur (z := 0) (u := u + 1) (v := cj S 224 (nI (3 * q + (u + 1))) + R) hq (by omega) (by decide)
theorem cy_same {o x : Int32} : cy6 o x M 0 = M := by
  unfold cy6
  rw [Int64.sub_zero, rJ_same, Int64.add_zero, rJ_same]
theorem RR.carry (h : RR X S M) {q u : Nat} (hq : q < 6) (hu : u < 2) : RR X (k_carryOver (nI (3 * q + u)) (nI (3 * q + (u + 1))) X S) (cl3 (nI u) (nI q) M) := by
  have r := h.cyA hq hu
  have c364 : ci S 364 0 = mI M 13 := h.i0 rfl
  have ef : k_free (nI (3 * q + u)) X (ky4 (nI (3 * q + u)) (nI (3 * q + (u + 1))) S) = f_free (nI q) (nI u) (cy4 (nI u) (nI q) M) := by
    rw [← pur_ix]
    refine Eq.trans ?_ (r.free (c := nI q) (y := nI u) (vin9 q hq) ⟨nI_pos' (by omega), show nI u ≤ nI 2 from nI_le (by omega) (by decide)⟩)
    rw [pur_ix]
  rw [cy_ref, cy_cls, ef, c364]
  by_cases c : lg_cmp (f_free (nI q) (nI u) (cy4 (nI u) (nI q) M)) 0 ≤ 0
  · rw [if_pos c, if_pos c, cy_same]
    exact r
  · rw [if_neg c, if_neg c]
    exact r.cyB hq hu
end HC
theorem rJ_rI {M : MS} {j a : Nat} {x i v : Int32} {u : Int64} : rJ (rI M j x v) a i u = rI (rJ M a i u) j x v := rfl
theorem rJ_sI {M : MS} {j a : Nat} {i v : Int32} {u : Int64} : rJ (sI M j v) a i u = sI (rJ M a i u) j v := rfl
theorem c4_20 {o y x v : Int32} {M : MS} : cy4 o y (rI M 20 x v) = rI (cy4 o y M) 20 x v := by unfold cy4; rw [gJ_rI, show ∀ a b c, cs1 (rI M 20 x v) a b c = rI (cs1 M a b c) 20 x v from fun a b c => rfl, show ∀ N a c, cs2 (rI N 20 x v) a c = rI (cs2 N a c) 20 x v from fun N a c => rfl, show ∀ N a c, cs2 (rI N 20 x v) a c = rI (cs2 N a c) 20 x v from fun N a c => rfl]
theorem c6_20 {o y x v : Int32} {M : MS} {R : Int64} : cy6 o y (rI M 20 x v) R = rI (cy6 o y M R) 20 x v := by unfold cy6; simp only [gJ_rI, rJ_rI]
theorem c4_1 {o y v : Int32} {M : MS} : cy4 o y (sI M 1 v) = sI (cy4 o y M) 1 v := by unfold cy4; rw [gJ_sI, show ∀ a b c, cs1 (sI M 1 v) a b c = sI (cs1 M a b c) 1 v from fun a b c => rfl, show ∀ N a c, cs2 (sI N 1 v) a c = sI (cs2 N a c) 1 v from fun N a c => rfl, show ∀ N a c, cs2 (sI N 1 v) a c = sI (cs2 N a c) 1 v from fun N a c => rfl]
theorem c6_1 {o y v : Int32} {M : MS} {R : Int64} : cy6 o y (sI M 1 v) R = sI (cy6 o y M R) 1 v := by unfold cy6; simp only [gJ_sI, rJ_sI]
theorem ff_20 {o y x v : Int32} {M : MS} : f_free y o (rI M 20 x v) = f_free y o M := rfl
theorem ff_1 {o y v : Int32} {M : MS} : f_free y o (sI M 1 v) = f_free y o M := rfl
theorem cl3_20 {o y x v : Int32} {M : MS} : cl3 o y (rI M 20 x v) = rI (cl3 o y M) 20 x v := by
  rw [cy_ref, cy_ref, c4_20, c6_20, c6_20, ff_20, show mI (rI M 20 x v) = mI M from rfl]
  split <;> rfl
theorem cl3_m {o y : Int32} {M : MS} {v : Int32} : cl3 o y (sI M 1 v) = sI (cl3 o y M) 1 v := by
  rw [cy_ref, cy_ref, c4_1, c6_1, c6_1, ff_1, show mI (sI M 1 v) 13 = mI M 13 from rfl]
  split <;> rfl
theorem cl3_fr {o y : Int32} {M : MS} : Fr [] [11] M (cl3 o y M) := by
  have k4 : Fr [] [11] M (cy4 o y M) := by unfold cy4 cs2 cs1; exact (((Fr.rfl'.rJ (by decide)).rJ (by decide)).rJ (by decide)).rJ (by decide)
  have k6 : ∀ R, Fr [] [11] M (cy6 o y (cy4 o y M) R) := fun R => (k4.rJ (by decide)).rJ (by decide)
  rw [cy_ref]
  split
  · exact k6 _
  · exact k6 _
theorem cl2_cl3 {o x y : Int32} {M : MS} : cl2 o x (cl3 o y M) = cl3 o y (cl2 o x M) := by
  unfold cl2
  rw [cl3_fr.i (j := 17) (by decide), cl3_fr.i (j := 20) (by decide)]
  repeat' split
  all_goals exact cl3_20.symm
theorem it23_1 {o y : Int32} {M : MS} : ∀ n, it_cl2 o (cl3 o y M) n = cl3 o y (it_cl2 o M n)
  | 0 => rfl
  | n + 1 => by
    show cl2 o (nI n) (it_cl2 o (cl3 o y M) n) = cl3 o y (cl2 o (nI n) (it_cl2 o M n))
    rw [it23_1 n]
    exact cl2_cl3
theorem it23 {o : Int32} {M : MS} {n : Nat} : ∀ k, it_cl2 o (it_cl3 o M k) n = it_cl3 o (it_cl2 o M n) k
  | 0 => rfl
  | k + 1 => by
    show it_cl2 o (cl3 o (nI k) (it_cl3 o M k)) n = cl3 o (nI k) (it_cl3 o (it_cl2 o M n) k)
    rw [it23_1, it23 k]
theorem rJ_over {M : MS} {j : Nat} {x : Int32} {v u : Int64} : rJ (rJ M j x v) j x u = rJ M j x u := by
  refine Prod.ext rfl (Prod.ext rfl (Prod.ext rfl (funext fun a => funext fun i => ?_)))
  show gl (rJ (rJ M j x v) j x u) a i = gl (rJ M j x u) a i
  rw [gl_rJ, gl_rJ, gl_rJ]
  by_cases e : a = j ∧ i = x.toNatClampNeg
  · rw [if_pos e, if_pos e]
  · rw [if_neg e, if_neg e, if_neg e]
theorem rJ_comm {M : MS} {j : Nat} {x y : Int32} {v u : Int64} (h : (x.toNatClampNeg == y.toNatClampNeg) = false) : rJ (rJ M j x v) j y u = rJ (rJ M j y u) j x v := by
  have hn : x.toNatClampNeg ≠ y.toNatClampNeg := fun e => by rw [e, beq_self_eq_true] at h; cases h
  have e : (rJ (rJ M j x v) j y u).2.2.2 = (rJ (rJ M j y u) j x v).2.2.2 := funext fun a => funext fun i => by
    have h1 := gl_rJ (M := rJ M j x v) (j := j) (a := a) (i := i) (x := y) (v := u)
    have h2 := gl_rJ (M := rJ M j y u) (j := j) (a := a) (i := i) (x := x) (v := v)
    have h3 := gl_rJ (M := M) (j := j) (a := a) (i := i) (x := x) (v := v)
    have h4 := gl_rJ (M := M) (j := j) (a := a) (i := i) (x := y) (v := u)
    refine h1.trans (Eq.trans ?_ h2.symm)
    rw [h3, h4]
    by_cases e1 : a = j ∧ i = x.toNatClampNeg
    · rw [if_pos e1, if_pos e1, if_neg (fun z => hn (e1.2.symm.trans z.2))]
    · rw [if_neg e1, if_neg e1]
  exact congrArg (fun z => ((M.1, M.2.1, M.2.2.1, z) : MS)) e
/-- spent moves on by t from purse b to purse a -/
def mvW (M : MS) (a b : Int32) (t : Int64) : MS := rJ (rJ M 11 a (gJ M 11 a + t)) 11 b (gJ (rJ M 11 a (gJ M 11 a + t)) 11 b - t)
theorem mvW_0 {M : MS} {a b : Int32} : mvW M a b 0 = M := by
  unfold mvW
  rw [Int64.add_zero, rJ_same, Int64.sub_zero, rJ_same]
theorem mvW_mvW {M : MS} {a b : Int32} {t s : Int64} (h : (a.toNatClampNeg == b.toNatClampNeg) = false) : mvW (mvW M a b t) a b s = mvW M a b (t + s) := by
  have h' : (b.toNatClampNeg == a.toNatClampNeg) = false := by rw [BEq.comm]; exact h
  unfold mvW
  rw [gJ_rJc h', gJ_rJc h, gJ_rJs, gJ_rJc h', gJ_rJs, rJ_comm (x := b) (y := a) h', rJ_over, rJ_over, gJ_rJc h', Int64.add_assoc, Int64.sub_sub]
theorem mvW_fr {M : MS} {a b : Int32} {t : Int64} : Fr [] [11] M (mvW M a b t) := (Fr.rfl'.rJ (by decide)).rJ (by decide)
theorem cl1_mv {o x : Int32} {M : MS} : cl1 o x M = if gI M 18 (x / 4) ≤ x - x / 4 * 4 then M else if gI M 17 (x / 4) = 4 then if gI M 27 x = 0 then mvW M (f_at (gI M 16 (x / 4)) o 2) (f_at (gI M 16 (x / 4)) (o + 1) 2) ((gI M 30 x - f_bookedPieces x M).toInt64 * (gI M 29 x).toInt64) else M else M := rfl
theorem cl1_fr {o x : Int32} {M : MS} : Fr [] [11] M (cl1 o x M) := by
  rw [cl1_mv]
  repeat' split
  all_goals first | exact Fr.rfl' | exact mvW_fr
theorem cl1_m {o x v : Int32} {M : MS} : cl1 o x (sI M 1 v) = sI (cl1 o x M) 1 v := by
  have hb := (fb_cg (M := M) (M' := sI M 1 v) (q := x) rfl (fun _ => rfl) (fun _ => rfl) (fun _ => rfl)).1
  rw [cl1_mv, cl1_mv, hb, show ∀ a b t, mvW (sI M 1 v) a b t = sI (mvW M a b t) 1 v from fun a b t => rfl, show ∀ j x, gI (sI M 1 v) j x = gI M j x from fun _ _ => rfl, show ∀ j x, gI (sI M 1 v) j x = gI M j x from fun _ _ => rfl]
  simp only [show ∀ j x, gI (sI M 1 v) j x = gI M j x from fun _ _ => rfl]
  repeat' split
  all_goals rfl
theorem cl2_m {o x v : Int32} {M : MS} : cl2 o x (sI M 1 v) = sI (cl2 o x M) 1 v := by
  unfold cl2
  simp only [show ∀ j x, gI (sI M 1 v) j x = gI M j x from fun _ _ => rfl]
  repeat' split
  all_goals rfl
def closeAt (o : Int32) (M : MS) : MS := it_cl3 o (it_cl2 o (it_cl1 o M (4 * mI M 14).toNatClampNeg) (mI M 14).toNatClampNeg) 6
theorem closeAt_m {o v : Int32} {M : MS} : closeAt o (sI M 1 v) = sI (closeAt o M) 1 v := by
  have k1 : ∀ n, it_cl1 o (sI M 1 v) n = sI (it_cl1 o M n) 1 v := fun n => by
    induction n with
    | zero => rfl
    | succ n ih =>
      show cl1 o (nI n) (it_cl1 o (sI M 1 v) n) = sI (cl1 o (nI n) (it_cl1 o M n)) 1 v
      rw [ih, cl1_m]
  have k2 : ∀ (N : MS) n, it_cl2 o (sI N 1 v) n = sI (it_cl2 o N n) 1 v := fun N n => by
    induction n with
    | zero => rfl
    | succ n ih =>
      show cl2 o (nI n) (it_cl2 o (sI N 1 v) n) = sI (cl2 o (nI n) (it_cl2 o N n)) 1 v
      rw [ih, cl2_m]
  have k3 : ∀ (N : MS) n, it_cl3 o (sI N 1 v) n = sI (it_cl3 o N n) 1 v := fun N n => by
    induction n with
    | zero => rfl
    | succ n ih =>
      show cl3 o (nI n) (it_cl3 o (sI N 1 v) n) = sI (cl3 o (nI n) (it_cl3 o N n)) 1 v
      rw [ih, cl3_m]
  unfold closeAt
  rw [k1, k2, k3]
  rfl
section HC2
variable {X : CX} {S : CT} {M : MS}
theorem RR.accr (h : RR X S M) {r q u : Nat} {v : Int64} (hq : q < 6) (hu : u < 2) : RR X (sj (sj S 226 (nI (3 * q + u)) (cj S 226 (nI (3 * q + u)) + v)) 226 (nI (3 * q + (u + 1))) (cj (sj S 226 (nI (3 * q + u)) (cj S 226 (nI (3 * q + u)) + v)) 226 (nI (3 * q + (u + 1))) - v)) (mvW M (f_at (nI q) (nI u) 2) (f_at (nI q) (nI (u + 1)) 2) v) := by
  unfold mvW
  rw [show f_at (nI q) (nI u) 2 = nI (9 * q + 3 * u + 2) from at_ix (z := 2), show f_at (nI q) (nI (u + 1)) 2 = nI (9 * q + 3 * (u + 1) + 2) from at_ix (z := 2)]
  rw [gJ_rJc (ix_ne (by omega) (by omega) (by omega)), cj_sc (ix_ne (by omega) (by omega) (by omega))]
  rw [← h.pur (z := 2) (u := u) hq (by omega) (by decide), ← h.pur (z := 2) (u := u + 1) hq (by omega) (by decide)]
  exact (h.wpur (z := 2) (u := u) (v := cj S 226 (nI (3 * q + u)) + v) hq (by omega) (by decide)).wpur (z := 2) (u := u + 1) (v := cj S 226 (nI (3 * q + (u + 1))) - v) hq (by omega) (by decide)
theorem cl1_line {u : Nat} {r j l : Nat} {N : MS} (hr : r < 40) (hj : j < 4) (e18 : gI N 18 (nI r) = nI l) (hl : l ≤ 4) : cl1 (nI u) (nI (4 * r + j)) N = if j < l ∧ gI N 17 (nI r) = 4 ∧ gI N 27 (nI (4 * r + j)) = 0 then mvW N (f_at (gI N 16 (nI r)) (nI u) 2) (f_at (gI N 16 (nI r)) (nI u + 1) 2) ((gI N 30 (nI (4 * r + j)) - f_bookedPieces (nI (4 * r + j)) N).toInt64 * (gI N 29 (nI (4 * r + j))).toInt64) else N := by
  have e4 : nI (4 * r + j) / 4 = nI r := by rw [q4_nI (by omega), show (4 * r + j) / 4 = r by omega]
  have e5 : nI (4 * r + j) - nI r * 4 = nI j := by
    rw [show nI r * 4 = nI (4 * r) by rw [Int32.mul_comm, show (4 : Int32) = nI 4 from rfl, pk_mul], ← nI_add, Int32.add_comm, Int32.add_sub_cancel]
  rw [cl1_mv, e4, e5, e18]
  by_cases c1 : j < l
  · rw [if_neg (Int32.not_le.mpr (nI_lt c1 (by omega)))]
    by_cases c2 : gI N 17 (nI r) = 4
    · rw [if_pos c2]
      by_cases c3 : gI N 27 (nI (4 * r + j)) = 0
      · rw [if_pos c3, if_pos ⟨c1, c2, c3⟩]
      · rw [if_neg c3, if_neg (fun z => c3 z.2.2)]
    · rw [if_neg c2, if_neg (fun z => c2 z.2.1)]
  · rw [if_pos (nI_le (by omega) (by omega)), if_neg (fun z => c1 z.1)]
end HC2
section HC3
variable {X : CX} {S : CT} {M : MS}
theorem ru_eq (h : RR X S M) (hL : LVX X) {r : Nat} (hr : r < cnt M 14) : ∀ j, j ≤ xSz X 29 r → kit_receivedUnbooked (nI r) X S (j + 1) = if j < xSz X 29 r then (if gI M 27 (nI (4 * r + j)) = 0 then kit_receivedUnbooked (nI r) X S j + (gI M 30 (nI (4 * r + j)) - f_bookedPieces (nI (4 * r + j)) M).toInt64 * (gI M 29 (nI (4 * r + j))).toInt64 else kit_receivedUnbooked (nI r) X S j) else kit_receivedUnbooked (nI r) X S (j + 1) := fun j hj => by
  by_cases c : j < xSz X 29 r
  · rw [if_pos c]
    have h14 := h.bo14 hL
    have h4 : xSz X 29 r ≤ 4 := hL.2.2.2.2 r (by rw [← h.c14 hL]; exact hr)
    have e18 : gn M 18 r = nI (xSz X 29 r) := h.2.2.2.1.2 r (by rw [← h.c14 hL]; exact hr)
    have hd : dm M 9 (nI (4 * r + j)).toNatClampNeg := by
      rw [nI_clamp (by omega)]
      show (4 * r + j) / 4 < cnt M 14 ∧ (4 * r + j) % 4 < (gn M 18 ((4 * r + j) / 4)).toNatClampNeg
      rw [show (4 * r + j) / 4 = r by omega, show (4 * r + j) % 4 = j by omega, e18, nI_clamp (by omega)]
      exact ⟨hr, c⟩
    have hb := h.bk (q := nI (4 * r + j)) hd (by rw [nI_clamp (by omega)])
    show kst_receivedUnbooked (nI r) X S (nI j) (kit_receivedUnbooked (nI r) X S j) = _
    unfold kst_receivedUnbooked
    rw [show (4 : Int32) * nI r + nI j = nI (4 * r + j) by rw [show (4 : Int32) = nI 4 from rfl, pk_mul, nI_add], h.rdF (f := 128) (j := 27) (c := 9) rfl hd, h.rdI (f := 131) (j := 30) (c := 9) rfl hd, h.rdF (f := 129) (j := 29) (c := 9) rfl hd, hb.1]
  · rw [if_neg c]
/-- the lines of one request, one after the other -/
theorem RR.acc4 (h : RR X S M) (hL : LVX X) {r u : Nat} (hr : r < cnt M 14) (hu : u < 2) (h17 : gI M 17 (nI r) = 4) {b0 : Nat} (hb0 : b0 = 4 * r) {q : Nat} (hq : q < 6) (e16 : gI M 16 (nI r) = nI q) (N0 : MS) (eN : it_cl1 (nI u) N0 b0 = M) : ∀ j, j ≤ 4 → it_cl1 (nI u) N0 (b0 + j) = mvW M (f_at (nI q) (nI u) 2) (f_at (nI q) (nI (u + 1)) 2) (kit_receivedUnbooked (nI r) X S (min j (xSz X 29 r)))
  | 0, _ => by
    rw [Nat.zero_min]
    show it_cl1 (nI u) N0 b0 = mvW M _ _ 0
    rw [mvW_0, eN]
  | j + 1, hj => by
    have ih := RR.acc4 h hL hr hu h17 hb0 hq e16 N0 eN j (by omega)
    have h14 := h.bo14 hL
    have h4 : xSz X 29 r ≤ 4 := hL.2.2.2.2 r (by rw [← h.c14 hL]; exact hr)
    have e18 : gI M 18 (nI r) = nI (xSz X 29 r) := by rw [gI_n, nI_clamp (by omega)]; exact h.2.2.2.1.2 r (by rw [← h.c14 hL]; exact hr)
    have hne : ((f_at (nI q) (nI u) 2).toNatClampNeg == (f_at (nI q) (nI (u + 1)) 2).toNatClampNeg) = false := by
      rw [show f_at (nI q) (nI u) 2 = nI (9 * q + 3 * u + 2) from at_ix (z := 2), show f_at (nI q) (nI (u + 1)) 2 = nI (9 * q + 3 * (u + 1) + 2) from at_ix (z := 2)]
      exact ix_ne (by omega) (by omega) (by omega)
    show cl1 (nI u) (nI (b0 + j)) (it_cl1 (nI u) N0 (b0 + j)) = _
    rw [ih]
    generalize et : kit_receivedUnbooked (nI r) X S (min j (xSz X 29 r)) = t at ih ⊢
    have fr := mvW_fr (M := M) (a := f_at (nI q) (nI u) 2) (b := f_at (nI q) (nI (u + 1)) 2) (t := t)
    rw [hb0, cl1_line (u := u) (by omega) (by omega) ((fr.i (by decide) _).trans e18) h4, fr.i (j := 17) (by decide), fr.i (j := 27) (by decide), fr.i (j := 16) (by decide), fr.i (j := 30) (by decide), fr.i (j := 29) (by decide), (fb_cg (M := M) (congrFun fr.1 39) (fun i => fr.2.2.1 40 (by decide) i) (fun i => fr.2.2.1 41 (by decide) i) (fun i => fr.2.2.1 44 (by decide) i)).1, e16, nI_1]
    by_cases c1 : j < xSz X 29 r
    · have h9 := ru_eq h hL hr j (by omega)
      rw [if_pos c1] at h9
      rw [show min (j + 1) (xSz X 29 r) = j + 1 by omega, h9]
      rw [show min j (xSz X 29 r) = j by omega] at et
      rw [et]
      by_cases c3 : gI M 27 (nI (4 * r + j)) = 0
      · rw [if_pos ⟨c1, h17, c3⟩, if_pos c3, mvW_mvW hne]
      · rw [if_neg (fun z => c3 z.2.2), if_neg c3]
    · rw [if_neg (fun z => c1 z.1), show min (j + 1) (xSz X 29 r) = min j (xSz X 29 r) by omega, et]
theorem acc_no {r u l : Nat} {N0 : MS} (hr : r < 40) {b0 : Nat} (hb0 : b0 = 4 * r) (eN : it_cl1 (nI u) N0 b0 = M) (h17 : ¬ gI M 17 (nI r) = 4) (e18 : gI M 18 (nI r) = nI l) (hl : l ≤ 4) : ∀ j, j ≤ 4 → it_cl1 (nI u) N0 (b0 + j) = M
  | 0, _ => eN
  | j + 1, hj => by
    show cl1 (nI u) (nI (b0 + j)) (it_cl1 (nI u) N0 (b0 + j)) = M
    rw [acc_no hr hb0 eN h17 e18 hl j (by omega), hb0, cl1_line (u := u) hr (by omega) e18 hl, if_neg (fun z => h17 z.2.1)]
theorem RR.cl1L (h : RR X S M) (hL : LVX X) (hc : ∀ p, P_isRequest p M → P_isCentre (gI M 16 p)) {u : Nat} (hu : u < 2) : ∀ r, r ≤ cnt M 14 → RR X (kit_cl1 (nI u) X S r) (it_cl1 (nI u) M (4 * r)) ∧ Fr [] [11] M (it_cl1 (nI u) M (4 * r))
  | 0, _ => ⟨h, Fr.rfl'⟩
  | r + 1, hr => by
    obtain ⟨i1, i2⟩ := RR.cl1L h hL hc hu r (by omega)
    have h14 := h.bo14 hL
    generalize eN : it_cl1 (nI u) M (4 * r) = N at i1 i2
    have hrN : r < cnt N 14 := by unfold cnt; rw [i2.1]; exact hr
    have hp := req_n h14.1 h14.2 (show r < cnt M 14 by omega)
    have hpN : P_isRequest (nI r) N := by
      show P_in (nI r) 0 (mI N 14 - 1)
      rw [i2.1]; exact hp
    have hd := i1.d14 hL hpN
    obtain ⟨q, hq, e16⟩ := cent_of (hc _ hp)
    have e16N : gI N 16 (nI r) = nI q := (i2.i (by decide) _).trans e16
    have h4 : xSz X 29 r ≤ 4 := hL.2.2.2.2 r (by rw [← h.c14 hL]; exact hr)
    have e18 : gI N 18 (nI r) = nI (xSz X 29 r) := by
      rw [gI_n, nI_clamp (by omega)]
      exact i1.2.2.2.1.2 r (by rw [← h.c14 hL]; exact hr)
    show RR X (k_accrue (nI r) (nI u) X (kit_cl1 (nI u) X S r)) (it_cl1 (nI u) M (4 * r + 4)) ∧ Fr [] [11] M (it_cl1 (nI u) M (4 * r + 4))
    unfold k_accrue
    rw [i1.rdI (f := 259) (j := 17) (c := 1) (x := nI r) rfl hd, i1.rdF (f := 257) (j := 16) (c := 1) (x := nI r) rfl hd, e16N, nI_1, pur_ix, pur_ix]
    by_cases c : gI N 17 (nI r) = 4
    · rw [if_pos c, i1.acc4 hL hrN hu c rfl hq e16N M eN 4 (Nat.le_refl _), show min 4 (xSz X 29 r) = xSz X 29 r by omega]
      have er : k_receivedUnbooked (nI r) X (kit_cl1 (nI u) X S r) = kit_receivedUnbooked (nI r) X (kit_cl1 (nI u) X S r) (xSz X 29 r) := by
        unfold k_receivedUnbooked
        rw [nI_clamp (by omega)]
      rw [er]
      exact ⟨i1.accr (r := r) hq hu, i2.trans mvW_fr⟩
    · rw [if_neg c, acc_no (by omega) rfl eN c e18 h4 4 (Nat.le_refl _)]
      exact ⟨i1, i2⟩
theorem RR.cl2L (h : RR X S M) {u : Nat} (hu : u < 2) : ∀ q, q ≤ 6 → RR X (kit_cl2 (nI u) X S q) (it_cl3 (nI u) M q)
  | 0, _ => h
  | q + 1, hq => by
    have ih := RR.cl2L h hu q (by omega)
    show RR X (k_carryOver (3 * nI q + nI u) (3 * nI q + (nI u + 1)) X (kit_cl2 (nI u) X S q)) (cl3 (nI u) (nI q) (it_cl3 (nI u) M q))
    rw [nI_1, pur_ix, pur_ix]
    exact ih.carry (by omega) hu
theorem rI_same {M : MS} {j : Nat} {x : Int32} : rI M j x (gI M j x) = M := by
  refine Prod.ext rfl (Prod.ext rfl (Prod.ext (funext fun a => funext fun i => ?_) rfl))
  show gn (rI M j x (gI M j x)) a i = gn M a i
  rw [gn_rI]
  by_cases e : a = j ∧ i = x.toNatClampNeg
  · rw [if_pos e, e.1, e.2]
    rfl
  · rw [if_neg e]
theorem cl2_eq {o x : Int32} : cl2 o x M = if gI M 20 x = o then if gI M 17 x = 1 ∨ gI M 17 x = 2 ∨ gI M 17 x = 4 then rI M 20 x (o + 1) else M else M := by
  unfold cl2
  rw [rI_same]
  by_cases c1 : gI M 20 x = o
  · rw [if_pos c1, if_pos c1]
    by_cases c2 : gI M 17 x = 1
    · rw [if_pos c2, if_pos (Or.inl c2)]
    · by_cases c3 : gI M 17 x = 2
      · rw [if_neg c2, if_pos c3, if_pos (Or.inr (Or.inl c3))]
      · by_cases c4 : gI M 17 x = 4
        · rw [if_neg c2, if_neg c3, if_pos c4, if_pos (Or.inr (Or.inr c4))]
        · rw [if_neg c2, if_neg c3, if_neg c4, if_neg (fun z => z.elim c2 (fun z => z.elim c3 c4))]
  · rw [if_neg c1, if_neg c1]
    split
    · rfl
    · split
      · rfl
      · split <;> rfl
theorem RR.cl3L (h : RR X S M) (hL : LVX X) {u : Nat} : ∀ r, r ≤ cnt M 14 → RR X (kit_cl3 (nI u) X S r) (it_cl2 (nI u) M r) ∧ Fr [20] [] M (it_cl2 (nI u) M r)
  | 0, _ => ⟨h, Fr.rfl'⟩
  | r + 1, hr => by
    obtain ⟨i1, i2⟩ := RR.cl3L h hL (u := u) r (by omega)
    have h14 := h.bo14 hL
    have hp := req_n h14.1 h14.2 (show r < cnt M 14 by omega)
    show RR X (kcl3 (nI u) X (nI r) (kit_cl3 (nI u) X S r)) (cl2 (nI u) (nI r) (it_cl2 (nI u) M r)) ∧ Fr [20] [] M (cl2 (nI u) (nI r) (it_cl2 (nI u) M r))
    generalize kit_cl3 (nI u) X S r = T at *
    generalize it_cl2 (nI u) M r = N at *
    have hpN : P_isRequest (nI r) N := by
      show P_in (nI r) 0 (mI N 14 - 1)
      rw [i2.1]; exact hp
    have hd := i1.d14 hL hpN
    unfold kcl3 K_isCommitting
    rw [cl2_eq, i1.rdI (f := 260) (j := 20) (c := 1) (x := nI r) rfl hd, i1.rdI (f := 259) (j := 17) (c := 1) (x := nI r) rfl hd]
    by_cases c1 : gI N 20 (nI r) = nI u
    · rw [if_pos c1, if_pos c1]
      by_cases c2 : gI N 17 (nI r) = 1 ∨ gI N 17 (nI r) = 2 ∨ gI N 17 (nI r) = 4
      · rw [if_pos c2, if_pos c2]
        exact ⟨i1.pI (f := 260) (j := 20) rfl, i2.rI (by decide)⟩
      · rw [if_neg c2, if_neg c2]
        exact ⟨i1, i2⟩
    · rw [if_neg c1, if_neg c1]
      exact ⟨i1, i2⟩
theorem it_cl3_fr {o : Int32} : ∀ n, Fr [] [11] M (it_cl3 o M n)
  | 0 => Fr.rfl'
  | n + 1 => (it_cl3_fr n).trans cl3_fr
theorem RR.close (h : RR X S M) (hL : LVX X) (hc : ∀ p, P_isRequest p M → P_isCentre (gI M 16 p)) {u : Nat} (hu : u < 2) : RR X (k_closeYear (nI u) X S) (closeAt (nI u) M) := by
  have h14 := h.bo14 hL
  have c24 : xSz X 24 (0 : Int32).toNatClampNeg = cnt M 14 := (h.c14 hL).symm
  have c21 : xSz X 21 (0 : Int32).toNatClampNeg = 6 := hL.2.2.1.2.1
  unfold k_closeYear closeAt
  rw [c24, c21, ← it23]
  have e4 : (4 * mI M 14).toNatClampNeg = 4 * cnt M 14 := by
    rw [h14.2, show (4 : Int32) = nI 4 from rfl, pk_mul, nI_clamp (by omega)]
  rw [e4]
  obtain ⟨r1, f1⟩ := h.cl1L hL hc hu (cnt M 14) (Nat.le_refl _)
  have r2 := r1.cl2L hu 6 (Nat.le_refl _)
  have f2 := it_cl3_fr (M := it_cl1 (nI u) M (4 * cnt M 14)) (o := nI u) 6
  have e14 : cnt (it_cl3 (nI u) (it_cl1 (nI u) M (4 * cnt M 14)) 6) 14 = cnt M 14 := (congrArg (fun z => (z 14).toNatClampNeg) f2.1).trans (congrArg (fun z => (z 14).toNatClampNeg) f1.1)
  exact (r2.cl3L hL (cnt M 14) (by rw [e14]; exact Nat.le_refl _)).1
end HC3
section HP2
variable {X : CX} {S : CT} {M : MS}
theorem sI_over {j : Nat} {v u : Int32} : sI (sI M j v) j u = sI M j u := by
  refine Prod.ext (funext fun a => ?_) rfl
  show (if a = j then u else if a = j then v else M.1 a) = if a = j then u else M.1 a
  by_cases e : a = j
  · rw [if_pos e, if_pos e]
  · rw [if_neg e, if_neg e, if_neg e]
theorem sI_id {j : Nat} : sI M j (mI M j) = M := by
  refine Prod.ext (funext fun a => ?_) rfl
  show (if a = j then mI M j else M.1 a) = M.1 a
  by_cases e : a = j
  · rw [if_pos e, e]; rfl
  · rw [if_neg e]
theorem cl_1 {o : Int32} : mI (closeAt o M) = mI M := by
  have k1 : ∀ n, mI (it_cl1 o M n) = mI M := fun n => by
    induction n with
    | zero => rfl
    | succ n ih => exact (cl1_fr.1).trans ih
  have k2 : ∀ (N : MS) n, mI (it_cl2 o N n) = mI N := fun N n => by
    induction n with
    | zero => rfl
    | succ n ih =>
      refine Eq.trans ?_ ih
      show mI (cl2 o (nI n) (it_cl2 o N n)) = mI (it_cl2 o N n)
      unfold cl2
      repeat' split
      all_goals rfl
  exact ((it_cl3_fr (M := _) 6).1.trans (k2 _ _)).trans (k1 _)
theorem st_day {d : Nat} (hd : d + 1 < 2 ^ 30) (e : mI M 1 = nI d) : st_pass M = if (d + 1) % 360 = 0 then f_closes (sI M 1 (nI (d + 1))) else sI M 1 (nI (d + 1)) := by
  unfold st_pass
  rw [e, nI_1]
  have ed : nI (d + 1) / 360 = nI ((d + 1) / 360) := pk_div (by omega) (by decide) (by decide)
  have em : nI (d + 1) - nI (d + 1) / 360 * 360 = nI ((d + 1) % 360) := by
    rw [ed, show nI ((d + 1) / 360) * 360 = nI (360 * ((d + 1) / 360)) by rw [Int32.mul_comm, show (360 : Int32) = nI 360 from rfl, pk_mul]]
    have h9 : nI (d + 1) = nI ((d + 1) % 360) + nI (360 * ((d + 1) / 360)) := by rw [nI_add, Nat.mod_add_div]
    rw [h9, Int32.add_sub_cancel]
  rw [em]
  by_cases c : (d + 1) % 360 = 0
  · rw [if_pos c, c, if_pos (show nI 0 = 0 from rfl)]
  · rw [if_neg c, if_neg (fun z => c (by
      have := congrArg Int32.toNatClampNeg z
      rw [nI_clamp (by omega)] at this
      exact this))]
theorem it_low {d : Nat} (e : mI M 1 = nI d) : ∀ k, d / 360 = (d + k) / 360 → d + k < 2 ^ 30 → it_pass M k = sI M 1 (nI (d + k))
  | 0, _, _ => by
    show M = sI M 1 (nI d)
    rw [← e, sI_id]
  | k + 1, h, h2 => by
    show st_pass (it_pass M k) = _
    rw [it_low e k (by omega) (by omega), st_day (d := d + k) (by omega) mI_sIs, if_neg (by omega), sI_over]
    rfl
theorem closes_at {d : Nat} (hd : d < 2 ^ 30) (h0 : 360 ≤ d) : f_closes (sI M 1 (nI d)) = closeAt (nI (d / 360 - 1)) (sI M 1 (nI d)) := by
  have ey : f_yearNow (sI M 1 (nI d)) - 1 = nI (d / 360 - 1) := by
    unfold f_yearNow
    rw [show mI (sI M 1 (nI d)) 1 = nI d from mI_sIs, show nI d / 360 = nI (d / 360) from pk_div (by omega) (by decide) (by decide)]
    obtain ⟨q, hq⟩ : ∃ q, d / 360 = q + 1 := ⟨d / 360 - 1, by omega⟩
    rw [hq, ← nI_1, Int32.add_sub_cancel, Nat.add_sub_cancel]
  unfold f_closes closeAt
  rw [ey]
theorem it_high {d : Nat} (e : mI M 1 = nI d) : ∀ k, (d + k) / 360 = d / 360 + 1 → d + k < 2 ^ 30 → it_pass M k = sI (closeAt (nI (d / 360)) M) 1 (nI (d + k))
  | 0, h, _ => by omega
  | k + 1, h, h2 => by
    show st_pass (it_pass M k) = _
    by_cases c : (d + k) / 360 = d / 360 + 1
    · rw [it_high e k c (by omega), st_day (d := d + k) (by omega) mI_sIs, if_neg (by omega), sI_over]
      rfl
    · rw [it_low e k (by omega) (by omega), st_day (d := d + k) (by omega) mI_sIs, if_pos (by omega), sI_over, closes_at (by omega) (by omega), closeAt_m, show (d + k + 1) / 360 - 1 = d / 360 by omega]
      rfl
end HP2
theorem eq_pass {X : CX} {S : CT} {M : MS} {p1 : Int32} (hX : XOK X) (hL : LVX X) (h : RR X S M) (hQ : ∀ p, P_isRequest p M → QK M p) {d : Nat} (hd : d ≤ 1079) (e1 : mI M 1 = nI d) : EQi X S xcAS (k_pass p1 X S) (f_pass p1 M) := by
  unfold k_pass f_pass
  by_cases c1 : P_in p1 1 360
  · by_cases c2 : ((mI M 1) + p1) ≤ 1079
    · by_cases c3 : (k_thisYear X (si S 363 0 ((ci S 363 0) + p1))) ≤ (k_thisYear X S)
      · rw [if_pos c1, if_pos ((le_keep (congrArg (· + p1) (h.i0 (f := 363) (j := 1) rfl)) rfl).mpr c2), if_pos c3, if_pos c1, if_pos c2]
        obtain ⟨p, hp, rfl⟩ : ∃ p, p ≤ 360 ∧ p1 = nI p := in_cases (n := 360) (by decide) ⟨Int32.le_trans (by decide : (0 : Int32) ≤ 1) c1.1, c1.2⟩
        have hp0 : 0 < p := by
          rcases Nat.eq_zero_or_pos p with z | z
          · rw [z] at c1
            exact absurd c1.1 (by decide)
          · exact z
        have hdp : d + p ≤ 1079 := by
          rw [e1, nI_add] at c2
          have h9 := mt (nI_ltI (a := 1079) (b := d + p) (by omega) (by omega)).mpr (Int32.not_lt.mpr (show nI (d + p) ≤ nI 1079 from c2))
          omega
        have e363 : ci S 363 0 = nI d := (h.i0 (f := 363) (j := 1) rfl).trans e1
        have ey : k_thisYear X S = nI (d / 360) := by
          unfold k_thisYear
          rw [e363]
          exact pk_div (by omega) (by decide) (by decide)
        have ey2 : k_thisYear X (si S 363 0 (ci S 363 0 + nI p)) = nI ((d + p) / 360) := by
          unfold k_thisYear
          rw [ci_ss, e363, nI_add]
          exact pk_div (by omega) (by decide) (by decide)
        have h0 := h.thr (v := 0)
        have m1 : mI (sI M 0 0) 1 = nI d := e1
        have r0 : RR X (si S 363 0 (ci S 363 0 + nI p)) (sI (sI M 0 0) 1 (nI (d + p))) := by
          rw [e363, nI_add]
          exact h0.p0 rfl
        rw [ey, ey2] at c3
        rw [nI_clamp (by omega)]
        have hy : d / 360 = (d + p) / 360 := by
          have h9 := mt (nI_ltI (a := d / 360) (b := (d + p) / 360) (by omega) (by omega)).mpr (Int32.not_lt.mpr c3)
          omega
        rw [it_low m1 p hy (by omega)]
        exact ⟨rfl, by show ci S 363 0 + nI p = mI (sI (sI M 0 0) 1 (nI (d + p))) 1; rw [e363, nI_add]; exact mI_sIs.symm, r0⟩
      · rw [if_pos c1, if_pos ((le_keep (congrArg (· + p1) (h.i0 (f := 363) (j := 1) rfl)) rfl).mpr c2), if_neg c3, if_pos c1, if_pos c2]
        obtain ⟨p, hp, rfl⟩ : ∃ p, p ≤ 360 ∧ p1 = nI p := in_cases (n := 360) (by decide) ⟨Int32.le_trans (by decide : (0 : Int32) ≤ 1) c1.1, c1.2⟩
        have hp0 : 0 < p := by
          rcases Nat.eq_zero_or_pos p with z | z
          · rw [z] at c1
            exact absurd c1.1 (by decide)
          · exact z
        have hdp : d + p ≤ 1079 := by
          rw [e1, nI_add] at c2
          have h9 := mt (nI_ltI (a := 1079) (b := d + p) (by omega) (by omega)).mpr (Int32.not_lt.mpr (show nI (d + p) ≤ nI 1079 from c2))
          omega
        have e363 : ci S 363 0 = nI d := (h.i0 (f := 363) (j := 1) rfl).trans e1
        have ey : k_thisYear X S = nI (d / 360) := by
          unfold k_thisYear
          rw [e363]
          exact pk_div (by omega) (by decide) (by decide)
        have ey2 : k_thisYear X (si S 363 0 (ci S 363 0 + nI p)) = nI ((d + p) / 360) := by
          unfold k_thisYear
          rw [ci_ss, e363, nI_add]
          exact pk_div (by omega) (by decide) (by decide)
        have h0 := h.thr (v := 0)
        have m1 : mI (sI M 0 0) 1 = nI d := e1
        have r0 : RR X (si S 363 0 (ci S 363 0 + nI p)) (sI (sI M 0 0) 1 (nI (d + p))) := by
          rw [e363, nI_add]
          exact h0.p0 rfl
        rw [ey, ey2] at c3
        rw [nI_clamp (by omega)]
        have hy : (d + p) / 360 = d / 360 + 1 := by
          have h9 : ¬ (d + p) / 360 ≤ d / 360 := fun z => c3 (nI_le z (by omega))
          omega
        rw [it_high m1 p hy (by omega), ey]
        have hc : ∀ q, P_isRequest q (sI (sI M 0 0) 1 (nI (d + p))) → P_isCentre (gI (sI (sI M 0 0) 1 (nI (d + p))) 16 q) := fun q hq => (hQ q hq).1
        have r1 := r0.close hL hc (u := d / 360) (by omega)
        rw [closeAt_m] at r1
        have hm := congrFun (cl_1 (M := sI M 0 0) (o := nI (d / 360))) 0
        generalize closeAt (nI (d / 360)) (sI M 0 0) = Z at *
        generalize k_closeYear (nI (d / 360)) X (si S 363 0 (ci S 363 0 + nI p)) = T at *
        exact ⟨(mI_sIn rfl).trans hm, r1.i0 (f := 363) (j := 1) rfl, r1⟩
    · rw [if_pos c1, if_neg (fun z => c2 ((le_keep (congrArg (· + p1) (h.i0 (f := 363) (j := 1) rfl)) rfl).mp z)), if_pos c1, if_neg c2]
      exact ⟨mI_sIs.trans xAS_S.symm, h.thr⟩
  · rw [if_neg c1, if_neg c1]
    exact ⟨mI_sIs.trans xAS_A.symm, h.thr⟩
