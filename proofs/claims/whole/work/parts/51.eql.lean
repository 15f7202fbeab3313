/-- only rows of A and B are written -/
def Fr (A B : List Nat) (M M' : MS) : Prop := mI M' = mI M ∧ mJ M' = mJ M ∧ (∀ j, j ∉ A → ∀ i, gn M' j i = gn M j i) ∧ ∀ j, j ∉ B → ∀ i, gl M' j i = gl M j i
theorem Fr.rfl' {A B : List Nat} {M : MS} : Fr A B M M := ⟨rfl, rfl, fun _ _ _ => rfl, fun _ _ _ => rfl⟩
theorem Fr.trans {A B : List Nat} {M M' M'' : MS} (h : Fr A B M M') (h2 : Fr A B M' M'') : Fr A B M M'' := ⟨h2.1.trans h.1, h2.2.1.trans h.2.1, fun j z i => (h2.2.2.1 j z i).trans (h.2.2.1 j z i), fun j z i => (h2.2.2.2 j z i).trans (h.2.2.2 j z i)⟩
theorem Fr.rI {A B : List Nat} {M M' : MS} {j : Nat} {x v : Int32} (h : Fr A B M M') (hj : j ∈ A) : Fr A B M (rI M' j x v) := ⟨h.1, h.2.1, fun a z i => (gn_rIn (fun e => z (by rw [e]; exact hj))).trans (h.2.2.1 a z i), h.2.2.2⟩
theorem Fr.rJ {A B : List Nat} {M M' : MS} {j : Nat} {x : Int32} {v : Int64} (h : Fr A B M M') (hj : j ∈ B) : Fr A B M (rJ M' j x v) := ⟨h.1, h.2.1, h.2.2.1, fun a z i => (gl_rJn (fun e => z (by rw [e]; exact hj))).trans (h.2.2.2 a z i)⟩
theorem Fr.commits {A B : List Nat} {M M' : MS} {p : Int32} {v : Int64} (h : Fr A B M M') (h1 : 19 ∈ B) (h2 : 11 ∈ B) : Fr A B M (f_commits p v M') := (h.rJ h1).rJ h2
theorem Fr.frees {A B : List Nat} {M M' : MS} {p : Int32} {v : Int64} (h : Fr A B M M') (h1 : 19 ∈ B) (h2 : 11 ∈ B) : Fr A B M (f_frees p v M').2 := by
  unfold f_frees
  split <;> split <;> first | exact h | exact h.commits h1 h2
theorem Fr.i {A B : List Nat} {M M' : MS} (h : Fr A B M M') {j : Nat} (hj : j ∉ A) (x : Int32) : gI M' j x = gI M j x := h.2.2.1 j hj _
theorem Fr.j {A B : List Nat} {M M' : MS} (h : Fr A B M M') {j : Nat} (hj : j ∉ B) (x : Int32) : gJ M' j x = gJ M j x := h.2.2.2 j hj _
def BkA : List Nat := [52, 51, 49, 50, 44]
def BkB : List Nat := [46, 47, 48, 11, 19, 2]
theorem fr_books {p : Int32} {M : MS} : Fr BkA BkB M (f_books p M) := by
  unfold f_books
  have key : ∀ (b t : Int32) (x c o y z : Int64) (dy du q : Int32) (v : Int64) (i : Int32) (u : Int64), Fr BkA BkB M (rJ (rJ (rJ (f_frees q v (rJ (rI (rI (rI (rJ (rJ (rJ (rI (rI M 52 p b) 51 p t) 46 p x) 47 p c) 48 p o) 49 p dy) 50 p du) 44 p 1) 11 i u)).2 2 0 y) 2 3 z) 2 1 o) := fun b t x c o y z dy du q v i u =>
    (((((((((((((Fr.rfl').rI (by decide)).rI (by decide)).rJ (by decide)).rJ (by decide)).rJ (by decide)).rI (by decide)).rI (by decide)).rI (by decide)).rJ (by decide)).frees (by decide) (by decide)).rJ (by decide)).rJ (by decide)).rJ (by decide)
  have key2 : ∀ (b t : Int32) (x c o y z o2 : Int64) (dy du q : Int32) (v : Int64) (i : Int32) (u : Int64), Fr BkA BkB M (rJ (rJ (rJ (f_frees q v (rJ (rI (rI (rI (rJ (rJ (rJ (rI (rI M 52 p b) 51 p t) 46 p x) 47 p c) 48 p o) 49 p dy) 50 p du) 44 p 1) 11 i u)).2 2 0 y) 2 3 z) 2 1 o2) := fun b t x c o y z o2 dy du q v i u =>
    (((((((((((((Fr.rfl').rI (by decide)).rI (by decide)).rJ (by decide)).rJ (by decide)).rJ (by decide)).rI (by decide)).rI (by decide)).rI (by decide)).rJ (by decide)).frees (by decide) (by decide)).rJ (by decide)).rJ (by decide)).rJ (by decide)
  split
  · exact key2 _ _ _ _ _ _ _ _ _ _ _ _ _ _
  · exact key2 _ _ _ _ _ _ _ _ _ _ _ _ _ _
/-- the committed value goes down, and not below 0 -/
def DN (M M' : MS) : Prop := ∀ i, 0 ≤ gl M 19 i → 0 ≤ gl M' 19 i ∧ gl M' 19 i ≤ gl M 19 i
theorem sub_dn {c v : Int64} (h0 : 0 ≤ v) (h1 : v ≤ c) : 0 ≤ c + -v ∧ c + -v ≤ c := by
  rw [← Int64.sub_eq_add_neg]
  have a0 := Int64.le_iff_toInt_le.mp h0
  have a1 := Int64.le_iff_toInt_le.mp h1
  rw [show (0 : Int64).toInt = 0 from by decide] at a0
  have b1 := Int64.toInt_lt c
  have e := w_s64 (x := c) (y := v) rfl rfl (by omega) (by omega)
  rw [Int64.le_iff_toInt_le, Int64.le_iff_toInt_le, e, show (0 : Int64).toInt = 0 from by decide]
  omega
theorem dn_frees {p : Int32} {v : Int64} {M : MS} : DN M (f_frees p v M).2 := by
  intro i hi
  unfold f_frees
  have st : ∀ u, (0 ≤ u) → (u ≤ gJ M 19 p) → 0 ≤ gl (f_commits p (-u) M) 19 i ∧ gl (f_commits p (-u) M) 19 i ≤ gl M 19 i := fun u h0 h1 => by
    unfold f_commits
    rw [gl_rJn (by decide), gl_rJ]
    by_cases z : 19 = 19 ∧ i = p.toNatClampNeg
    · rw [if_pos z, z.2]
      exact sub_dn h0 h1
    · rw [if_neg z]
      exact ⟨hi, Int64.le_refl _⟩
  by_cases a : 0 ≤ lg_cmp v (gJ M 19 p)
  · rw [if_pos a]
    by_cases b : lg_cmp (gJ M 19 p) 0 ≤ 0
    · rw [if_pos b]; exact ⟨hi, Int64.le_refl _⟩
    · rw [if_neg b]
      rw [lg_cmp_le] at b
      exact st _ (Int64.le_of_lt (Int64.not_le.mp b)) (Int64.le_refl _)
  · rw [if_neg a]
    by_cases b : lg_cmp v 0 ≤ 0
    · rw [if_pos b]; exact ⟨hi, Int64.le_refl _⟩
    · rw [if_neg b]
      rw [lg_cmp_le] at b
      rw [lg_cmp_ge] at a
      exact st _ (Int64.le_of_lt (Int64.not_le.mp b)) (Int64.le_of_lt (Int64.not_le.mp a))
theorem DN.pre {M M0 M' : MS} (h : DN M0 M') (h19 : ∀ i, gl M0 19 i = gl M 19 i) : DN M M' := fun i hi => by
  have := h i (by rw [h19]; exact hi)
  rw [h19] at this
  exact this
theorem DN.post {M M0 M' : MS} (h : DN M M0) (h19 : ∀ i, gl M' 19 i = gl M0 19 i) : DN M M' := fun i hi => by
  rw [h19]
  exact h i hi
theorem dn_books {p : Int32} {M : MS} : DN M (f_books p M) := by
  unfold f_books
  have key2 : ∀ (b t : Int32) (x c o y z o2 : Int64) (dy du q : Int32) (v : Int64) (i : Int32) (u : Int64), DN M (rJ (rJ (rJ (f_frees q v (rJ (rI (rI (rI (rJ (rJ (rJ (rI (rI M 52 p b) 51 p t) 46 p x) 47 p c) 48 p o) 49 p dy) 50 p du) 44 p 1) 11 i u)).2 2 0 y) 2 3 z) 2 1 o2) := fun b t x c o y z o2 dy du q v i u => by
    refine DN.post (M0 := (f_frees q v (rJ (rI (rI (rI (rJ (rJ (rJ (rI (rI M 52 p b) 51 p t) 46 p x) 47 p c) 48 p o) 49 p dy) 50 p du) 44 p 1) 11 i u)).2) (DN.pre dn_frees (fun i => ?_)) (fun i => ?_)
    · rw [gl_rJn (by decide)]
      show gl (rJ (rJ (rJ M 46 p x) 47 p c) 48 p o) 19 i = _
      rw [gl_rJn (by decide), gl_rJn (by decide), gl_rJn (by decide)]
    · rw [gl_rJn (by decide), gl_rJn (by decide), gl_rJn (by decide)]
  split
  · exact key2 _ _ _ _ _ _ _ _ _ _ _ _ _ _
  · exact key2 _ _ _ _ _ _ _ _ _ _ _ _ _ _
theorem qk_cg {M M' : MS} {p : Int32} (h3 : mI M' 3 = mI M 3) (hr : ∀ j, (j = 4 ∨ j = 5 ∨ j = 15 ∨ j = 16 ∨ j = 17 ∨ j = 18 ∨ j = 20 ∨ j = 21 ∨ j = 23 ∨ j = 24 ∨ j = 25 ∨ j = 26 ∨ j = 28 ∨ j = 29) → ∀ x, gI M' j x = gI M j x) (h19 : 0 ≤ gJ M' 19 p ∧ (0 < gJ M' 19 p → 0 < gJ M 19 p)) (h : QK M p) : QK M' p := by
  have et : f_total p M' = f_total p M := ft_cg (fun x => hr 28 (by omega) x) (fun x => hr 29 (by omega) x) (fun x => hr 18 (by omega) x)
  have ec : ∀ t, CH M p t → CH M' p t := fun t z => ch_cg h3 (fun x => hr 23 (by omega) x) (hr 24 (by omega) p) (hr 25 (by omega) p) (fun x => hr 4 (by omega) x) (fun x => hr 5 (by omega) x) z
  have eP : ∀ b, P_isPerson b M → P_isPerson b M' := fun b z => by
    show P_in b 0 (mI M' 3 - 1)
    rw [h3]; exact z
  obtain ⟨g1, g2, g3, g4, ⟨t, g5⟩, g6, g7, g8, g9⟩ := h
  have q := fun j hj => hr j hj p
  refine ⟨by rw [q 16 (by omega)]; exact g1, by rw [q 15 (by omega)]; exact eP _ g2, ⟨h19.1, fun z => by rw [q 20 (by omega)]; exact g3.2 (h19.2 z)⟩, by rw [q 26 (by omega)]; exact g4.imp id (eP _), ⟨t, ec t g5⟩, fun z => by rw [et]; exact ec _ (g6 (by rw [← q 17 (by omega)]; exact z)), fun z => by rw [q 21 (by omega)]; exact g7 (by rw [← q 17 (by omega)]; exact z), fun z => by rw [q 20 (by omega)]; exact g8 (by rw [← q 17 (by omega)]; exact z), by rw [q 17 (by omega)]; exact g9⟩
theorem qk_bk {M M' : MS} {p : Int32} (h : Fr BkA BkB M M') (hd : DN M M') (hq : QK M p) : QK M' p :=
  qk_cg (congrFun h.1 3) (fun j hj x => h.i (by rcases hj with rfl | rfl | rfl | rfl | rfl | rfl | rfl | rfl | rfl | rfl | rfl | rfl | rfl | rfl <;> decide) x) ⟨(hd _ hq.2.2.1.1).1, fun z => Int64.lt_of_lt_of_le z (hd _ hq.2.2.1.1).2⟩ hq
theorem DN.trans {M M' M'' : MS} (h : DN M M') (h2 : DN M' M'') : DN M M'' := fun i hi => ⟨(h2 i (h i hi).1).1, Int64.le_trans (h2 i (h i hi).1).2 (h i hi).2⟩
theorem DN.rfl' {M : MS} : DN M M := fun _ hi => ⟨hi, Int64.le_refl _⟩
theorem it_look_fr {q : Int32} {M : MS} : ∀ n, Fr BkA BkB M (it_looksAgain q M n).2 ∧ DN M (it_looksAgain q M n).2
  | 0 => ⟨Fr.rfl', DN.rfl'⟩
  | n + 1 => by
    have ih := it_look_fr (q := q) (M := M) n
    unfold it_looksAgain st_looksAgain
    split
    · split
      · split
        · exact ⟨ih.1.trans fr_books, ih.2.trans dn_books⟩
        · exact ih
      · exact ih
    · exact ih
section HLk
variable {X : CX} {S : CT} {M : MS}
/-- the lines and the suppliers of invoices -/
def VV (M : MS) : Prop := ∀ v, P_isInvoice v M → (dm M 9 (gI M 40 v).toNatClampNeg ∧ nI (gI M 40 v).toNatClampNeg = gI M 40 v) ∧ P_in (gI M 21 (gI M 40 v / 4)) 0 5
theorem VV.fr {M M' : MS} (h : VV M) (hf : Fr BkA BkB M M') : VV M' := fun v hv => by
  have hv2 : P_isInvoice v M := by
    show P_in v 0 (mI M 39 - 1)
    rw [← hf.1]; exact hv
  have h9 := h v hv2
  rw [hf.i (j := 40) (by decide), hf.i (j := 21) (by decide)]
  exact ⟨⟨(dm_cg hf.1 (fun i => hf.2.2.1 18 (by decide) i)).mpr h9.1.1, h9.1.2⟩, h9.2⟩
theorem RR.bo39 (h : RR X S M) (hL : LVX X) : cnt M 39 ≤ 60 ∧ mI M 39 = nI (cnt M 39) := by
  have hb := hL.2.2.1
  rw [h.c39 hL]
  exact ⟨hb.2.2.2.2.2.1, h.z39.symm⟩
theorem inv_n {r : Nat} (h60 : cnt M 39 ≤ 60) (h39 : mI M 39 = nI (cnt M 39)) (hr : r < cnt M 39) : P_isInvoice (nI r) M := by
  show P_in (nI r) 0 (mI M 39 - 1)
  rw [h39]
  exact (num_in (n := cnt M 39) (by omega)).mp ⟨nI_pos' (by omega), nI_lt hr (by omega)⟩
theorem RR.look (h : RR X S M) (hL : LVX X) (hQ : ∀ p, P_isRequest p M → QK M p) (hY : P_isYear (f_yearNow M)) (hV : VV M) {q : Int32} : (k_lookAgain q X S).1 = (f_looksAgain q M).1 ∧ RR X (k_lookAgain q X S).2 (f_looksAgain q M).2 := by
  have h39 := h.bo39 hL
  have key : ∀ n, n ≤ cnt M 39 → (kit_lookAgain q X S n).1 = (it_looksAgain q M n).1 ∧ RR X (kit_lookAgain q X S n).2 (it_looksAgain q M n).2 := fun n => by
    induction n with
    | zero => exact fun _ => ⟨rfl, h⟩
    | succ n ih =>
      intro hn
      obtain ⟨i1, i2⟩ := ih (by omega)
      obtain ⟨f1, f2⟩ := it_look_fr (q := q) (M := M) n
      have hv0 := inv_n h39.1 h39.2 (show n < cnt M 39 by omega)
      unfold kit_lookAgain it_looksAgain
      generalize (it_looksAgain q M n).2 = N at f1 f2 i2 ⊢
      generalize (kit_lookAgain q X S n).2 = T at i2 ⊢
      have hv : P_isInvoice (nI n) N := by
        show P_in (nI n) 0 (mI N 39 - 1)
        rw [f1.1]; exact hv0
      have hVN := hV.fr f1 _ hv
      have hd := i2.d39 hL hv
      obtain ⟨Q, e1, e2, e3, hr, e4, e5, e6, e7⟩ := i2.ivl hL hv hVN.1
      unfold kst_lookAgain st_looksAgain
      rw [e6, i2.rdI (f := 102) (j := 44) (c := 2) (x := nI n) rfl hd, i1]
      by_cases a1 : gI N 40 (nI n) = q
      · rw [if_pos a1, if_pos a1]
        by_cases a2 : gI N 44 (nI n) = 0
        · rw [if_pos a2, if_pos a2, i2.why hL hv hVN.1.1 hVN.1.2]
          by_cases a3 : f_why (nI n) N = 0
          · rw [if_pos a3, if_pos a3]
            refine ⟨rfl, i2.book hL hv a2 hVN.1 (fun p hp => qk_bk f1 f2 (hQ p ?_)) ?_ hVN.2⟩
            · show P_in p 0 (mI M 14 - 1)
              rw [← f1.1]; exact hp
            · unfold f_yearNow
              rw [f1.1]; exact hY
          · rw [if_neg a3, if_neg a3]
            exact ⟨rfl, i2⟩
        · rw [if_neg a2, if_neg a2]
          exact ⟨rfl, i2⟩
      · rw [if_neg a1, if_neg a1]
        exact ⟨rfl, i2⟩
  have h9 := key _ (Nat.le_refl _)
  unfold k_lookAgain f_looksAgain
  rw [h.c39 hL] at h9
  have e : (mI M 39).toNatClampNeg = xSz X 25 0 := h.c39 hL
  rw [e]
  exact h9
end HLk
