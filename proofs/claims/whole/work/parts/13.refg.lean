theorem gI_pays {M : MS} {v : Int32} {j : Nat} {x : Int32} (h1 : (j == 44) = false) : gI (f_pays v M) j x = gI M j x := by
  unfold f_pays
  repeat' split
  all_goals simp only [gI_rIn h1, gI_rJ]
theorem mI_pays {M : MS} {v : Int32} {j : Nat} : mI (f_pays v M) j = mI M j := by
  unfold f_pays
  repeat' split
  all_goals rfl
theorem gJ_pays {M : MS} {v : Int32} {x : Int32} : gJ (f_pays v M) 19 x = gJ M 19 x := by
  unfold f_pays
  repeat' split
  all_goals simp only [gJ_rI, gJ_rJn (j := 19) (a := 54) rfl, gJ_rJn (j := 19) (a := 55) rfl, gJ_rJn (j := 19) (a := 2) rfl]
theorem gI_books {M : MS} {v : Int32} {j : Nat} {x : Int32} (h1 : (j == 44) = false) (h2 : (j == 49) = false) (h3 : (j == 50) = false) (h4 : (j == 51) = false) (h5 : (j == 52) = false) : gI (f_books v M) j x = gI M j x := by
  unfold f_books
  repeat' split
  all_goals simp only [gI_rJ, gI_frees, gI_rIn h1, gI_rIn h2, gI_rIn h3, gI_rIn h4, gI_rIn h5]
theorem mI_books {M : MS} {v : Int32} {j : Nat} : mI (f_books v M) j = mI M j := by
  unfold f_books
  repeat' split
  all_goals simp only [mI_rJ, mI_rI, mI_frees]
theorem i64_pos {a b : Int64} (h1 : 0 < b) (h2 : b ≤ a) : 0 < a := Int64.lt_of_lt_of_le h1 h2
/-- what is freed leaves a commitment that was there -/
theorem gJ_frees_pos {M : MS} {a r : Int32} {b : Int64} (h : 0 < gJ (f_frees a b M).2 19 r) : 0 < gJ M 19 r := by
  by_cases e : r.toNatClampNeg = a.toNatClampNeg
  · have er : ∀ M' : MS, gJ M' 19 r = gJ M' 19 a := fun M' => by unfold gJ; rw [e]
    rw [er] at h ⊢
    unfold f_frees at h
    split at h
    · rename_i c1
      rw [lg_cmp_ge] at c1
      split at h
      · exact h
      · rename_i c2
        rw [lg_cmp_le] at c2
        exact Int64.not_le.mp c2
    · rename_i c1
      rw [lg_cmp_ge] at c1
      split at h
      · exact h
      · rename_i c2
        rw [lg_cmp_le] at c2
        exact Int64.lt_trans (Int64.not_le.mp c2) (Int64.not_le.mp c1)
  · have e2 : ∀ {b : Int64}, gJ (f_commits a b M) 19 r = gJ M 19 r := by
      intro b
      unfold f_commits
      rw [gJ_rJn rfl, gJ_rJc (by simpa using e)]
    unfold f_frees at h
    split at h <;> split at h <;> first | exact h | (rw [e2] at h; exact h)
theorem gJ_books_pos {M : MS} {v r : Int32} (h : 0 < gJ (f_books v M) 19 r) : 0 < gJ M 19 r := by
  unfold f_books at h
  repeat' split at h
  all_goals
    simp only [gJ_rJn (j := 19) (a := 2) rfl] at h
    have h9 := gJ_frees_pos h
    simpa only [gJ_rI, gJ_rJn (j := 19) (a := 46) rfl, gJ_rJn (j := 19) (a := 47) rfl, gJ_rJn (j := 19) (a := 48) rfl, gJ_rJn (j := 19) (a := 11) rfl] using h9
theorem RqOK.mono {M M' : MS} {r : Int32} (h : RqOK M r) (e15 : ∀ x, gI M' 15 x = gI M 15 x) (e16 : ∀ x, gI M' 16 x = gI M 16 x) (e18 : ∀ x, gI M' 18 x = gI M 18 x) (e20 : ∀ x, gI M' 20 x = gI M 20 x) (e23 : ∀ x, gI M' 23 x = gI M 23 x) (e24 : ∀ x, gI M' 24 x = gI M 24 x) (e25 : ∀ x, gI M' 25 x = gI M 25 x) (e26 : ∀ x, gI M' 26 x = gI M 26 x) (e19 : 0 < gJ M' 19 r → 0 < gJ M 19 r) : RqOK M' r := by
  obtain ⟨h1, h2, h3, h4, h5, h6, h7⟩ := h
  exact ⟨h1, by rw [e15]; exact h2, by rw [e16]; exact h3, by rw [e18]; exact h4, fun q => by rw [e20]; exact h5 (e19 q), fun q => by rw [e24, e25] at q; rw [e25, e23]; exact h6 q, fun q => by rw [e26] at q ⊢; exact h7 q⟩
theorem IvOK.books {M : MS} {u v : Int32} (h : IvOK M v) : IvOK (f_books u M) v := by
  obtain ⟨h1, h2, h3, h4, h5, h6⟩ := h
  have e40 : ∀ x, gI (f_books u M) 40 x = gI M 40 x := fun x => gI_books rfl rfl rfl rfl rfl
  have e21 : ∀ x, gI (f_books u M) 21 x = gI M 21 x := fun x => gI_books rfl rfl rfl rfl rfl
  have e32 : ∀ x, gI (f_books u M) 32 x = gI M 32 x := fun x => gI_books rfl rfl rfl rfl rfl
  refine ⟨h1, by rw [e40]; exact h2, by rw [e40]; exact h3, by rw [e40]; exact h4.mono (fun x => gI_books rfl rfl rfl rfl rfl) (fun x => gI_books rfl rfl rfl rfl rfl) (fun x => gI_books rfl rfl rfl rfl rfl) (fun x => gI_books rfl rfl rfl rfl rfl) (fun x => gI_books rfl rfl rfl rfl rfl) (fun x => gI_books rfl rfl rfl rfl rfl) (fun x => gI_books rfl rfl rfl rfl rfl) (fun x => gI_books rfl rfl rfl rfl rfl) gJ_books_pos, by rw [e40, e21]; exact h5, by rw [e40, e21, e32]; exact h6⟩
theorem IvOK.pays {M : MS} {u v : Int32} (h : IvOK M v) : IvOK (f_pays u M) v := by
  obtain ⟨h1, h2, h3, h4, h5, h6⟩ := h
  have e40 : ∀ x, gI (f_pays u M) 40 x = gI M 40 x := fun x => gI_pays rfl
  have e21 : ∀ x, gI (f_pays u M) 21 x = gI M 21 x := fun x => gI_pays rfl
  have e32 : ∀ x, gI (f_pays u M) 32 x = gI M 32 x := fun x => gI_pays rfl
  refine ⟨h1, by rw [e40]; exact h2, by rw [e40]; exact h3, by rw [e40]; exact h4.mono (fun x => gI_pays rfl) (fun x => gI_pays rfl) (fun x => gI_pays rfl) (fun x => gI_pays rfl) (fun x => gI_pays rfl) (fun x => gI_pays rfl) (fun x => gI_pays rfl) (fun x => gI_pays rfl) (fun q => by rw [gJ_pays] at q; exact q), by rw [e40, e21]; exact h5, by rw [e40, e21, e32]; exact h6⟩
/-- the invoices' rows and the day, through a loop over the invoices -/
def LpOK (n : Nat) (M : MS) : Prop := mI M 39 = nI n ∧ P_isYear (f_yearNow M) ∧ ∀ j, j < n → IvOK M (nI j)
theorem LpOK.books {n : Nat} {M : MS} {u : Int32} (h : LpOK n M) : LpOK n (f_books u M) := ⟨by rw [mI_books]; exact h.1, by unfold f_yearNow; rw [mI_books]; exact h.2.1, fun j hj => (h.2.2 j hj).books⟩
theorem LpOK.pays {n : Nat} {M : MS} {u : Int32} (h : LpOK n M) : LpOK n (f_pays u M) := ⟨by rw [mI_pays]; exact h.1, by unfold f_yearNow; rw [mI_pays]; exact h.2.1, fun j hj => (h.2.2 j hj).pays⟩
theorem LpOK.of {n : Nat} {M : MS} (hn : n ≤ 60) (e : mI M 39 = nI n) (hy : P_isYear (f_yearNow M)) (hv : ∀ v, P_isInvoice v M → IvOK M v) : LpOK n M := ⟨e, hy, fun j hj => hv _ ⟨nI_pos' (by omega), by
  rw [e, show (1 : Int32) = nI 1 from rfl, pk_sub (by omega)]
  exact nI_le (by omega) (by omega)⟩⟩
