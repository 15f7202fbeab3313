section XM
/-- the reference's state: numbers and rows of numbers, by the fields' places -/
abbrev MS : Type := (Nat → Int32) × (Nat → Int64) × (Nat → Nat → Int32) × (Nat → Nat → Int64)
def mI (M : MS) (j : Nat) : Int32 := M.1 j
def mJ (M : MS) (j : Nat) : Int64 := M.2.1 j
def gI (M : MS) (j : Nat) (i : Int32) : Int32 := M.2.2.1 j i.toNatClampNeg
def gJ (M : MS) (j : Nat) (i : Int32) : Int64 := M.2.2.2 j i.toNatClampNeg
def sI (M : MS) (j : Nat) (v : Int32) : MS := (fun q => if q = j then v else M.1 q, M.2)
def sJ (M : MS) (j : Nat) (v : Int64) : MS := (M.1, fun q => if q = j then v else M.2.1 q, M.2.2)
def rI (M : MS) (j : Nat) (i : Int32) (v : Int32) : MS := (M.1, M.2.1, fun q => if q = j then upd (M.2.2.1 j) i.toNatClampNeg v else M.2.2.1 q, M.2.2.2)
def rJ (M : MS) (j : Nat) (i : Int32) (v : Int64) : MS := (M.1, M.2.1, M.2.2.1, fun q => if q = j then vp_updL (M.2.2.2 j) i.toNatClampNeg v else M.2.2.2 q)
def mF (ad : Nat → Nat) (M : MS) : List Value := [.int (mI M 0), .int (mI M 1), .ref (ad 2), .int (mI M 3), .ref (ad 4), .ref (ad 5), .ref (ad 6), .ref (ad 7), .ref (ad 8), .ref (ad 9), .int (mI M 10), .ref (ad 11), .ref (ad 12), .int (mI M 13), .int (mI M 14), .ref (ad 15), .ref (ad 16), .ref (ad 17), .ref (ad 18), .ref (ad 19), .ref (ad 20), .ref (ad 21), .ref (ad 22), .ref (ad 23), .ref (ad 24), .ref (ad 25), .ref (ad 26), .ref (ad 27), .ref (ad 28), .ref (ad 29), .ref (ad 30), .ref (ad 31), .ref (ad 32), .ref (ad 33), .ref (ad 34), .ref (ad 35), .ref (ad 36), .int (mI M 37), .int (mI M 38), .int (mI M 39), .ref (ad 40), .ref (ad 41), .ref (ad 42), .ref (ad 43), .ref (ad 44), .ref (ad 45), .ref (ad 46), .ref (ad 47), .ref (ad 48), .ref (ad 49), .ref (ad 50), .ref (ad 51), .ref (ad 52), .ref (ad 53), .ref (ad 54), .ref (ad 55), .ref (ad 56), .int (mI M 57), .ref (ad 58), .int (mI M 59), .ref (ad 60), .ref (ad 61), .ref (ad 62), .long (mJ M 63), .int (mI M 64), .int (mI M 65)]
def mAL : List Nat := [2, 4, 5, 6, 7, 8, 9, 11, 12, 15, 16, 17, 18, 19, 20, 21, 22, 23, 24, 25, 26, 27, 28, 29, 30, 31, 32, 33, 34, 35, 36, 40, 41, 42, 43, 44, 45, 46, 47, 48, 49, 50, 51, 52, 53, 54, 55, 56, 58, 60, 61, 62]
def mLen (j : Nat) : Nat := match j with
  | 2 => 9
  | 4 => 12
  | 5 => 12
  | 6 => 12
  | 7 => 12
  | 8 => 12
  | 9 => 12
  | 11 => 54
  | 12 => 6
  | 15 => 40
  | 16 => 40
  | 17 => 40
  | 18 => 40
  | 19 => 40
  | 20 => 40
  | 21 => 40
  | 22 => 40
  | 23 => 480
  | 24 => 40
  | 25 => 40
  | 26 => 40
  | 27 => 160
  | 28 => 160
  | 29 => 160
  | 30 => 160
  | 31 => 6
  | 32 => 6
  | 33 => 6
  | 34 => 6
  | 35 => 6
  | 36 => 3
  | 40 => 60
  | 41 => 60
  | 42 => 60
  | 43 => 60
  | 44 => 60
  | 45 => 60
  | 46 => 60
  | 47 => 60
  | 48 => 60
  | 49 => 60
  | 50 => 60
  | 51 => 60
  | 52 => 60
  | 53 => 60
  | 54 => 60
  | 55 => 60
  | 56 => 4
  | 58 => 30
  | 60 => 40
  | 61 => 40
  | 62 => 40
  | _ => 0
def mTy (j : Nat) : Nat := match j with
  | 2 => 1
  | 4 => 0
  | 5 => 0
  | 6 => 0
  | 7 => 0
  | 8 => 1
  | 9 => 1
  | 11 => 1
  | 12 => 2
  | 15 => 0
  | 16 => 0
  | 17 => 0
  | 18 => 0
  | 19 => 1
  | 20 => 0
  | 21 => 0
  | 22 => 1
  | 23 => 0
  | 24 => 0
  | 25 => 0
  | 26 => 0
  | 27 => 2
  | 28 => 0
  | 29 => 0
  | 30 => 0
  | 31 => 0
  | 32 => 0
  | 33 => 0
  | 34 => 0
  | 35 => 0
  | 36 => 0
  | 40 => 0
  | 41 => 0
  | 42 => 0
  | 43 => 1
  | 44 => 0
  | 45 => 2
  | 46 => 1
  | 47 => 1
  | 48 => 1
  | 49 => 0
  | 50 => 0
  | 51 => 0
  | 52 => 2
  | 53 => 2
  | 54 => 1
  | 55 => 1
  | 56 => 0
  | 58 => 1
  | 60 => 0
  | 61 => 0
  | 62 => 2
  | _ => 3
def mCell (k : KC) (M : MS) (j : Nat) : va_E := match mTy j with
  | 0 => .inl (k.2.1, mLen j, .inl (M.2.2.1 j))
  | 1 => .inl (k.2.2.1, mLen j, .inr (.inl (M.2.2.2 j)))
  | _ => .inl (k.2.2.2.1, mLen j, .inl (M.2.2.1 j))
def mAt (k : KC) (ad : Nat → Nat) (M : MS) : List Nat → Nat → va_E
  | [], _ => .inr (0, [])
  | j :: t, a => if a = ad j then mCell k M j else mAt k ad M t a
/-- the reference's world -/
def mW (k : KC) (mo : Nat) (ad : Nat → Nat) (M : MS) : Wd := (mo :: mAL.map ad, fun a => if a = mo then .inr (12, mF ad M) else mAt k ad M mAL a)
theorem mCell_0 {k : KC} {M : MS} {j : Nat} (h : mTy j = 0) : mCell k M j = .inl (k.2.1, mLen j, .inl (M.2.2.1 j)) := by unfold mCell; rw [h]; rfl
theorem mCell_1 {k : KC} {M : MS} {j : Nat} (h : mTy j = 1) : mCell k M j = .inl (k.2.2.1, mLen j, .inr (.inl (M.2.2.2 j))) := by unfold mCell; rw [h]; rfl
theorem mCell_2 {k : KC} {M : MS} {j : Nat} (h : mTy j = 2) : mCell k M j = .inl (k.2.2.2.1, mLen j, .inl (M.2.2.1 j)) := by unfold mCell; rw [h]; rfl
def HM (mo : Nat) (ad : Nat → Nat) : Prop := (∀ j ∈ mAL, ad j ≠ mo) ∧ ∀ i ∈ mAL, ∀ j ∈ mAL, ad i = ad j → i = j
theorem mW_mo {k : KC} {mo : Nat} {ad : Nat → Nat} {M : MS} : mo ∈ (mW k mo ad M).1 ∧ (mW k mo ad M).2 mo = .inr (12, mF ad M) := ⟨List.mem_cons_self, if_pos rfl⟩
theorem mAt_at {k : KC} {ad : Nat → Nat} {M : MS} : ∀ (Ls : List Nat) (j : Nat), j ∈ Ls → (∀ i ∈ Ls, ad i = ad j → i = j) → mAt k ad M Ls (ad j) = mCell k M j
  | [], j, h, _ => by cases h
  | i :: t, j, h, hi => by
    unfold mAt
    by_cases e : ad j = ad i
    · rw [if_pos e, hi i List.mem_cons_self e.symm]
    · rw [if_neg e]
      rcases List.mem_cons.mp h with h | h
      · exact absurd (by rw [h]) e
      · exact mAt_at t j h (fun q hq => hi q (List.mem_cons_of_mem _ hq))
theorem mW_ar {k : KC} {mo : Nat} {ad : Nat → Nat} {M : MS} (hM : HM mo ad) {j : Nat} (hj : j ∈ mAL) : ad j ∈ (mW k mo ad M).1 ∧ (mW k mo ad M).2 (ad j) = mCell k M j := by
  refine ⟨List.mem_cons_of_mem _ (List.mem_map.mpr ⟨j, hj, rfl⟩), ?_⟩
  show (if ad j = mo then _ else _) = _
  rw [if_neg (hM.1 j hj)]
  exact mAt_at mAL j hj (fun i hi => hM.2 i hi j hj)
theorem mAt_up {k : KC} {ad : Nat → Nat} {M M' : MS} {j a : Nat} {e : va_E} (he : e = mCell k M' j) (ho : ∀ i, i ≠ j → mCell k M' i = mCell k M i) : ∀ (Ls : List Nat), (j ∈ Ls ∨ a ≠ ad j) → (∀ i ∈ Ls, ad i = ad j → i = j) → (if a = ad j then e else mAt k ad M Ls a) = mAt k ad M' Ls a
  | [], h, _ => by
    rcases h with h | h
    · cases h
    · rw [if_neg h]; rfl
  | i :: t, h, hi => by
    unfold mAt
    by_cases ea : a = ad j
    · by_cases ei : i = j
      · subst ei
        rw [if_pos ea, if_pos ea]
        exact he
      · have : a ≠ ad i := fun q => ei (hi i List.mem_cons_self (by rw [← q, ea]))
        rw [if_pos ea, if_neg this]
        have h9 := mAt_up (a := a) he ho t (by
          rcases h with h | h
          · rcases List.mem_cons.mp h with h | h
            · exact absurd h.symm ei
            · exact Or.inl h
          · exact Or.inr h) (fun q hq => hi q (List.mem_cons_of_mem _ hq))
        rw [if_pos ea] at h9
        exact h9
    · rw [if_neg ea]
      by_cases e2 : a = ad i
      · rw [if_pos e2, if_pos e2]
        exact (ho i (fun q => ea (by rw [e2, q]))).symm
      · rw [if_neg e2, if_neg e2]
        have h9 := mAt_up (a := a) he ho t (Or.inr ea) (fun q hq => hi q (List.mem_cons_of_mem _ hq))
        rw [if_neg ea] at h9
        exact h9
theorem mW_up {k : KC} {mo : Nat} {ad : Nat → Nat} {M M' : MS} (hM : HM mo ad) {j : Nat} (hj : j ∈ mAL) {e : va_E} (he : e = mCell k M' j) (ho : ∀ i, i ≠ j → mCell k M' i = mCell k M i) (hf : mF ad M' = mF ad M) : ((mW k mo ad M).1, va_up (mW k mo ad M).2 (ad j) e) = mW k mo ad M' := by
  refine Prod.ext rfl (funext fun a => ?_)
  show (if a = ad j then e else if a = mo then _ else _) = (if a = mo then _ else _)
  by_cases h : a = mo
  · rw [if_pos h, if_pos h, if_neg (fun q => hM.1 j hj (by rw [← q, h])), hf]
  · rw [if_neg h, if_neg h]
    exact mAt_up he ho mAL (Or.inl hj) (fun i hi => hM.2 i hi j hj)
theorem mW_put {k : KC} {mo : Nat} {ad : Nat → Nat} {M M' : MS} {fs : List Value} (hf : fs = mF ad M') (ho : ∀ i, mCell k M' i = mCell k M i) : ((mW k mo ad M).1, va_up (mW k mo ad M).2 mo (.inr (12, fs))) = mW k mo ad M' := by
  refine Prod.ext rfl (funext fun a => ?_)
  show (if a = mo then _ else if a = mo then _ else _) = (if a = mo then _ else _)
  by_cases h : a = mo
  · rw [if_pos h, if_pos h, hf]
  · rw [if_neg h, if_neg h, if_neg h]
    have : ∀ Ls, mAt k ad M Ls a = mAt k ad M' Ls a := by
      intro Ls
      induction Ls with
      | nil => rfl
      | cons i t ih => unfold mAt; rw [ih, ho i]
    exact this mAL
theorem mS_0 {ad : Nat → Nat} {M : MS} {v : Int32} : (mF ad M).set 0 (.int v) = mF ad (sI M 0 v) := rfl
theorem mS_1 {ad : Nat → Nat} {M : MS} {v : Int32} : (mF ad M).set 1 (.int v) = mF ad (sI M 1 v) := rfl
theorem mS_3 {ad : Nat → Nat} {M : MS} {v : Int32} : (mF ad M).set 3 (.int v) = mF ad (sI M 3 v) := rfl
theorem mS_10 {ad : Nat → Nat} {M : MS} {v : Int32} : (mF ad M).set 10 (.int v) = mF ad (sI M 10 v) := rfl
theorem mS_13 {ad : Nat → Nat} {M : MS} {v : Int32} : (mF ad M).set 13 (.int v) = mF ad (sI M 13 v) := rfl
theorem mS_14 {ad : Nat → Nat} {M : MS} {v : Int32} : (mF ad M).set 14 (.int v) = mF ad (sI M 14 v) := rfl
theorem mS_37 {ad : Nat → Nat} {M : MS} {v : Int32} : (mF ad M).set 37 (.int v) = mF ad (sI M 37 v) := rfl
theorem mS_38 {ad : Nat → Nat} {M : MS} {v : Int32} : (mF ad M).set 38 (.int v) = mF ad (sI M 38 v) := rfl
theorem mS_39 {ad : Nat → Nat} {M : MS} {v : Int32} : (mF ad M).set 39 (.int v) = mF ad (sI M 39 v) := rfl
theorem mS_57 {ad : Nat → Nat} {M : MS} {v : Int32} : (mF ad M).set 57 (.int v) = mF ad (sI M 57 v) := rfl
theorem mS_59 {ad : Nat → Nat} {M : MS} {v : Int32} : (mF ad M).set 59 (.int v) = mF ad (sI M 59 v) := rfl
theorem mS_63 {ad : Nat → Nat} {M : MS} {v : Int64} : (mF ad M).set 63 (.long v) = mF ad (sJ M 63 v) := rfl
theorem mS_64 {ad : Nat → Nat} {M : MS} {v : Int32} : (mF ad M).set 64 (.int v) = mF ad (sI M 64 v) := rfl
theorem mS_65 {ad : Nat → Nat} {M : MS} {v : Int32} : (mF ad M).set 65 (.int v) = mF ad (sI M 65 v) := rfl
theorem ic_m1 : Int32.ofInt (-1) = (-1) := by decide
theorem ic_0 : Int32.ofInt (0) = 0 := by decide
theorem ic_1 : Int32.ofInt (1) = 1 := by decide
theorem ic_2 : Int32.ofInt (2) = 2 := by decide
theorem ic_3 : Int32.ofInt (3) = 3 := by decide
theorem ic_4 : Int32.ofInt (4) = 4 := by decide
theorem ic_5 : Int32.ofInt (5) = 5 := by decide
theorem bp_m99 : (Int8.ofInt (-99)).toInt32 = (-99) := by decide
theorem bp_6 : (Int8.ofInt (6)).toInt32 = 6 := by decide
theorem bp_7 : (Int8.ofInt (7)).toInt32 = 7 := by decide
theorem bp_8 : (Int8.ofInt (8)).toInt32 = 8 := by decide
theorem bp_9 : (Int8.ofInt (9)).toInt32 = 9 := by decide
theorem bp_10 : (Int8.ofInt (10)).toInt32 = 10 := by decide
theorem bp_12 : (Int8.ofInt (12)).toInt32 = 12 := by decide
theorem bp_16 : (Int8.ofInt (16)).toInt32 = 16 := by decide
theorem bp_20 : (Int8.ofInt (20)).toInt32 = 20 := by decide
theorem bp_30 : (Int8.ofInt (30)).toInt32 = 30 := by decide
theorem bp_40 : (Int8.ofInt (40)).toInt32 = 40 := by decide
theorem bp_54 : (Int8.ofInt (54)).toInt32 = 54 := by decide
theorem bp_60 : (Int8.ofInt (60)).toInt32 = 60 := by decide
theorem bp_63 : (Int8.ofInt (63)).toInt32 = 63 := by decide
theorem bp_90 : (Int8.ofInt (90)).toInt32 = 90 := by decide
theorem bp_99 : (Int8.ofInt (99)).toInt32 = 99 := by decide
theorem bp_100 : (Int8.ofInt (100)).toInt32 = 100 := by decide
theorem sp_160 : (Int16.ofInt (160)).toInt32 = 160 := by decide
theorem sp_360 : (Int16.ofInt (360)).toInt32 = 360 := by decide
theorem sp_480 : (Int16.ofInt (480)).toInt32 = 480 := by decide
theorem sp_1000 : (Int16.ofInt (1000)).toInt32 = 1000 := by decide
theorem sp_1079 : (Int16.ofInt (1079)).toInt32 = 1079 := by decide
theorem sp_2000 : (Int16.ofInt (2000)).toInt32 = 2000 := by decide
theorem sp_5000 : (Int16.ofInt (5000)).toInt32 = 5000 := by decide
theorem sp_10000 : (Int16.ofInt (10000)).toInt32 = 10000 := by decide
theorem lc_0 : Int64.ofNat ((0 : Fin 2) : Nat) = 0 := by decide
theorem lc_1 : Int64.ofNat ((1 : Fin 2) : Nat) = 1 := by decide
theorem mI_sIs {M : MS} {j : Nat} {v : Int32} : mI (sI M j v) j = v := if_pos rfl
theorem mI_sIn {M : MS} {a j : Nat} {v : Int32} (h : (j == a) = false) : mI (sI M a v) j = mI M j := if_neg (fun e => by rw [e, beq_self_eq_true] at h; cases h)
theorem mI_sJ {M : MS} {a j : Nat} {v : Int64} : mI (sJ M a v) j = mI M j := rfl
theorem mI_rI {M : MS} {a j : Nat} {i v : Int32} : mI (rI M a i v) j = mI M j := rfl
theorem mI_rJ {M : MS} {a j : Nat} {i : Int32} {v : Int64} : mI (rJ M a i v) j = mI M j := rfl
theorem mJ_sJs {M : MS} {j : Nat} {v : Int64} : mJ (sJ M j v) j = v := if_pos rfl
theorem mJ_sJn {M : MS} {a j : Nat} {v : Int64} (h : (j == a) = false) : mJ (sJ M a v) j = mJ M j := if_neg (fun e => by rw [e, beq_self_eq_true] at h; cases h)
theorem mJ_sI {M : MS} {a j : Nat} {v : Int32} : mJ (sI M a v) j = mJ M j := rfl
theorem mJ_rI {M : MS} {a j : Nat} {i v : Int32} : mJ (rI M a i v) j = mJ M j := rfl
theorem mJ_rJ {M : MS} {a j : Nat} {i : Int32} {v : Int64} : mJ (rJ M a i v) j = mJ M j := rfl
theorem gI_sI {M : MS} {a j : Nat} {x v : Int32} : gI (sI M a v) j x = gI M j x := rfl
theorem gI_sJ {M : MS} {a j : Nat} {x : Int32} {v : Int64} : gI (sJ M a v) j x = gI M j x := rfl
theorem gI_rJ {M : MS} {a j : Nat} {x i : Int32} {v : Int64} : gI (rJ M a i v) j x = gI M j x := rfl
theorem gI_rIn {M : MS} {a j : Nat} {x i v : Int32} (h : (j == a) = false) : gI (rI M a i v) j x = gI M j x := by
  have h1 : j ≠ a := fun e => by rw [e, beq_self_eq_true] at h; cases h
  simp [gI, rI, h1]
theorem gI_rIs {M : MS} {j : Nat} {i v : Int32} : gI (rI M j i v) j i = v := by simp [gI, rI, upd]
theorem gI_rIc {M : MS} {j : Nat} {i x v : Int32} (h : (x.toNatClampNeg == i.toNatClampNeg) = false) : gI (rI M j i v) j x = gI M j x := by
  have h1 : x.toNatClampNeg ≠ i.toNatClampNeg := fun e => by rw [e, beq_self_eq_true] at h; cases h
  simp [gI, rI, upd, h1]
theorem gJ_sI {M : MS} {a j : Nat} {x v : Int32} : gJ (sI M a v) j x = gJ M j x := rfl
theorem gJ_sJ {M : MS} {a j : Nat} {x : Int32} {v : Int64} : gJ (sJ M a v) j x = gJ M j x := rfl
theorem gJ_rI {M : MS} {a j : Nat} {x i v : Int32} : gJ (rI M a i v) j x = gJ M j x := rfl
theorem gJ_rJn {M : MS} {a j : Nat} {x i : Int32} {v : Int64} (h : (j == a) = false) : gJ (rJ M a i v) j x = gJ M j x := by
  have h1 : j ≠ a := fun e => by rw [e, beq_self_eq_true] at h; cases h
  simp [gJ, rJ, h1]
theorem gJ_rJs {M : MS} {j : Nat} {i : Int32} {v : Int64} : gJ (rJ M j i v) j i = v := by simp [gJ, rJ, vp_updL]
theorem gJ_rJc {M : MS} {j : Nat} {i x : Int32} {v : Int64} (h : (x.toNatClampNeg == i.toNatClampNeg) = false) : gJ (rJ M j i v) j x = gJ M j x := by
  have h1 : x.toNatClampNeg ≠ i.toNatClampNeg := fun e => by rw [e, beq_self_eq_true] at h; cases h
  simp [gJ, rJ, vp_updL, h1]
def gF (idx j : Nat) : Prop := j < 66 ∧ Cond.fieldLink RX11 idx RX11 (TX11 j).2.1 (TX11 j).2.2.1 ∈ TB ∧ (TX11 j).1 = RX11
def pFI (idx j : Nat) : Prop := gF idx j ∧ (TX11 j).2.2.2 = false ∧ tyX11 j = .int
def pFJ (idx j : Nat) : Prop := gF idx j ∧ (TX11 j).2.2.2 = false ∧ tyX11 j = .long
def aF (j t n : Nat) : Prop := j ∈ mAL ∧ mTy j = t ∧ mLen j = n
theorem vin_lit {x : Int32} {N : Nat} (h : 0 ≤ x.toInt ∧ x.toInt < N) : vp_in x N := vp_in_iff.mpr h
theorem a_2 : aF 2 1 9 := ⟨by decide, rfl, rfl⟩
theorem a_4 : aF 4 0 12 := ⟨by decide, rfl, rfl⟩
theorem a_5 : aF 5 0 12 := ⟨by decide, rfl, rfl⟩
theorem a_6 : aF 6 0 12 := ⟨by decide, rfl, rfl⟩
theorem a_7 : aF 7 0 12 := ⟨by decide, rfl, rfl⟩
theorem a_8 : aF 8 1 12 := ⟨by decide, rfl, rfl⟩
theorem a_9 : aF 9 1 12 := ⟨by decide, rfl, rfl⟩
theorem a_11 : aF 11 1 54 := ⟨by decide, rfl, rfl⟩
theorem a_12 : aF 12 2 6 := ⟨by decide, rfl, rfl⟩
theorem a_15 : aF 15 0 40 := ⟨by decide, rfl, rfl⟩
theorem a_16 : aF 16 0 40 := ⟨by decide, rfl, rfl⟩
theorem a_17 : aF 17 0 40 := ⟨by decide, rfl, rfl⟩
theorem a_18 : aF 18 0 40 := ⟨by decide, rfl, rfl⟩
theorem a_19 : aF 19 1 40 := ⟨by decide, rfl, rfl⟩
theorem a_20 : aF 20 0 40 := ⟨by decide, rfl, rfl⟩
theorem a_21 : aF 21 0 40 := ⟨by decide, rfl, rfl⟩
theorem a_22 : aF 22 1 40 := ⟨by decide, rfl, rfl⟩
theorem a_23 : aF 23 0 480 := ⟨by decide, rfl, rfl⟩
theorem a_24 : aF 24 0 40 := ⟨by decide, rfl, rfl⟩
theorem a_25 : aF 25 0 40 := ⟨by decide, rfl, rfl⟩
theorem a_26 : aF 26 0 40 := ⟨by decide, rfl, rfl⟩
theorem a_27 : aF 27 2 160 := ⟨by decide, rfl, rfl⟩
theorem a_28 : aF 28 0 160 := ⟨by decide, rfl, rfl⟩
theorem a_29 : aF 29 0 160 := ⟨by decide, rfl, rfl⟩
theorem a_30 : aF 30 0 160 := ⟨by decide, rfl, rfl⟩
theorem a_31 : aF 31 0 6 := ⟨by decide, rfl, rfl⟩
theorem a_32 : aF 32 0 6 := ⟨by decide, rfl, rfl⟩
theorem a_33 : aF 33 0 6 := ⟨by decide, rfl, rfl⟩
theorem a_34 : aF 34 0 6 := ⟨by decide, rfl, rfl⟩
theorem a_35 : aF 35 0 6 := ⟨by decide, rfl, rfl⟩
theorem a_36 : aF 36 0 3 := ⟨by decide, rfl, rfl⟩
theorem a_40 : aF 40 0 60 := ⟨by decide, rfl, rfl⟩
theorem a_41 : aF 41 0 60 := ⟨by decide, rfl, rfl⟩
theorem a_42 : aF 42 0 60 := ⟨by decide, rfl, rfl⟩
theorem a_43 : aF 43 1 60 := ⟨by decide, rfl, rfl⟩
theorem a_44 : aF 44 0 60 := ⟨by decide, rfl, rfl⟩
theorem a_45 : aF 45 2 60 := ⟨by decide, rfl, rfl⟩
theorem a_46 : aF 46 1 60 := ⟨by decide, rfl, rfl⟩
theorem a_47 : aF 47 1 60 := ⟨by decide, rfl, rfl⟩
theorem a_48 : aF 48 1 60 := ⟨by decide, rfl, rfl⟩
theorem a_49 : aF 49 0 60 := ⟨by decide, rfl, rfl⟩
theorem a_50 : aF 50 0 60 := ⟨by decide, rfl, rfl⟩
theorem a_51 : aF 51 0 60 := ⟨by decide, rfl, rfl⟩
theorem a_52 : aF 52 2 60 := ⟨by decide, rfl, rfl⟩
theorem a_53 : aF 53 2 60 := ⟨by decide, rfl, rfl⟩
theorem a_54 : aF 54 1 60 := ⟨by decide, rfl, rfl⟩
theorem a_55 : aF 55 1 60 := ⟨by decide, rfl, rfl⟩
theorem a_56 : aF 56 0 4 := ⟨by decide, rfl, rfl⟩
theorem a_58 : aF 58 1 30 := ⟨by decide, rfl, rfl⟩
theorem a_60 : aF 60 0 40 := ⟨by decide, rfl, rfl⟩
theorem a_61 : aF 61 0 40 := ⟨by decide, rfl, rfl⟩
theorem a_62 : aF 62 2 40 := ⟨by decide, rfl, rfl⟩
theorem mG_0 {ad : Nat → Nat} {M : MS} : (mF ad M)[0]? = some (.int (mI M 0)) := rfl
theorem g_175 : gF 175 0 := ⟨by decide, q_fl_X11_175, rfl⟩
theorem p_175 : pFI 175 0 := ⟨g_175, rfl, rfl⟩
theorem mG_1 {ad : Nat → Nat} {M : MS} : (mF ad M)[1]? = some (.int (mI M 1)) := rfl
theorem g_195 : gF 195 1 := ⟨by decide, q_fl_X11_195, rfl⟩
theorem p_195 : pFI 195 1 := ⟨g_195, rfl, rfl⟩
theorem mG_2 {ad : Nat → Nat} {M : MS} : (mF ad M)[2]? = some (.ref (ad 2)) := rfl
theorem g_7 : gF 7 2 := ⟨by decide, q_fl_X11_7, rfl⟩
theorem mG_3 {ad : Nat → Nat} {M : MS} : (mF ad M)[3]? = some (.int (mI M 3)) := rfl
theorem g_178 : gF 178 3 := ⟨by decide, q_fl_X11_178, rfl⟩
theorem p_178 : pFI 178 3 := ⟨g_178, rfl, rfl⟩
theorem mG_4 {ad : Nat → Nat} {M : MS} : (mF ad M)[4]? = some (.ref (ad 4)) := rfl
theorem g_13 : gF 13 4 := ⟨by decide, q_fl_X11_13, rfl⟩
theorem mG_5 {ad : Nat → Nat} {M : MS} : (mF ad M)[5]? = some (.ref (ad 5)) := rfl
theorem g_17 : gF 17 5 := ⟨by decide, q_fl_X11_17, rfl⟩
theorem mG_6 {ad : Nat → Nat} {M : MS} : (mF ad M)[6]? = some (.ref (ad 6)) := rfl
theorem g_20 : gF 20 6 := ⟨by decide, q_fl_X11_20, rfl⟩
theorem mG_7 {ad : Nat → Nat} {M : MS} : (mF ad M)[7]? = some (.ref (ad 7)) := rfl
theorem g_23 : gF 23 7 := ⟨by decide, q_fl_X11_23, rfl⟩
theorem mG_8 {ad : Nat → Nat} {M : MS} : (mF ad M)[8]? = some (.ref (ad 8)) := rfl
theorem g_26 : gF 26 8 := ⟨by decide, q_fl_X11_26, rfl⟩
theorem mG_9 {ad : Nat → Nat} {M : MS} : (mF ad M)[9]? = some (.ref (ad 9)) := rfl
theorem g_29 : gF 29 9 := ⟨by decide, q_fl_X11_29, rfl⟩
theorem mG_10 {ad : Nat → Nat} {M : MS} : (mF ad M)[10]? = some (.int (mI M 10)) := rfl
theorem g_213 : gF 213 10 := ⟨by decide, q_fl_X11_213, rfl⟩
theorem p_213 : pFI 213 10 := ⟨g_213, rfl, rfl⟩
theorem mG_11 {ad : Nat → Nat} {M : MS} : (mF ad M)[11]? = some (.ref (ad 11)) := rfl
theorem g_32 : gF 32 11 := ⟨by decide, q_fl_X11_32, rfl⟩
theorem mG_12 {ad : Nat → Nat} {M : MS} : (mF ad M)[12]? = some (.ref (ad 12)) := rfl
theorem g_35 : gF 35 12 := ⟨by decide, q_fl_X11_35, rfl⟩
theorem mG_13 {ad : Nat → Nat} {M : MS} : (mF ad M)[13]? = some (.int (mI M 13)) := rfl
theorem g_223 : gF 223 13 := ⟨by decide, q_fl_X11_223, rfl⟩
theorem p_223 : pFI 223 13 := ⟨g_223, rfl, rfl⟩
theorem mG_14 {ad : Nat → Nat} {M : MS} : (mF ad M)[14]? = some (.int (mI M 14)) := rfl
theorem g_185 : gF 185 14 := ⟨by decide, q_fl_X11_185, rfl⟩
theorem p_185 : pFI 185 14 := ⟨g_185, rfl, rfl⟩
theorem mG_15 {ad : Nat → Nat} {M : MS} : (mF ad M)[15]? = some (.ref (ad 15)) := rfl
theorem g_39 : gF 39 15 := ⟨by decide, q_fl_X11_39, rfl⟩
theorem mG_16 {ad : Nat → Nat} {M : MS} : (mF ad M)[16]? = some (.ref (ad 16)) := rfl
theorem g_42 : gF 42 16 := ⟨by decide, q_fl_X11_42, rfl⟩
theorem mG_17 {ad : Nat → Nat} {M : MS} : (mF ad M)[17]? = some (.ref (ad 17)) := rfl
theorem g_45 : gF 45 17 := ⟨by decide, q_fl_X11_45, rfl⟩
theorem mG_18 {ad : Nat → Nat} {M : MS} : (mF ad M)[18]? = some (.ref (ad 18)) := rfl
theorem g_48 : gF 48 18 := ⟨by decide, q_fl_X11_48, rfl⟩
theorem mG_19 {ad : Nat → Nat} {M : MS} : (mF ad M)[19]? = some (.ref (ad 19)) := rfl
theorem g_51 : gF 51 19 := ⟨by decide, q_fl_X11_51, rfl⟩
theorem mG_20 {ad : Nat → Nat} {M : MS} : (mF ad M)[20]? = some (.ref (ad 20)) := rfl
theorem g_54 : gF 54 20 := ⟨by decide, q_fl_X11_54, rfl⟩
theorem mG_21 {ad : Nat → Nat} {M : MS} : (mF ad M)[21]? = some (.ref (ad 21)) := rfl
theorem g_57 : gF 57 21 := ⟨by decide, q_fl_X11_57, rfl⟩
theorem mG_22 {ad : Nat → Nat} {M : MS} : (mF ad M)[22]? = some (.ref (ad 22)) := rfl
theorem g_60 : gF 60 22 := ⟨by decide, q_fl_X11_60, rfl⟩
theorem mG_23 {ad : Nat → Nat} {M : MS} : (mF ad M)[23]? = some (.ref (ad 23)) := rfl
theorem g_63 : gF 63 23 := ⟨by decide, q_fl_X11_63, rfl⟩
theorem mG_24 {ad : Nat → Nat} {M : MS} : (mF ad M)[24]? = some (.ref (ad 24)) := rfl
theorem g_66 : gF 66 24 := ⟨by decide, q_fl_X11_66, rfl⟩
theorem mG_25 {ad : Nat → Nat} {M : MS} : (mF ad M)[25]? = some (.ref (ad 25)) := rfl
theorem g_69 : gF 69 25 := ⟨by decide, q_fl_X11_69, rfl⟩
theorem mG_26 {ad : Nat → Nat} {M : MS} : (mF ad M)[26]? = some (.ref (ad 26)) := rfl
theorem g_72 : gF 72 26 := ⟨by decide, q_fl_X11_72, rfl⟩
theorem mG_27 {ad : Nat → Nat} {M : MS} : (mF ad M)[27]? = some (.ref (ad 27)) := rfl
theorem g_75 : gF 75 27 := ⟨by decide, q_fl_X11_75, rfl⟩
theorem mG_28 {ad : Nat → Nat} {M : MS} : (mF ad M)[28]? = some (.ref (ad 28)) := rfl
theorem g_78 : gF 78 28 := ⟨by decide, q_fl_X11_78, rfl⟩
theorem mG_29 {ad : Nat → Nat} {M : MS} : (mF ad M)[29]? = some (.ref (ad 29)) := rfl
theorem g_81 : gF 81 29 := ⟨by decide, q_fl_X11_81, rfl⟩
theorem mG_30 {ad : Nat → Nat} {M : MS} : (mF ad M)[30]? = some (.ref (ad 30)) := rfl
theorem g_84 : gF 84 30 := ⟨by decide, q_fl_X11_84, rfl⟩
theorem mG_31 {ad : Nat → Nat} {M : MS} : (mF ad M)[31]? = some (.ref (ad 31)) := rfl
theorem g_87 : gF 87 31 := ⟨by decide, q_fl_X11_87, rfl⟩
theorem mG_32 {ad : Nat → Nat} {M : MS} : (mF ad M)[32]? = some (.ref (ad 32)) := rfl
theorem g_90 : gF 90 32 := ⟨by decide, q_fl_X11_90, rfl⟩
theorem mG_33 {ad : Nat → Nat} {M : MS} : (mF ad M)[33]? = some (.ref (ad 33)) := rfl
theorem g_93 : gF 93 33 := ⟨by decide, q_fl_X11_93, rfl⟩
theorem mG_34 {ad : Nat → Nat} {M : MS} : (mF ad M)[34]? = some (.ref (ad 34)) := rfl
theorem g_96 : gF 96 34 := ⟨by decide, q_fl_X11_96, rfl⟩
theorem mG_35 {ad : Nat → Nat} {M : MS} : (mF ad M)[35]? = some (.ref (ad 35)) := rfl
theorem g_99 : gF 99 35 := ⟨by decide, q_fl_X11_99, rfl⟩
theorem mG_36 {ad : Nat → Nat} {M : MS} : (mF ad M)[36]? = some (.ref (ad 36)) := rfl
theorem g_102 : gF 102 36 := ⟨by decide, q_fl_X11_102, rfl⟩
theorem mG_37 {ad : Nat → Nat} {M : MS} : (mF ad M)[37]? = some (.int (mI M 37)) := rfl
theorem g_105 : gF 105 37 := ⟨by decide, q_fl_X11_105, rfl⟩
theorem p_105 : pFI 105 37 := ⟨g_105, rfl, rfl⟩
theorem mG_38 {ad : Nat → Nat} {M : MS} : (mF ad M)[38]? = some (.int (mI M 38)) := rfl
theorem g_109 : gF 109 38 := ⟨by decide, q_fl_X11_109, rfl⟩
theorem p_109 : pFI 109 38 := ⟨g_109, rfl, rfl⟩
theorem mG_39 {ad : Nat → Nat} {M : MS} : (mF ad M)[39]? = some (.int (mI M 39)) := rfl
theorem g_192 : gF 192 39 := ⟨by decide, q_fl_X11_192, rfl⟩
theorem p_192 : pFI 192 39 := ⟨g_192, rfl, rfl⟩
theorem mG_40 {ad : Nat → Nat} {M : MS} : (mF ad M)[40]? = some (.ref (ad 40)) := rfl
theorem g_112 : gF 112 40 := ⟨by decide, q_fl_X11_112, rfl⟩
theorem mG_41 {ad : Nat → Nat} {M : MS} : (mF ad M)[41]? = some (.ref (ad 41)) := rfl
theorem g_115 : gF 115 41 := ⟨by decide, q_fl_X11_115, rfl⟩
theorem mG_42 {ad : Nat → Nat} {M : MS} : (mF ad M)[42]? = some (.ref (ad 42)) := rfl
theorem g_118 : gF 118 42 := ⟨by decide, q_fl_X11_118, rfl⟩
theorem mG_43 {ad : Nat → Nat} {M : MS} : (mF ad M)[43]? = some (.ref (ad 43)) := rfl
theorem g_121 : gF 121 43 := ⟨by decide, q_fl_X11_121, rfl⟩
theorem mG_44 {ad : Nat → Nat} {M : MS} : (mF ad M)[44]? = some (.ref (ad 44)) := rfl
theorem g_124 : gF 124 44 := ⟨by decide, q_fl_X11_124, rfl⟩
theorem mG_45 {ad : Nat → Nat} {M : MS} : (mF ad M)[45]? = some (.ref (ad 45)) := rfl
theorem g_127 : gF 127 45 := ⟨by decide, q_fl_X11_127, rfl⟩
theorem mG_46 {ad : Nat → Nat} {M : MS} : (mF ad M)[46]? = some (.ref (ad 46)) := rfl
theorem g_130 : gF 130 46 := ⟨by decide, q_fl_X11_130, rfl⟩
theorem mG_47 {ad : Nat → Nat} {M : MS} : (mF ad M)[47]? = some (.ref (ad 47)) := rfl
theorem g_133 : gF 133 47 := ⟨by decide, q_fl_X11_133, rfl⟩
theorem mG_48 {ad : Nat → Nat} {M : MS} : (mF ad M)[48]? = some (.ref (ad 48)) := rfl
theorem g_136 : gF 136 48 := ⟨by decide, q_fl_X11_136, rfl⟩
theorem mG_49 {ad : Nat → Nat} {M : MS} : (mF ad M)[49]? = some (.ref (ad 49)) := rfl
theorem g_139 : gF 139 49 := ⟨by decide, q_fl_X11_139, rfl⟩
theorem mG_50 {ad : Nat → Nat} {M : MS} : (mF ad M)[50]? = some (.ref (ad 50)) := rfl
theorem g_142 : gF 142 50 := ⟨by decide, q_fl_X11_142, rfl⟩
theorem mG_51 {ad : Nat → Nat} {M : MS} : (mF ad M)[51]? = some (.ref (ad 51)) := rfl
theorem g_145 : gF 145 51 := ⟨by decide, q_fl_X11_145, rfl⟩
theorem mG_52 {ad : Nat → Nat} {M : MS} : (mF ad M)[52]? = some (.ref (ad 52)) := rfl
theorem g_148 : gF 148 52 := ⟨by decide, q_fl_X11_148, rfl⟩
theorem mG_53 {ad : Nat → Nat} {M : MS} : (mF ad M)[53]? = some (.ref (ad 53)) := rfl
theorem g_151 : gF 151 53 := ⟨by decide, q_fl_X11_151, rfl⟩
theorem mG_54 {ad : Nat → Nat} {M : MS} : (mF ad M)[54]? = some (.ref (ad 54)) := rfl
theorem g_154 : gF 154 54 := ⟨by decide, q_fl_X11_154, rfl⟩
theorem mG_55 {ad : Nat → Nat} {M : MS} : (mF ad M)[55]? = some (.ref (ad 55)) := rfl
theorem g_157 : gF 157 55 := ⟨by decide, q_fl_X11_157, rfl⟩
theorem mG_56 {ad : Nat → Nat} {M : MS} : (mF ad M)[56]? = some (.ref (ad 56)) := rfl
theorem g_160 : gF 160 56 := ⟨by decide, q_fl_X11_160, rfl⟩
theorem mG_57 {ad : Nat → Nat} {M : MS} : (mF ad M)[57]? = some (.int (mI M 57)) := rfl
theorem g_319 : gF 319 57 := ⟨by decide, q_fl_X11_319, rfl⟩
theorem p_319 : pFI 319 57 := ⟨g_319, rfl, rfl⟩
theorem mG_58 {ad : Nat → Nat} {M : MS} : (mF ad M)[58]? = some (.ref (ad 58)) := rfl
theorem g_163 : gF 163 58 := ⟨by decide, q_fl_X11_163, rfl⟩
theorem mG_59 {ad : Nat → Nat} {M : MS} : (mF ad M)[59]? = some (.int (mI M 59)) := rfl
theorem g_323 : gF 323 59 := ⟨by decide, q_fl_X11_323, rfl⟩
theorem p_323 : pFI 323 59 := ⟨g_323, rfl, rfl⟩
theorem mG_60 {ad : Nat → Nat} {M : MS} : (mF ad M)[60]? = some (.ref (ad 60)) := rfl
theorem g_166 : gF 166 60 := ⟨by decide, q_fl_X11_166, rfl⟩
theorem mG_61 {ad : Nat → Nat} {M : MS} : (mF ad M)[61]? = some (.ref (ad 61)) := rfl
theorem g_169 : gF 169 61 := ⟨by decide, q_fl_X11_169, rfl⟩
theorem mG_62 {ad : Nat → Nat} {M : MS} : (mF ad M)[62]? = some (.ref (ad 62)) := rfl
theorem g_172 : gF 172 62 := ⟨by decide, q_fl_X11_172, rfl⟩
theorem mG_63 {ad : Nat → Nat} {M : MS} : (mF ad M)[63]? = some (.long (mJ M 63)) := rfl
theorem g_326 : gF 326 63 := ⟨by decide, q_fl_X11_326, rfl⟩
theorem p_326 : pFJ 326 63 := ⟨g_326, rfl, rfl⟩
theorem mG_64 {ad : Nat → Nat} {M : MS} : (mF ad M)[64]? = some (.int (mI M 64)) := rfl
theorem g_330 : gF 330 64 := ⟨by decide, q_fl_X11_330, rfl⟩
theorem p_330 : pFI 330 64 := ⟨g_330, rfl, rfl⟩
theorem mG_65 {ad : Nat → Nat} {M : MS} : (mF ad M)[65]? = some (.int (mI M 65)) := rfl
theorem g_333 : gF 333 65 := ⟨by decide, q_fl_X11_333, rfl⟩
theorem p_333 : pFI 333 65 := ⟨g_333, rfl, rfl⟩
theorem vk9_0 : vp_in (0 : Int32) 9 := vin_lit (by decide)
theorem vk9_1 : vp_in (1 : Int32) 9 := vin_lit (by decide)
theorem vk9_2 : vp_in (2 : Int32) 9 := vin_lit (by decide)
theorem vk9_3 : vp_in (3 : Int32) 9 := vin_lit (by decide)
theorem vk9_4 : vp_in (4 : Int32) 9 := vin_lit (by decide)
theorem vk9_5 : vp_in (5 : Int32) 9 := vin_lit (by decide)
theorem vk9_6 : vp_in (6 : Int32) 9 := vin_lit (by decide)
theorem vk9_7 : vp_in (7 : Int32) 9 := vin_lit (by decide)
theorem vk9_8 : vp_in (8 : Int32) 9 := vin_lit (by decide)
variable {p : Program} {l : Launch} {e : Env} {R : Room} {s : State} {m : MethodId} {args : Array Value} {below : List Frame} {meth : Method} {c : Code}
variable {k : KC} {A : Nat → Prop} {nL : Nat} {Q : State → Prop} {bc bs pc : Nat} {L : List (Option Value)} {st : List Value} {own : String} {cc : ByteArray} {ret : Option FieldType} {mo : Nat} {ad : Nat → Nat} {M : MS}
theorem y_gI (G : GX p l R s m args meth c k A RX11 cc nL ret) {j idx : Nat} {v : Int32} (hg : gF idx j) (hm : (mF ad M)[j]? = some (.int (mI M j))) (hv : mI M j = v) (d : decode cc pc = .ok (.getfield idx, 3)) (kk : Wx p l e R s m args below meth c k A nL Q bc bs (pc + 3) L (.int v :: st) (mW k mo ad M)) : Wx p l e R s m args below meth c k A nL Q bc bs pc L (.ref mo :: st) (mW k mo ad M) := by
  subst hv
  exact x_getf G mW_mo.1 mW_mo.2 (C := RX11) (T := TX11) (N := 66) rfl i_X11 hg.1 hg.2.1 (by rw [hg.2.2]; exact fun _ h => h) hm d kk
theorem y_gJ (G : GX p l R s m args meth c k A RX11 cc nL ret) {j idx : Nat} {v : Int64} (hg : gF idx j) (hm : (mF ad M)[j]? = some (.long (mJ M j))) (hv : mJ M j = v) (d : decode cc pc = .ok (.getfield idx, 3)) (kk : Wx p l e R s m args below meth c k A nL Q bc bs (pc + 3) L (.long v :: st) (mW k mo ad M)) : Wx p l e R s m args below meth c k A nL Q bc bs pc L (.ref mo :: st) (mW k mo ad M) := by
  subst hv
  exact x_getf G mW_mo.1 mW_mo.2 (C := RX11) (T := TX11) (N := 66) rfl i_X11 hg.1 hg.2.1 (by rw [hg.2.2]; exact fun _ h => h) hm d kk
theorem y_gA (G : GX p l R s m args meth c k A RX11 cc nL ret) {j idx : Nat} (hg : gF idx j) (hm : (mF ad M)[j]? = some (.ref (ad j))) (d : decode cc pc = .ok (.getfield idx, 3)) (kk : Wx p l e R s m args below meth c k A nL Q bc bs (pc + 3) L (.ref (ad j) :: st) (mW k mo ad M)) : Wx p l e R s m args below meth c k A nL Q bc bs pc L (.ref mo :: st) (mW k mo ad M) := by
  exact x_getf G mW_mo.1 mW_mo.2 (C := RX11) (T := TX11) (N := 66) rfl i_X11 hg.1 hg.2.1 (by rw [hg.2.2]; exact fun _ h => h) hm d kk
theorem y_pI (G : GX p l R s m args meth c k A RX11 cc nL ret) {j idx : Nat} {v : Int32} (hg : pFI idx j) (hs : (mF ad M).set j (.int v) = mF ad (sI M j v)) (d : decode cc pc = .ok (.putfield idx, 3)) (kk : Wx p l e R s m args below meth c k A nL Q bc bs (pc + 3) L st (mW k mo ad (sI M j v))) : Wx p l e R s m args below meth c k A nL Q bc bs pc L (.int v :: .ref mo :: st) (mW k mo ad M) := by
  refine x_putf G mW_mo.1 mW_mo.2 (C := RX11) (T := TX11) (N := 66) rfl i_X11 hg.1.1 hg.1.2.1 (by rw [hg.1.2.2]; exact fun _ h => h) tyX11 tyX11_ok nmX11 hg.2.1 (by rw [hg.2.2]; rfl) (by rw [hg.2.2]; rfl) (by show j < 66; exact hg.1.1) d ?_
  rw [mW_put (k := k) (mo := mo) (M := M) hs (fun i => rfl)]
  exact kk
theorem y_pJ (G : GX p l R s m args meth c k A RX11 cc nL ret) {j idx : Nat} {v : Int64} (hg : pFJ idx j) (hs : (mF ad M).set j (.long v) = mF ad (sJ M j v)) (d : decode cc pc = .ok (.putfield idx, 3)) (kk : Wx p l e R s m args below meth c k A nL Q bc bs (pc + 3) L st (mW k mo ad (sJ M j v))) : Wx p l e R s m args below meth c k A nL Q bc bs pc L (.long v :: .ref mo :: st) (mW k mo ad M) := by
  refine x_putf G mW_mo.1 mW_mo.2 (C := RX11) (T := TX11) (N := 66) rfl i_X11 hg.1.1 hg.1.2.1 (by rw [hg.1.2.2]; exact fun _ h => h) tyX11 tyX11_ok nmX11 hg.2.1 (by rw [hg.2.2]; rfl) (by rw [hg.2.2]; rfl) (by show j < 66; exact hg.1.1) d ?_
  rw [mW_put (k := k) (mo := mo) (M := M) hs (fun i => rfl)]
  exact kk
theorem y_iald (G : GX p l R s m args meth c k A RX11 cc nL ret) (hM : HM mo ad) {j N : Nat} {i : Int32} {v : Int32} (ha : aF j 0 N) (hi : vp_in i N) (hv : gI M j i = v) (d : decode cc pc = .ok (.iaload, 1)) (kk : Wx p l e R s m args below meth c k A nL Q bc bs (pc + 1) L (.int v :: st) (mW k mo ad M)) : Wx p l e R s m args below meth c k A nL Q bc bs pc L (.int i :: .ref (ad j) :: st) (mW k mo ad M) := by
  subst hv
  exact x_iald G (mW_ar hM ha.1).1 ((mW_ar hM ha.1).2.trans (mCell_0 ha.2.1)) (by rw [ha.2.2]; exact hi) d kk
theorem y_iast (G : GX p l R s m args meth c k A RX11 cc nL ret) (hM : HM mo ad) {j N : Nat} {i : Int32} {x : Int32} (ha : aF j 0 N) (hi : vp_in i N) (d : decode cc pc = .ok (.iastore, 1)) (kk : Wx p l e R s m args below meth c k A nL Q bc bs (pc + 1) L st (mW k mo ad (rI M j i x))) : Wx p l e R s m args below meth c k A nL Q bc bs pc L (.int x :: .int i :: .ref (ad j) :: st) (mW k mo ad M) := by
  refine x_iast G (mW_ar hM ha.1).1 ((mW_ar hM ha.1).2.trans (mCell_0 ha.2.1)) (by rw [ha.2.2]; exact hi) d ?_
  rw [mW_up (k := k) (M := M) (M' := rI M j i x) hM ha.1 (by rw [mCell_0 ha.2.1]; simp [rI]) (fun q hq => by simp [mCell, rI, hq]) rfl]
  exact kk
theorem y_lald (G : GX p l R s m args meth c k A RX11 cc nL ret) (hM : HM mo ad) {j N : Nat} {i : Int32} {v : Int64} (ha : aF j 1 N) (hi : vp_in i N) (hv : gJ M j i = v) (d : decode cc pc = .ok (.laload, 1)) (kk : Wx p l e R s m args below meth c k A nL Q bc bs (pc + 1) L (.long v :: st) (mW k mo ad M)) : Wx p l e R s m args below meth c k A nL Q bc bs pc L (.int i :: .ref (ad j) :: st) (mW k mo ad M) := by
  subst hv
  exact x_lald G (mW_ar hM ha.1).1 ((mW_ar hM ha.1).2.trans (mCell_1 ha.2.1)) (by rw [ha.2.2]; exact hi) d kk
theorem y_last (G : GX p l R s m args meth c k A RX11 cc nL ret) (hM : HM mo ad) {j N : Nat} {i : Int32} {x : Int64} (ha : aF j 1 N) (hi : vp_in i N) (d : decode cc pc = .ok (.lastore, 1)) (kk : Wx p l e R s m args below meth c k A nL Q bc bs (pc + 1) L st (mW k mo ad (rJ M j i x))) : Wx p l e R s m args below meth c k A nL Q bc bs pc L (.long x :: .int i :: .ref (ad j) :: st) (mW k mo ad M) := by
  refine x_last G (mW_ar hM ha.1).1 ((mW_ar hM ha.1).2.trans (mCell_1 ha.2.1)) (by rw [ha.2.2]; exact hi) d ?_
  rw [mW_up (k := k) (M := M) (M' := rJ M j i x) hM ha.1 (by rw [mCell_1 ha.2.1]; simp [rJ]) (fun q hq => by simp [mCell, rJ, hq]) rfl]
  exact kk
theorem y_zald (G : GX p l R s m args meth c k A RX11 cc nL ret) (hM : HM mo ad) {j N : Nat} {i : Int32} {v : Int32} (ha : aF j 2 N) (hi : vp_in i N) (hv : gI M j i = v) (d : decode cc pc = .ok (.baload, 1)) (kk : Wx p l e R s m args below meth c k A nL Q bc bs (pc + 1) L (.int v :: st) (mW k mo ad M)) : Wx p l e R s m args below meth c k A nL Q bc bs pc L (.int i :: .ref (ad j) :: st) (mW k mo ad M) := by
  subst hv
  exact x_zald G (mW_ar hM ha.1).1 ((mW_ar hM ha.1).2.trans (mCell_2 ha.2.1)) (by rw [ha.2.2]; exact hi) d kk
theorem y_zast (G : GX p l R s m args meth c k A RX11 cc nL ret) (hM : HM mo ad) {j N : Nat} {i : Int32} {x : Int32} (ha : aF j 2 N) (hi : vp_in i N) (hx : vp_nar .boolean x = x) (d : decode cc pc = .ok (.bastore, 1)) (kk : Wx p l e R s m args below meth c k A nL Q bc bs (pc + 1) L st (mW k mo ad (rI M j i x))) : Wx p l e R s m args below meth c k A nL Q bc bs pc L (.int x :: .int i :: .ref (ad j) :: st) (mW k mo ad M) := by
  refine x_zast G (mW_ar hM ha.1).1 ((mW_ar hM ha.1).2.trans (mCell_2 ha.2.1)) (by rw [ha.2.2]; exact hi) d ?_
  rw [hx]
  rw [mW_up (k := k) (M := M) (M' := rI M j i x) hM ha.1 (by rw [mCell_2 ha.2.1]; simp [rI]) (fun q hq => by simp [mCell, rI, hq]) rfl]
  exact kk
/-- a return and nothing else -/
def pR (v : Option Value) (h1 : Wd) : Out → Wd → Prop := fun o h' => o = .inl v ∧ h' = h1
def pT (E : String) (h1 : Wd) : Out → Wd → Prop := fun o h' => o = .inr E ∧ h' = h1
/-- what the tables say of an instance method, and of a static one -/
def hV (y : MethodName) (bytes : ByteArray) (maxL : Nat) (rt : Option FieldType) (n : Nat) : Prop := Cond.instanceMethod y ∈ TB ∧ Cond.selects y.cls y y ∈ TB ∧ Cond.initialized y.cls ∈ TB ∧ Cond.code y bytes maxL rt ∈ TB ∧ (y.cls ≠ "java/lang/invoke/MethodHandle" ∧ y.cls ≠ "java/lang/invoke/VarHandle" ∧ (parseMethodDescriptor y.desc).map (fun d => d.parameters.length) = some n)
def hSt (y : MethodName) (bytes : ByteArray) (maxL : Nat) (rt : Option FieldType) (n : Nat) : Prop := Cond.static y ∈ TB ∧ Cond.initialized y.cls ∈ TB ∧ Cond.code y bytes maxL rt ∈ TB ∧ (y.cls ≠ "java/lang/invoke/MethodHandle" ∧ y.cls ≠ "java/lang/invoke/VarHandle" ∧ (parseMethodDescriptor y.desc).map (fun d => d.parameters.length) = some n)
/-- a call of the reference's method on its object -/
abbrev CM (l : Launch) (k : KC) (mo : Nat) (ad : Nat → Nat) (y : MethodName) (cw : Cond) (rm : Room) (as : List Value) (M : MS) (r : Option Value) (M' : MS) : Prop := MC l k y cw rm (.ref mo :: as) (mW k mo ad M) (pR r (mW k mo ad M'))
/-- a call of a static method that reads nothing -/
abbrev CS (l : Launch) (k : KC) (y : MethodName) (cw : Cond) (rm : Room) (as : List Value) (r : Value) : Prop := ∀ h : Wd, MC l k y cw rm as h (pR (some r) h)
theorem MC.bool {l : Launch} {k : KC} {y : MethodName} {cw : Cond} {rm : Room} {av : List Value} {h h1 : Wd} {P : Prop} [Decidable P] (c : MC l k y cw rm av h (pR (some (.int (if P then 1 else 0))) h1)) : (P → MC l k y cw rm av h (pR (some (.int 1)) h1)) ∧ (¬ P → MC l k y cw rm av h (pR (some (.int 0)) h1)) :=
  ⟨fun q => by rwa [if_pos q] at c, fun q => by rwa [if_neg q] at c⟩
variable {h h1 : Wd}
theorem x_cV0 {bc1 bs1 idx maxL : Nat} {y : MethodName} {bytes : ByteArray} {rt : Option FieldType} {rm : Room} {ci b N : Nat} {T : u_T} {fs : List Value} (G : GX p l R s m args meth c k A own cc nL ret) {r : Value} (hM : MC l k y (.code y bytes maxL rt) rm (.ref b :: []) h (pR (some r) h1)) (hbm : b ∈ h.1) (hbf : h.2 b = .inr (ci, fs)) (hc : vwCl[ci]? = some (y.cls, T, N)) (hlk : Cond.methodLink own idx y ∈ TB) (hv : hV y bytes maxL rt 0) (hR : rm.frames + 1 ≤ R.frames ∧ 8 + (maxL + 11) + rm.locals ≤ R.locals) (hw8 : (st.map fun v => v.category).sum ≤ 8) (hb1 : bc1 + rm.cells ≤ bc) (hb2 : bs1 + rm.slots ≤ bs) (d : decode cc pc = .ok (.invokevirtual idx, 3)) (kk : Wx p l e R s m args below meth c k A nL Q bc1 bs1 (pc + 3) L (r :: st) h1) : Wx p l e R s m args below meth c k A nL Q bc bs pc L (.ref b :: st) h :=
  x_callV G (post := pR (some r) h1) hM hbm hbf hc hlk hv.1 hv.2.1 hv.2.2.1 hv.2.2.2.1 hv.2.2.2.2 hR hw8 hb1 hb2 rfl rfl d (fun v h9 hp => by obtain ⟨e1, rfl⟩ := hp; cases e1; exact kk) (fun E h9 hp => by obtain ⟨e1, -⟩ := hp; cases e1)
theorem x_cVv0 {bc1 bs1 idx maxL : Nat} {y : MethodName} {bytes : ByteArray} {rt : Option FieldType} {rm : Room} {ci b N : Nat} {T : u_T} {fs : List Value} (G : GX p l R s m args meth c k A own cc nL ret) (hM : MC l k y (.code y bytes maxL rt) rm (.ref b :: []) h (pR none h1)) (hbm : b ∈ h.1) (hbf : h.2 b = .inr (ci, fs)) (hc : vwCl[ci]? = some (y.cls, T, N)) (hlk : Cond.methodLink own idx y ∈ TB) (hv : hV y bytes maxL rt 0) (hR : rm.frames + 1 ≤ R.frames ∧ 8 + (maxL + 11) + rm.locals ≤ R.locals) (hw8 : (st.map fun v => v.category).sum ≤ 8) (hb1 : bc1 + rm.cells ≤ bc) (hb2 : bs1 + rm.slots ≤ bs) (d : decode cc pc = .ok (.invokevirtual idx, 3)) (kk : Wx p l e R s m args below meth c k A nL Q bc1 bs1 (pc + 3) L st h1) : Wx p l e R s m args below meth c k A nL Q bc bs pc L (.ref b :: st) h :=
  x_callV G (post := pR none h1) hM hbm hbf hc hlk hv.1 hv.2.1 hv.2.2.1 hv.2.2.2.1 hv.2.2.2.2 hR hw8 hb1 hb2 rfl rfl d (fun v h9 hp => by obtain ⟨e1, rfl⟩ := hp; cases e1; exact kk) (fun E h9 hp => by obtain ⟨e1, -⟩ := hp; cases e1)
theorem x_cVb0 {bc1 bs1 idx maxL : Nat} {y : MethodName} {bytes : ByteArray} {rt : Option FieldType} {rm : Room} {ci b N : Nat} {T : u_T} {fs : List Value} (G : GX p l R s m args meth c k A own cc nL ret) {P : Prop} [Decidable P] (hM : (P → MC l k y (.code y bytes maxL rt) rm (.ref b :: []) h (pR (some (.int 1)) h1)) ∧ (¬ P → MC l k y (.code y bytes maxL rt) rm (.ref b :: []) h (pR (some (.int 0)) h1))) (hbm : b ∈ h.1) (hbf : h.2 b = .inr (ci, fs)) (hc : vwCl[ci]? = some (y.cls, T, N)) (hlk : Cond.methodLink own idx y ∈ TB) (hv : hV y bytes maxL rt 0) (hR : rm.frames + 1 ≤ R.frames ∧ 8 + (maxL + 11) + rm.locals ≤ R.locals) (hw8 : (st.map fun v => v.category).sum ≤ 8) (hb1 : bc1 + rm.cells ≤ bc) (hb2 : bs1 + rm.slots ≤ bs) (d : decode cc pc = .ok (.invokevirtual idx, 3)) (kt : P → Wx p l e R s m args below meth c k A nL Q bc1 bs1 (pc + 3) L (.int 1 :: st) h1) (kf : ¬ P → Wx p l e R s m args below meth c k A nL Q bc1 bs1 (pc + 3) L (.int 0 :: st) h1) : Wx p l e R s m args below meth c k A nL Q bc bs pc L (.ref b :: st) h := by
  by_cases q : P
  · exact x_cV0 G (hM.1 q) hbm hbf hc hlk hv hR hw8 hb1 hb2 d (kt q)
  · exact x_cV0 G (hM.2 q) hbm hbf hc hlk hv hR hw8 hb1 hb2 d (kf q)
theorem x_cVt0 {bc1 bs1 idx maxL : Nat} {y : MethodName} {bytes : ByteArray} {rt : Option FieldType} {rm : Room} {ci b N : Nat} {T : u_T} {fs : List Value} (G : GX p l R s m args meth c k A own cc nL ret) {E : String} {h0 : Wd} {post : Out → Wd → Prop} (B : RQ below args s R k A h0 post Q) (B2 : TQ below args s R k h0 post Q) (hout : ∀ x ∈ c.exceptionTable.toList, False) (hM : MC l k y (.code y bytes maxL rt) rm (.ref b :: []) h (pT E h1)) (hbm : b ∈ h.1) (hbf : h.2 b = .inr (ci, fs)) (hc : vwCl[ci]? = some (y.cls, T, N)) (hlk : Cond.methodLink own idx y ∈ TB) (hv : hV y bytes maxL rt 0) (hR : rm.frames + 1 ≤ R.frames ∧ 8 + (maxL + 11) + rm.locals ≤ R.locals) (hw8 : (st.map fun v => v.category).sum ≤ 8) (hb1 : bc1 + rm.cells ≤ bc) (hb2 : bs1 + rm.slots ≤ bs) (d : decode cc pc = .ok (.invokevirtual idx, 3)) (hp : post (.inr E) h1) : Wx p l e R s m args below meth c k A nL Q bc bs pc L (.ref b :: st) h :=
  x_callV G (post := pT E h1) hM hbm hbf hc hlk hv.1 hv.2.1 hv.2.2.1 hv.2.2.2.1 hv.2.2.2.2 hR hw8 hb1 hb2 rfl rfl d (fun v h9 hp => by obtain ⟨e1, -⟩ := hp; cases e1) (fun E9 h9 hq => by obtain ⟨e1, rfl⟩ := hq; cases e1; exact x_out G B B2 hout hp)
theorem y_c0 {bc1 bs1 idx maxL : Nat} {y : MethodName} {bytes : ByteArray} {rt : Option FieldType} {rm : Room} {r : Value} {M1 : MS} (G : GX p l R s m args meth c k A RX11 cc nL ret) (hM : CM l k mo ad y (.code y bytes maxL rt) rm [] M (some r) M1) (hlk : Cond.methodLink RX11 idx y ∈ TB) (hv : hV y bytes maxL rt 0) (hy : y.cls = RX11) (hR : rm.frames + 1 ≤ R.frames ∧ 8 + (maxL + 11) + rm.locals ≤ R.locals) (hw8 : (st.map fun v => v.category).sum ≤ 8) (hb1 : bc1 + rm.cells ≤ bc) (hb2 : bs1 + rm.slots ≤ bs) (d : decode cc pc = .ok (.invokevirtual idx, 3)) (kk : Wx p l e R s m args below meth c k A nL Q bc1 bs1 (pc + 3) L (r :: st) (mW k mo ad M1)) : Wx p l e R s m args below meth c k A nL Q bc bs pc L (.ref mo :: st) (mW k mo ad M) :=
  x_cV0 G (N := 66) (T := TX11) hM mW_mo.1 mW_mo.2 (by rw [hy]; rfl) hlk hv hR hw8 hb1 hb2 d kk
theorem y_cv0 {bc1 bs1 idx maxL : Nat} {y : MethodName} {bytes : ByteArray} {rt : Option FieldType} {rm : Room} {M1 : MS} (G : GX p l R s m args meth c k A RX11 cc nL ret) (hM : CM l k mo ad y (.code y bytes maxL rt) rm [] M none M1) (hlk : Cond.methodLink RX11 idx y ∈ TB) (hv : hV y bytes maxL rt 0) (hy : y.cls = RX11) (hR : rm.frames + 1 ≤ R.frames ∧ 8 + (maxL + 11) + rm.locals ≤ R.locals) (hw8 : (st.map fun v => v.category).sum ≤ 8) (hb1 : bc1 + rm.cells ≤ bc) (hb2 : bs1 + rm.slots ≤ bs) (d : decode cc pc = .ok (.invokevirtual idx, 3)) (kk : Wx p l e R s m args below meth c k A nL Q bc1 bs1 (pc + 3) L st (mW k mo ad M1)) : Wx p l e R s m args below meth c k A nL Q bc bs pc L (.ref mo :: st) (mW k mo ad M) :=
  x_cVv0 G (N := 66) (T := TX11) hM mW_mo.1 mW_mo.2 (by rw [hy]; rfl) hlk hv hR hw8 hb1 hb2 d kk
theorem y_cb0 {bc1 bs1 idx maxL : Nat} {y : MethodName} {bytes : ByteArray} {rt : Option FieldType} {rm : Room} {P : Prop} [Decidable P] {M1 : MS} (G : GX p l R s m args meth c k A RX11 cc nL ret) (hM : (P → CM l k mo ad y (.code y bytes maxL rt) rm [] M (some (.int 1)) M1) ∧ (¬ P → CM l k mo ad y (.code y bytes maxL rt) rm [] M (some (.int 0)) M1)) (hlk : Cond.methodLink RX11 idx y ∈ TB) (hv : hV y bytes maxL rt 0) (hy : y.cls = RX11) (hR : rm.frames + 1 ≤ R.frames ∧ 8 + (maxL + 11) + rm.locals ≤ R.locals) (hw8 : (st.map fun v => v.category).sum ≤ 8) (hb1 : bc1 + rm.cells ≤ bc) (hb2 : bs1 + rm.slots ≤ bs) (d : decode cc pc = .ok (.invokevirtual idx, 3)) (kt : P → Wx p l e R s m args below meth c k A nL Q bc1 bs1 (pc + 3) L (.int 1 :: st) (mW k mo ad M1)) (kf : ¬ P → Wx p l e R s m args below meth c k A nL Q bc1 bs1 (pc + 3) L (.int 0 :: st) (mW k mo ad M1)) : Wx p l e R s m args below meth c k A nL Q bc bs pc L (.ref mo :: st) (mW k mo ad M) :=
  x_cVb0 G (N := 66) (T := TX11) hM mW_mo.1 mW_mo.2 (by rw [hy]; rfl) hlk hv hR hw8 hb1 hb2 d kt kf
theorem x_cS0 {bc1 bs1 idx maxL : Nat} {y : MethodName} {bytes : ByteArray} {rt : Option FieldType} {rm : Room} (G : GX p l R s m args meth c k A own cc nL ret) {r : Value} (hM : MC l k y (.code y bytes maxL rt) rm [] h (pR (some r) h1)) (hlk : Cond.methodLink own idx y ∈ TB) (hv : hSt y bytes maxL rt 0) (hR : rm.frames + 1 ≤ R.frames ∧ 8 + (maxL + 11) + rm.locals ≤ R.locals) (hw8 : (st.map fun v => v.category).sum ≤ 8) (hb1 : bc1 + rm.cells ≤ bc) (hb2 : bs1 + rm.slots ≤ bs) (d : decode cc pc = .ok (.invokestatic idx, 3)) (kk : Wx p l e R s m args below meth c k A nL Q bc1 bs1 (pc + 3) L (r :: st) h1) : Wx p l e R s m args below meth c k A nL Q bc bs pc L (st) h :=
  x_callS G (post := pR (some r) h1) hM hlk hv.1 hv.2.1 hv.2.2.1 hv.2.2.2 hR hw8 hb1 hb2 rfl rfl d (fun v h9 hp => by obtain ⟨e1, rfl⟩ := hp; cases e1; exact kk) (fun E h9 hp => by obtain ⟨e1, -⟩ := hp; cases e1)
theorem x_cSv0 {bc1 bs1 idx maxL : Nat} {y : MethodName} {bytes : ByteArray} {rt : Option FieldType} {rm : Room} (G : GX p l R s m args meth c k A own cc nL ret) (hM : MC l k y (.code y bytes maxL rt) rm [] h (pR none h1)) (hlk : Cond.methodLink own idx y ∈ TB) (hv : hSt y bytes maxL rt 0) (hR : rm.frames + 1 ≤ R.frames ∧ 8 + (maxL + 11) + rm.locals ≤ R.locals) (hw8 : (st.map fun v => v.category).sum ≤ 8) (hb1 : bc1 + rm.cells ≤ bc) (hb2 : bs1 + rm.slots ≤ bs) (d : decode cc pc = .ok (.invokestatic idx, 3)) (kk : Wx p l e R s m args below meth c k A nL Q bc1 bs1 (pc + 3) L st h1) : Wx p l e R s m args below meth c k A nL Q bc bs pc L (st) h :=
  x_callS G (post := pR none h1) hM hlk hv.1 hv.2.1 hv.2.2.1 hv.2.2.2 hR hw8 hb1 hb2 rfl rfl d (fun v h9 hp => by obtain ⟨e1, rfl⟩ := hp; cases e1; exact kk) (fun E h9 hp => by obtain ⟨e1, -⟩ := hp; cases e1)
theorem x_cSb0 {bc1 bs1 idx maxL : Nat} {y : MethodName} {bytes : ByteArray} {rt : Option FieldType} {rm : Room} {P : Prop} [Decidable P] (G : GX p l R s m args meth c k A own cc nL ret) (hM : (P → MC l k y (.code y bytes maxL rt) rm [] h (pR (some (.int 1)) h1)) ∧ (¬ P → MC l k y (.code y bytes maxL rt) rm [] h (pR (some (.int 0)) h1))) (hlk : Cond.methodLink own idx y ∈ TB) (hv : hSt y bytes maxL rt 0) (hR : rm.frames + 1 ≤ R.frames ∧ 8 + (maxL + 11) + rm.locals ≤ R.locals) (hw8 : (st.map fun v => v.category).sum ≤ 8) (hb1 : bc1 + rm.cells ≤ bc) (hb2 : bs1 + rm.slots ≤ bs) (d : decode cc pc = .ok (.invokestatic idx, 3)) (kt : P → Wx p l e R s m args below meth c k A nL Q bc1 bs1 (pc + 3) L (.int 1 :: st) h1) (kf : ¬ P → Wx p l e R s m args below meth c k A nL Q bc1 bs1 (pc + 3) L (.int 0 :: st) h1) : Wx p l e R s m args below meth c k A nL Q bc bs pc L (st) h := by
  by_cases q : P
  · exact x_cS0 G (hM.1 q) hlk hv hR hw8 hb1 hb2 d (kt q)
  · exact x_cS0 G (hM.2 q) hlk hv hR hw8 hb1 hb2 d (kf q)
theorem x_cSt0 {bc1 bs1 idx maxL : Nat} {y : MethodName} {bytes : ByteArray} {rt : Option FieldType} {rm : Room} (G : GX p l R s m args meth c k A own cc nL ret) {E : String} {h0 : Wd} {post : Out → Wd → Prop} (B : RQ below args s R k A h0 post Q) (B2 : TQ below args s R k h0 post Q) (hout : ∀ x ∈ c.exceptionTable.toList, False) (hM : MC l k y (.code y bytes maxL rt) rm [] h (pT E h1)) (hlk : Cond.methodLink own idx y ∈ TB) (hv : hSt y bytes maxL rt 0) (hR : rm.frames + 1 ≤ R.frames ∧ 8 + (maxL + 11) + rm.locals ≤ R.locals) (hw8 : (st.map fun v => v.category).sum ≤ 8) (hb1 : bc1 + rm.cells ≤ bc) (hb2 : bs1 + rm.slots ≤ bs) (d : decode cc pc = .ok (.invokestatic idx, 3)) (hp : post (.inr E) h1) : Wx p l e R s m args below meth c k A nL Q bc bs pc L (st) h :=
  x_callS G (post := pT E h1) hM hlk hv.1 hv.2.1 hv.2.2.1 hv.2.2.2 hR hw8 hb1 hb2 rfl rfl d (fun v h9 hp => by obtain ⟨e1, -⟩ := hp; cases e1) (fun E9 h9 hq => by obtain ⟨e1, rfl⟩ := hq; cases e1; exact x_out G B B2 hout hp)
theorem x_cV1 {bc1 bs1 idx maxL : Nat} {y : MethodName} {bytes : ByteArray} {rt : Option FieldType} {rm : Room} {a1 : Value} {ci b N : Nat} {T : u_T} {fs : List Value} (G : GX p l R s m args meth c k A own cc nL ret) {r : Value} (hM : MC l k y (.code y bytes maxL rt) rm (.ref b :: [a1]) h (pR (some r) h1)) (hbm : b ∈ h.1) (hbf : h.2 b = .inr (ci, fs)) (hc : vwCl[ci]? = some (y.cls, T, N)) (hlk : Cond.methodLink own idx y ∈ TB) (hv : hV y bytes maxL rt 1) (hR : rm.frames + 1 ≤ R.frames ∧ 8 + (maxL + 11) + rm.locals ≤ R.locals) (hw8 : (st.map fun v => v.category).sum ≤ 8) (hb1 : bc1 + rm.cells ≤ bc) (hb2 : bs1 + rm.slots ≤ bs) (d : decode cc pc = .ok (.invokevirtual idx, 3)) (kk : Wx p l e R s m args below meth c k A nL Q bc1 bs1 (pc + 3) L (r :: st) h1) : Wx p l e R s m args below meth c k A nL Q bc bs pc L (a1 :: .ref b :: st) h :=
  x_callV G (post := pR (some r) h1) hM hbm hbf hc hlk hv.1 hv.2.1 hv.2.2.1 hv.2.2.2.1 hv.2.2.2.2 hR hw8 hb1 hb2 rfl rfl d (fun v h9 hp => by obtain ⟨e1, rfl⟩ := hp; cases e1; exact kk) (fun E h9 hp => by obtain ⟨e1, -⟩ := hp; cases e1)
theorem x_cVv1 {bc1 bs1 idx maxL : Nat} {y : MethodName} {bytes : ByteArray} {rt : Option FieldType} {rm : Room} {a1 : Value} {ci b N : Nat} {T : u_T} {fs : List Value} (G : GX p l R s m args meth c k A own cc nL ret) (hM : MC l k y (.code y bytes maxL rt) rm (.ref b :: [a1]) h (pR none h1)) (hbm : b ∈ h.1) (hbf : h.2 b = .inr (ci, fs)) (hc : vwCl[ci]? = some (y.cls, T, N)) (hlk : Cond.methodLink own idx y ∈ TB) (hv : hV y bytes maxL rt 1) (hR : rm.frames + 1 ≤ R.frames ∧ 8 + (maxL + 11) + rm.locals ≤ R.locals) (hw8 : (st.map fun v => v.category).sum ≤ 8) (hb1 : bc1 + rm.cells ≤ bc) (hb2 : bs1 + rm.slots ≤ bs) (d : decode cc pc = .ok (.invokevirtual idx, 3)) (kk : Wx p l e R s m args below meth c k A nL Q bc1 bs1 (pc + 3) L st h1) : Wx p l e R s m args below meth c k A nL Q bc bs pc L (a1 :: .ref b :: st) h :=
  x_callV G (post := pR none h1) hM hbm hbf hc hlk hv.1 hv.2.1 hv.2.2.1 hv.2.2.2.1 hv.2.2.2.2 hR hw8 hb1 hb2 rfl rfl d (fun v h9 hp => by obtain ⟨e1, rfl⟩ := hp; cases e1; exact kk) (fun E h9 hp => by obtain ⟨e1, -⟩ := hp; cases e1)
theorem x_cVb1 {bc1 bs1 idx maxL : Nat} {y : MethodName} {bytes : ByteArray} {rt : Option FieldType} {rm : Room} {a1 : Value} {ci b N : Nat} {T : u_T} {fs : List Value} (G : GX p l R s m args meth c k A own cc nL ret) {P : Prop} [Decidable P] (hM : (P → MC l k y (.code y bytes maxL rt) rm (.ref b :: [a1]) h (pR (some (.int 1)) h1)) ∧ (¬ P → MC l k y (.code y bytes maxL rt) rm (.ref b :: [a1]) h (pR (some (.int 0)) h1))) (hbm : b ∈ h.1) (hbf : h.2 b = .inr (ci, fs)) (hc : vwCl[ci]? = some (y.cls, T, N)) (hlk : Cond.methodLink own idx y ∈ TB) (hv : hV y bytes maxL rt 1) (hR : rm.frames + 1 ≤ R.frames ∧ 8 + (maxL + 11) + rm.locals ≤ R.locals) (hw8 : (st.map fun v => v.category).sum ≤ 8) (hb1 : bc1 + rm.cells ≤ bc) (hb2 : bs1 + rm.slots ≤ bs) (d : decode cc pc = .ok (.invokevirtual idx, 3)) (kt : P → Wx p l e R s m args below meth c k A nL Q bc1 bs1 (pc + 3) L (.int 1 :: st) h1) (kf : ¬ P → Wx p l e R s m args below meth c k A nL Q bc1 bs1 (pc + 3) L (.int 0 :: st) h1) : Wx p l e R s m args below meth c k A nL Q bc bs pc L (a1 :: .ref b :: st) h := by
  by_cases q : P
  · exact x_cV1 G (hM.1 q) hbm hbf hc hlk hv hR hw8 hb1 hb2 d (kt q)
  · exact x_cV1 G (hM.2 q) hbm hbf hc hlk hv hR hw8 hb1 hb2 d (kf q)
theorem x_cVt1 {bc1 bs1 idx maxL : Nat} {y : MethodName} {bytes : ByteArray} {rt : Option FieldType} {rm : Room} {a1 : Value} {ci b N : Nat} {T : u_T} {fs : List Value} (G : GX p l R s m args meth c k A own cc nL ret) {E : String} {h0 : Wd} {post : Out → Wd → Prop} (B : RQ below args s R k A h0 post Q) (B2 : TQ below args s R k h0 post Q) (hout : ∀ x ∈ c.exceptionTable.toList, False) (hM : MC l k y (.code y bytes maxL rt) rm (.ref b :: [a1]) h (pT E h1)) (hbm : b ∈ h.1) (hbf : h.2 b = .inr (ci, fs)) (hc : vwCl[ci]? = some (y.cls, T, N)) (hlk : Cond.methodLink own idx y ∈ TB) (hv : hV y bytes maxL rt 1) (hR : rm.frames + 1 ≤ R.frames ∧ 8 + (maxL + 11) + rm.locals ≤ R.locals) (hw8 : (st.map fun v => v.category).sum ≤ 8) (hb1 : bc1 + rm.cells ≤ bc) (hb2 : bs1 + rm.slots ≤ bs) (d : decode cc pc = .ok (.invokevirtual idx, 3)) (hp : post (.inr E) h1) : Wx p l e R s m args below meth c k A nL Q bc bs pc L (a1 :: .ref b :: st) h :=
  x_callV G (post := pT E h1) hM hbm hbf hc hlk hv.1 hv.2.1 hv.2.2.1 hv.2.2.2.1 hv.2.2.2.2 hR hw8 hb1 hb2 rfl rfl d (fun v h9 hp => by obtain ⟨e1, -⟩ := hp; cases e1) (fun E9 h9 hq => by obtain ⟨e1, rfl⟩ := hq; cases e1; exact x_out G B B2 hout hp)
theorem y_c1 {bc1 bs1 idx maxL : Nat} {y : MethodName} {bytes : ByteArray} {rt : Option FieldType} {rm : Room} {a1 : Value} {r : Value} {M1 : MS} (G : GX p l R s m args meth c k A RX11 cc nL ret) (hM : CM l k mo ad y (.code y bytes maxL rt) rm [a1] M (some r) M1) (hlk : Cond.methodLink RX11 idx y ∈ TB) (hv : hV y bytes maxL rt 1) (hy : y.cls = RX11) (hR : rm.frames + 1 ≤ R.frames ∧ 8 + (maxL + 11) + rm.locals ≤ R.locals) (hw8 : (st.map fun v => v.category).sum ≤ 8) (hb1 : bc1 + rm.cells ≤ bc) (hb2 : bs1 + rm.slots ≤ bs) (d : decode cc pc = .ok (.invokevirtual idx, 3)) (kk : Wx p l e R s m args below meth c k A nL Q bc1 bs1 (pc + 3) L (r :: st) (mW k mo ad M1)) : Wx p l e R s m args below meth c k A nL Q bc bs pc L (a1 :: .ref mo :: st) (mW k mo ad M) :=
  x_cV1 G (N := 66) (T := TX11) hM mW_mo.1 mW_mo.2 (by rw [hy]; rfl) hlk hv hR hw8 hb1 hb2 d kk
theorem y_cv1 {bc1 bs1 idx maxL : Nat} {y : MethodName} {bytes : ByteArray} {rt : Option FieldType} {rm : Room} {a1 : Value} {M1 : MS} (G : GX p l R s m args meth c k A RX11 cc nL ret) (hM : CM l k mo ad y (.code y bytes maxL rt) rm [a1] M none M1) (hlk : Cond.methodLink RX11 idx y ∈ TB) (hv : hV y bytes maxL rt 1) (hy : y.cls = RX11) (hR : rm.frames + 1 ≤ R.frames ∧ 8 + (maxL + 11) + rm.locals ≤ R.locals) (hw8 : (st.map fun v => v.category).sum ≤ 8) (hb1 : bc1 + rm.cells ≤ bc) (hb2 : bs1 + rm.slots ≤ bs) (d : decode cc pc = .ok (.invokevirtual idx, 3)) (kk : Wx p l e R s m args below meth c k A nL Q bc1 bs1 (pc + 3) L st (mW k mo ad M1)) : Wx p l e R s m args below meth c k A nL Q bc bs pc L (a1 :: .ref mo :: st) (mW k mo ad M) :=
  x_cVv1 G (N := 66) (T := TX11) hM mW_mo.1 mW_mo.2 (by rw [hy]; rfl) hlk hv hR hw8 hb1 hb2 d kk
theorem y_cb1 {bc1 bs1 idx maxL : Nat} {y : MethodName} {bytes : ByteArray} {rt : Option FieldType} {rm : Room} {a1 : Value} {P : Prop} [Decidable P] {M1 : MS} (G : GX p l R s m args meth c k A RX11 cc nL ret) (hM : (P → CM l k mo ad y (.code y bytes maxL rt) rm [a1] M (some (.int 1)) M1) ∧ (¬ P → CM l k mo ad y (.code y bytes maxL rt) rm [a1] M (some (.int 0)) M1)) (hlk : Cond.methodLink RX11 idx y ∈ TB) (hv : hV y bytes maxL rt 1) (hy : y.cls = RX11) (hR : rm.frames + 1 ≤ R.frames ∧ 8 + (maxL + 11) + rm.locals ≤ R.locals) (hw8 : (st.map fun v => v.category).sum ≤ 8) (hb1 : bc1 + rm.cells ≤ bc) (hb2 : bs1 + rm.slots ≤ bs) (d : decode cc pc = .ok (.invokevirtual idx, 3)) (kt : P → Wx p l e R s m args below meth c k A nL Q bc1 bs1 (pc + 3) L (.int 1 :: st) (mW k mo ad M1)) (kf : ¬ P → Wx p l e R s m args below meth c k A nL Q bc1 bs1 (pc + 3) L (.int 0 :: st) (mW k mo ad M1)) : Wx p l e R s m args below meth c k A nL Q bc bs pc L (a1 :: .ref mo :: st) (mW k mo ad M) :=
  x_cVb1 G (N := 66) (T := TX11) hM mW_mo.1 mW_mo.2 (by rw [hy]; rfl) hlk hv hR hw8 hb1 hb2 d kt kf
theorem x_cS1 {bc1 bs1 idx maxL : Nat} {y : MethodName} {bytes : ByteArray} {rt : Option FieldType} {rm : Room} {a1 : Value} (G : GX p l R s m args meth c k A own cc nL ret) {r : Value} (hM : MC l k y (.code y bytes maxL rt) rm [a1] h (pR (some r) h1)) (hlk : Cond.methodLink own idx y ∈ TB) (hv : hSt y bytes maxL rt 1) (hR : rm.frames + 1 ≤ R.frames ∧ 8 + (maxL + 11) + rm.locals ≤ R.locals) (hw8 : (st.map fun v => v.category).sum ≤ 8) (hb1 : bc1 + rm.cells ≤ bc) (hb2 : bs1 + rm.slots ≤ bs) (d : decode cc pc = .ok (.invokestatic idx, 3)) (kk : Wx p l e R s m args below meth c k A nL Q bc1 bs1 (pc + 3) L (r :: st) h1) : Wx p l e R s m args below meth c k A nL Q bc bs pc L (a1 :: st) h :=
  x_callS G (post := pR (some r) h1) hM hlk hv.1 hv.2.1 hv.2.2.1 hv.2.2.2 hR hw8 hb1 hb2 rfl rfl d (fun v h9 hp => by obtain ⟨e1, rfl⟩ := hp; cases e1; exact kk) (fun E h9 hp => by obtain ⟨e1, -⟩ := hp; cases e1)
theorem x_cSv1 {bc1 bs1 idx maxL : Nat} {y : MethodName} {bytes : ByteArray} {rt : Option FieldType} {rm : Room} {a1 : Value} (G : GX p l R s m args meth c k A own cc nL ret) (hM : MC l k y (.code y bytes maxL rt) rm [a1] h (pR none h1)) (hlk : Cond.methodLink own idx y ∈ TB) (hv : hSt y bytes maxL rt 1) (hR : rm.frames + 1 ≤ R.frames ∧ 8 + (maxL + 11) + rm.locals ≤ R.locals) (hw8 : (st.map fun v => v.category).sum ≤ 8) (hb1 : bc1 + rm.cells ≤ bc) (hb2 : bs1 + rm.slots ≤ bs) (d : decode cc pc = .ok (.invokestatic idx, 3)) (kk : Wx p l e R s m args below meth c k A nL Q bc1 bs1 (pc + 3) L st h1) : Wx p l e R s m args below meth c k A nL Q bc bs pc L (a1 :: st) h :=
  x_callS G (post := pR none h1) hM hlk hv.1 hv.2.1 hv.2.2.1 hv.2.2.2 hR hw8 hb1 hb2 rfl rfl d (fun v h9 hp => by obtain ⟨e1, rfl⟩ := hp; cases e1; exact kk) (fun E h9 hp => by obtain ⟨e1, -⟩ := hp; cases e1)
theorem x_cSb1 {bc1 bs1 idx maxL : Nat} {y : MethodName} {bytes : ByteArray} {rt : Option FieldType} {rm : Room} {a1 : Value} {P : Prop} [Decidable P] (G : GX p l R s m args meth c k A own cc nL ret) (hM : (P → MC l k y (.code y bytes maxL rt) rm [a1] h (pR (some (.int 1)) h1)) ∧ (¬ P → MC l k y (.code y bytes maxL rt) rm [a1] h (pR (some (.int 0)) h1))) (hlk : Cond.methodLink own idx y ∈ TB) (hv : hSt y bytes maxL rt 1) (hR : rm.frames + 1 ≤ R.frames ∧ 8 + (maxL + 11) + rm.locals ≤ R.locals) (hw8 : (st.map fun v => v.category).sum ≤ 8) (hb1 : bc1 + rm.cells ≤ bc) (hb2 : bs1 + rm.slots ≤ bs) (d : decode cc pc = .ok (.invokestatic idx, 3)) (kt : P → Wx p l e R s m args below meth c k A nL Q bc1 bs1 (pc + 3) L (.int 1 :: st) h1) (kf : ¬ P → Wx p l e R s m args below meth c k A nL Q bc1 bs1 (pc + 3) L (.int 0 :: st) h1) : Wx p l e R s m args below meth c k A nL Q bc bs pc L (a1 :: st) h := by
  by_cases q : P
  · exact x_cS1 G (hM.1 q) hlk hv hR hw8 hb1 hb2 d (kt q)
  · exact x_cS1 G (hM.2 q) hlk hv hR hw8 hb1 hb2 d (kf q)
theorem x_cSt1 {bc1 bs1 idx maxL : Nat} {y : MethodName} {bytes : ByteArray} {rt : Option FieldType} {rm : Room} {a1 : Value} (G : GX p l R s m args meth c k A own cc nL ret) {E : String} {h0 : Wd} {post : Out → Wd → Prop} (B : RQ below args s R k A h0 post Q) (B2 : TQ below args s R k h0 post Q) (hout : ∀ x ∈ c.exceptionTable.toList, False) (hM : MC l k y (.code y bytes maxL rt) rm [a1] h (pT E h1)) (hlk : Cond.methodLink own idx y ∈ TB) (hv : hSt y bytes maxL rt 1) (hR : rm.frames + 1 ≤ R.frames ∧ 8 + (maxL + 11) + rm.locals ≤ R.locals) (hw8 : (st.map fun v => v.category).sum ≤ 8) (hb1 : bc1 + rm.cells ≤ bc) (hb2 : bs1 + rm.slots ≤ bs) (d : decode cc pc = .ok (.invokestatic idx, 3)) (hp : post (.inr E) h1) : Wx p l e R s m args below meth c k A nL Q bc bs pc L (a1 :: st) h :=
  x_callS G (post := pT E h1) hM hlk hv.1 hv.2.1 hv.2.2.1 hv.2.2.2 hR hw8 hb1 hb2 rfl rfl d (fun v h9 hp => by obtain ⟨e1, -⟩ := hp; cases e1) (fun E9 h9 hq => by obtain ⟨e1, rfl⟩ := hq; cases e1; exact x_out G B B2 hout hp)
theorem x_cV2 {bc1 bs1 idx maxL : Nat} {y : MethodName} {bytes : ByteArray} {rt : Option FieldType} {rm : Room} {a1 a2 : Value} {ci b N : Nat} {T : u_T} {fs : List Value} (G : GX p l R s m args meth c k A own cc nL ret) {r : Value} (hM : MC l k y (.code y bytes maxL rt) rm (.ref b :: [a1, a2]) h (pR (some r) h1)) (hbm : b ∈ h.1) (hbf : h.2 b = .inr (ci, fs)) (hc : vwCl[ci]? = some (y.cls, T, N)) (hlk : Cond.methodLink own idx y ∈ TB) (hv : hV y bytes maxL rt 2) (hR : rm.frames + 1 ≤ R.frames ∧ 8 + (maxL + 11) + rm.locals ≤ R.locals) (hw8 : (st.map fun v => v.category).sum ≤ 8) (hb1 : bc1 + rm.cells ≤ bc) (hb2 : bs1 + rm.slots ≤ bs) (d : decode cc pc = .ok (.invokevirtual idx, 3)) (kk : Wx p l e R s m args below meth c k A nL Q bc1 bs1 (pc + 3) L (r :: st) h1) : Wx p l e R s m args below meth c k A nL Q bc bs pc L (a2 :: a1 :: .ref b :: st) h :=
  x_callV G (post := pR (some r) h1) hM hbm hbf hc hlk hv.1 hv.2.1 hv.2.2.1 hv.2.2.2.1 hv.2.2.2.2 hR hw8 hb1 hb2 rfl rfl d (fun v h9 hp => by obtain ⟨e1, rfl⟩ := hp; cases e1; exact kk) (fun E h9 hp => by obtain ⟨e1, -⟩ := hp; cases e1)
theorem x_cVv2 {bc1 bs1 idx maxL : Nat} {y : MethodName} {bytes : ByteArray} {rt : Option FieldType} {rm : Room} {a1 a2 : Value} {ci b N : Nat} {T : u_T} {fs : List Value} (G : GX p l R s m args meth c k A own cc nL ret) (hM : MC l k y (.code y bytes maxL rt) rm (.ref b :: [a1, a2]) h (pR none h1)) (hbm : b ∈ h.1) (hbf : h.2 b = .inr (ci, fs)) (hc : vwCl[ci]? = some (y.cls, T, N)) (hlk : Cond.methodLink own idx y ∈ TB) (hv : hV y bytes maxL rt 2) (hR : rm.frames + 1 ≤ R.frames ∧ 8 + (maxL + 11) + rm.locals ≤ R.locals) (hw8 : (st.map fun v => v.category).sum ≤ 8) (hb1 : bc1 + rm.cells ≤ bc) (hb2 : bs1 + rm.slots ≤ bs) (d : decode cc pc = .ok (.invokevirtual idx, 3)) (kk : Wx p l e R s m args below meth c k A nL Q bc1 bs1 (pc + 3) L st h1) : Wx p l e R s m args below meth c k A nL Q bc bs pc L (a2 :: a1 :: .ref b :: st) h :=
  x_callV G (post := pR none h1) hM hbm hbf hc hlk hv.1 hv.2.1 hv.2.2.1 hv.2.2.2.1 hv.2.2.2.2 hR hw8 hb1 hb2 rfl rfl d (fun v h9 hp => by obtain ⟨e1, rfl⟩ := hp; cases e1; exact kk) (fun E h9 hp => by obtain ⟨e1, -⟩ := hp; cases e1)
theorem x_cVb2 {bc1 bs1 idx maxL : Nat} {y : MethodName} {bytes : ByteArray} {rt : Option FieldType} {rm : Room} {a1 a2 : Value} {ci b N : Nat} {T : u_T} {fs : List Value} (G : GX p l R s m args meth c k A own cc nL ret) {P : Prop} [Decidable P] (hM : (P → MC l k y (.code y bytes maxL rt) rm (.ref b :: [a1, a2]) h (pR (some (.int 1)) h1)) ∧ (¬ P → MC l k y (.code y bytes maxL rt) rm (.ref b :: [a1, a2]) h (pR (some (.int 0)) h1))) (hbm : b ∈ h.1) (hbf : h.2 b = .inr (ci, fs)) (hc : vwCl[ci]? = some (y.cls, T, N)) (hlk : Cond.methodLink own idx y ∈ TB) (hv : hV y bytes maxL rt 2) (hR : rm.frames + 1 ≤ R.frames ∧ 8 + (maxL + 11) + rm.locals ≤ R.locals) (hw8 : (st.map fun v => v.category).sum ≤ 8) (hb1 : bc1 + rm.cells ≤ bc) (hb2 : bs1 + rm.slots ≤ bs) (d : decode cc pc = .ok (.invokevirtual idx, 3)) (kt : P → Wx p l e R s m args below meth c k A nL Q bc1 bs1 (pc + 3) L (.int 1 :: st) h1) (kf : ¬ P → Wx p l e R s m args below meth c k A nL Q bc1 bs1 (pc + 3) L (.int 0 :: st) h1) : Wx p l e R s m args below meth c k A nL Q bc bs pc L (a2 :: a1 :: .ref b :: st) h := by
  by_cases q : P
  · exact x_cV2 G (hM.1 q) hbm hbf hc hlk hv hR hw8 hb1 hb2 d (kt q)
  · exact x_cV2 G (hM.2 q) hbm hbf hc hlk hv hR hw8 hb1 hb2 d (kf q)
theorem x_cVt2 {bc1 bs1 idx maxL : Nat} {y : MethodName} {bytes : ByteArray} {rt : Option FieldType} {rm : Room} {a1 a2 : Value} {ci b N : Nat} {T : u_T} {fs : List Value} (G : GX p l R s m args meth c k A own cc nL ret) {E : String} {h0 : Wd} {post : Out → Wd → Prop} (B : RQ below args s R k A h0 post Q) (B2 : TQ below args s R k h0 post Q) (hout : ∀ x ∈ c.exceptionTable.toList, False) (hM : MC l k y (.code y bytes maxL rt) rm (.ref b :: [a1, a2]) h (pT E h1)) (hbm : b ∈ h.1) (hbf : h.2 b = .inr (ci, fs)) (hc : vwCl[ci]? = some (y.cls, T, N)) (hlk : Cond.methodLink own idx y ∈ TB) (hv : hV y bytes maxL rt 2) (hR : rm.frames + 1 ≤ R.frames ∧ 8 + (maxL + 11) + rm.locals ≤ R.locals) (hw8 : (st.map fun v => v.category).sum ≤ 8) (hb1 : bc1 + rm.cells ≤ bc) (hb2 : bs1 + rm.slots ≤ bs) (d : decode cc pc = .ok (.invokevirtual idx, 3)) (hp : post (.inr E) h1) : Wx p l e R s m args below meth c k A nL Q bc bs pc L (a2 :: a1 :: .ref b :: st) h :=
  x_callV G (post := pT E h1) hM hbm hbf hc hlk hv.1 hv.2.1 hv.2.2.1 hv.2.2.2.1 hv.2.2.2.2 hR hw8 hb1 hb2 rfl rfl d (fun v h9 hp => by obtain ⟨e1, -⟩ := hp; cases e1) (fun E9 h9 hq => by obtain ⟨e1, rfl⟩ := hq; cases e1; exact x_out G B B2 hout hp)
theorem y_c2 {bc1 bs1 idx maxL : Nat} {y : MethodName} {bytes : ByteArray} {rt : Option FieldType} {rm : Room} {a1 a2 : Value} {r : Value} {M1 : MS} (G : GX p l R s m args meth c k A RX11 cc nL ret) (hM : CM l k mo ad y (.code y bytes maxL rt) rm [a1, a2] M (some r) M1) (hlk : Cond.methodLink RX11 idx y ∈ TB) (hv : hV y bytes maxL rt 2) (hy : y.cls = RX11) (hR : rm.frames + 1 ≤ R.frames ∧ 8 + (maxL + 11) + rm.locals ≤ R.locals) (hw8 : (st.map fun v => v.category).sum ≤ 8) (hb1 : bc1 + rm.cells ≤ bc) (hb2 : bs1 + rm.slots ≤ bs) (d : decode cc pc = .ok (.invokevirtual idx, 3)) (kk : Wx p l e R s m args below meth c k A nL Q bc1 bs1 (pc + 3) L (r :: st) (mW k mo ad M1)) : Wx p l e R s m args below meth c k A nL Q bc bs pc L (a2 :: a1 :: .ref mo :: st) (mW k mo ad M) :=
  x_cV2 G (N := 66) (T := TX11) hM mW_mo.1 mW_mo.2 (by rw [hy]; rfl) hlk hv hR hw8 hb1 hb2 d kk
theorem y_cv2 {bc1 bs1 idx maxL : Nat} {y : MethodName} {bytes : ByteArray} {rt : Option FieldType} {rm : Room} {a1 a2 : Value} {M1 : MS} (G : GX p l R s m args meth c k A RX11 cc nL ret) (hM : CM l k mo ad y (.code y bytes maxL rt) rm [a1, a2] M none M1) (hlk : Cond.methodLink RX11 idx y ∈ TB) (hv : hV y bytes maxL rt 2) (hy : y.cls = RX11) (hR : rm.frames + 1 ≤ R.frames ∧ 8 + (maxL + 11) + rm.locals ≤ R.locals) (hw8 : (st.map fun v => v.category).sum ≤ 8) (hb1 : bc1 + rm.cells ≤ bc) (hb2 : bs1 + rm.slots ≤ bs) (d : decode cc pc = .ok (.invokevirtual idx, 3)) (kk : Wx p l e R s m args below meth c k A nL Q bc1 bs1 (pc + 3) L st (mW k mo ad M1)) : Wx p l e R s m args below meth c k A nL Q bc bs pc L (a2 :: a1 :: .ref mo :: st) (mW k mo ad M) :=
  x_cVv2 G (N := 66) (T := TX11) hM mW_mo.1 mW_mo.2 (by rw [hy]; rfl) hlk hv hR hw8 hb1 hb2 d kk
theorem y_cb2 {bc1 bs1 idx maxL : Nat} {y : MethodName} {bytes : ByteArray} {rt : Option FieldType} {rm : Room} {a1 a2 : Value} {P : Prop} [Decidable P] {M1 : MS} (G : GX p l R s m args meth c k A RX11 cc nL ret) (hM : (P → CM l k mo ad y (.code y bytes maxL rt) rm [a1, a2] M (some (.int 1)) M1) ∧ (¬ P → CM l k mo ad y (.code y bytes maxL rt) rm [a1, a2] M (some (.int 0)) M1)) (hlk : Cond.methodLink RX11 idx y ∈ TB) (hv : hV y bytes maxL rt 2) (hy : y.cls = RX11) (hR : rm.frames + 1 ≤ R.frames ∧ 8 + (maxL + 11) + rm.locals ≤ R.locals) (hw8 : (st.map fun v => v.category).sum ≤ 8) (hb1 : bc1 + rm.cells ≤ bc) (hb2 : bs1 + rm.slots ≤ bs) (d : decode cc pc = .ok (.invokevirtual idx, 3)) (kt : P → Wx p l e R s m args below meth c k A nL Q bc1 bs1 (pc + 3) L (.int 1 :: st) (mW k mo ad M1)) (kf : ¬ P → Wx p l e R s m args below meth c k A nL Q bc1 bs1 (pc + 3) L (.int 0 :: st) (mW k mo ad M1)) : Wx p l e R s m args below meth c k A nL Q bc bs pc L (a2 :: a1 :: .ref mo :: st) (mW k mo ad M) :=
  x_cVb2 G (N := 66) (T := TX11) hM mW_mo.1 mW_mo.2 (by rw [hy]; rfl) hlk hv hR hw8 hb1 hb2 d kt kf
theorem x_cS2 {bc1 bs1 idx maxL : Nat} {y : MethodName} {bytes : ByteArray} {rt : Option FieldType} {rm : Room} {a1 a2 : Value} (G : GX p l R s m args meth c k A own cc nL ret) {r : Value} (hM : MC l k y (.code y bytes maxL rt) rm [a1, a2] h (pR (some r) h1)) (hlk : Cond.methodLink own idx y ∈ TB) (hv : hSt y bytes maxL rt 2) (hR : rm.frames + 1 ≤ R.frames ∧ 8 + (maxL + 11) + rm.locals ≤ R.locals) (hw8 : (st.map fun v => v.category).sum ≤ 8) (hb1 : bc1 + rm.cells ≤ bc) (hb2 : bs1 + rm.slots ≤ bs) (d : decode cc pc = .ok (.invokestatic idx, 3)) (kk : Wx p l e R s m args below meth c k A nL Q bc1 bs1 (pc + 3) L (r :: st) h1) : Wx p l e R s m args below meth c k A nL Q bc bs pc L (a2 :: a1 :: st) h :=
  x_callS G (post := pR (some r) h1) hM hlk hv.1 hv.2.1 hv.2.2.1 hv.2.2.2 hR hw8 hb1 hb2 rfl rfl d (fun v h9 hp => by obtain ⟨e1, rfl⟩ := hp; cases e1; exact kk) (fun E h9 hp => by obtain ⟨e1, -⟩ := hp; cases e1)
theorem x_cSv2 {bc1 bs1 idx maxL : Nat} {y : MethodName} {bytes : ByteArray} {rt : Option FieldType} {rm : Room} {a1 a2 : Value} (G : GX p l R s m args meth c k A own cc nL ret) (hM : MC l k y (.code y bytes maxL rt) rm [a1, a2] h (pR none h1)) (hlk : Cond.methodLink own idx y ∈ TB) (hv : hSt y bytes maxL rt 2) (hR : rm.frames + 1 ≤ R.frames ∧ 8 + (maxL + 11) + rm.locals ≤ R.locals) (hw8 : (st.map fun v => v.category).sum ≤ 8) (hb1 : bc1 + rm.cells ≤ bc) (hb2 : bs1 + rm.slots ≤ bs) (d : decode cc pc = .ok (.invokestatic idx, 3)) (kk : Wx p l e R s m args below meth c k A nL Q bc1 bs1 (pc + 3) L st h1) : Wx p l e R s m args below meth c k A nL Q bc bs pc L (a2 :: a1 :: st) h :=
  x_callS G (post := pR none h1) hM hlk hv.1 hv.2.1 hv.2.2.1 hv.2.2.2 hR hw8 hb1 hb2 rfl rfl d (fun v h9 hp => by obtain ⟨e1, rfl⟩ := hp; cases e1; exact kk) (fun E h9 hp => by obtain ⟨e1, -⟩ := hp; cases e1)
theorem x_cSb2 {bc1 bs1 idx maxL : Nat} {y : MethodName} {bytes : ByteArray} {rt : Option FieldType} {rm : Room} {a1 a2 : Value} {P : Prop} [Decidable P] (G : GX p l R s m args meth c k A own cc nL ret) (hM : (P → MC l k y (.code y bytes maxL rt) rm [a1, a2] h (pR (some (.int 1)) h1)) ∧ (¬ P → MC l k y (.code y bytes maxL rt) rm [a1, a2] h (pR (some (.int 0)) h1))) (hlk : Cond.methodLink own idx y ∈ TB) (hv : hSt y bytes maxL rt 2) (hR : rm.frames + 1 ≤ R.frames ∧ 8 + (maxL + 11) + rm.locals ≤ R.locals) (hw8 : (st.map fun v => v.category).sum ≤ 8) (hb1 : bc1 + rm.cells ≤ bc) (hb2 : bs1 + rm.slots ≤ bs) (d : decode cc pc = .ok (.invokestatic idx, 3)) (kt : P → Wx p l e R s m args below meth c k A nL Q bc1 bs1 (pc + 3) L (.int 1 :: st) h1) (kf : ¬ P → Wx p l e R s m args below meth c k A nL Q bc1 bs1 (pc + 3) L (.int 0 :: st) h1) : Wx p l e R s m args below meth c k A nL Q bc bs pc L (a2 :: a1 :: st) h := by
  by_cases q : P
  · exact x_cS2 G (hM.1 q) hlk hv hR hw8 hb1 hb2 d (kt q)
  · exact x_cS2 G (hM.2 q) hlk hv hR hw8 hb1 hb2 d (kf q)
theorem x_cSt2 {bc1 bs1 idx maxL : Nat} {y : MethodName} {bytes : ByteArray} {rt : Option FieldType} {rm : Room} {a1 a2 : Value} (G : GX p l R s m args meth c k A own cc nL ret) {E : String} {h0 : Wd} {post : Out → Wd → Prop} (B : RQ below args s R k A h0 post Q) (B2 : TQ below args s R k h0 post Q) (hout : ∀ x ∈ c.exceptionTable.toList, False) (hM : MC l k y (.code y bytes maxL rt) rm [a1, a2] h (pT E h1)) (hlk : Cond.methodLink own idx y ∈ TB) (hv : hSt y bytes maxL rt 2) (hR : rm.frames + 1 ≤ R.frames ∧ 8 + (maxL + 11) + rm.locals ≤ R.locals) (hw8 : (st.map fun v => v.category).sum ≤ 8) (hb1 : bc1 + rm.cells ≤ bc) (hb2 : bs1 + rm.slots ≤ bs) (d : decode cc pc = .ok (.invokestatic idx, 3)) (hp : post (.inr E) h1) : Wx p l e R s m args below meth c k A nL Q bc bs pc L (a2 :: a1 :: st) h :=
  x_callS G (post := pT E h1) hM hlk hv.1 hv.2.1 hv.2.2.1 hv.2.2.2 hR hw8 hb1 hb2 rfl rfl d (fun v h9 hp => by obtain ⟨e1, -⟩ := hp; cases e1) (fun E9 h9 hq => by obtain ⟨e1, rfl⟩ := hq; cases e1; exact x_out G B B2 hout hp)
theorem x_cV3 {bc1 bs1 idx maxL : Nat} {y : MethodName} {bytes : ByteArray} {rt : Option FieldType} {rm : Room} {a1 a2 a3 : Value} {ci b N : Nat} {T : u_T} {fs : List Value} (G : GX p l R s m args meth c k A own cc nL ret) {r : Value} (hM : MC l k y (.code y bytes maxL rt) rm (.ref b :: [a1, a2, a3]) h (pR (some r) h1)) (hbm : b ∈ h.1) (hbf : h.2 b = .inr (ci, fs)) (hc : vwCl[ci]? = some (y.cls, T, N)) (hlk : Cond.methodLink own idx y ∈ TB) (hv : hV y bytes maxL rt 3) (hR : rm.frames + 1 ≤ R.frames ∧ 8 + (maxL + 11) + rm.locals ≤ R.locals) (hw8 : (st.map fun v => v.category).sum ≤ 8) (hb1 : bc1 + rm.cells ≤ bc) (hb2 : bs1 + rm.slots ≤ bs) (d : decode cc pc = .ok (.invokevirtual idx, 3)) (kk : Wx p l e R s m args below meth c k A nL Q bc1 bs1 (pc + 3) L (r :: st) h1) : Wx p l e R s m args below meth c k A nL Q bc bs pc L (a3 :: a2 :: a1 :: .ref b :: st) h :=
  x_callV G (post := pR (some r) h1) hM hbm hbf hc hlk hv.1 hv.2.1 hv.2.2.1 hv.2.2.2.1 hv.2.2.2.2 hR hw8 hb1 hb2 rfl rfl d (fun v h9 hp => by obtain ⟨e1, rfl⟩ := hp; cases e1; exact kk) (fun E h9 hp => by obtain ⟨e1, -⟩ := hp; cases e1)
theorem x_cVv3 {bc1 bs1 idx maxL : Nat} {y : MethodName} {bytes : ByteArray} {rt : Option FieldType} {rm : Room} {a1 a2 a3 : Value} {ci b N : Nat} {T : u_T} {fs : List Value} (G : GX p l R s m args meth c k A own cc nL ret) (hM : MC l k y (.code y bytes maxL rt) rm (.ref b :: [a1, a2, a3]) h (pR none h1)) (hbm : b ∈ h.1) (hbf : h.2 b = .inr (ci, fs)) (hc : vwCl[ci]? = some (y.cls, T, N)) (hlk : Cond.methodLink own idx y ∈ TB) (hv : hV y bytes maxL rt 3) (hR : rm.frames + 1 ≤ R.frames ∧ 8 + (maxL + 11) + rm.locals ≤ R.locals) (hw8 : (st.map fun v => v.category).sum ≤ 8) (hb1 : bc1 + rm.cells ≤ bc) (hb2 : bs1 + rm.slots ≤ bs) (d : decode cc pc = .ok (.invokevirtual idx, 3)) (kk : Wx p l e R s m args below meth c k A nL Q bc1 bs1 (pc + 3) L st h1) : Wx p l e R s m args below meth c k A nL Q bc bs pc L (a3 :: a2 :: a1 :: .ref b :: st) h :=
  x_callV G (post := pR none h1) hM hbm hbf hc hlk hv.1 hv.2.1 hv.2.2.1 hv.2.2.2.1 hv.2.2.2.2 hR hw8 hb1 hb2 rfl rfl d (fun v h9 hp => by obtain ⟨e1, rfl⟩ := hp; cases e1; exact kk) (fun E h9 hp => by obtain ⟨e1, -⟩ := hp; cases e1)
theorem x_cVb3 {bc1 bs1 idx maxL : Nat} {y : MethodName} {bytes : ByteArray} {rt : Option FieldType} {rm : Room} {a1 a2 a3 : Value} {ci b N : Nat} {T : u_T} {fs : List Value} (G : GX p l R s m args meth c k A own cc nL ret) {P : Prop} [Decidable P] (hM : (P → MC l k y (.code y bytes maxL rt) rm (.ref b :: [a1, a2, a3]) h (pR (some (.int 1)) h1)) ∧ (¬ P → MC l k y (.code y bytes maxL rt) rm (.ref b :: [a1, a2, a3]) h (pR (some (.int 0)) h1))) (hbm : b ∈ h.1) (hbf : h.2 b = .inr (ci, fs)) (hc : vwCl[ci]? = some (y.cls, T, N)) (hlk : Cond.methodLink own idx y ∈ TB) (hv : hV y bytes maxL rt 3) (hR : rm.frames + 1 ≤ R.frames ∧ 8 + (maxL + 11) + rm.locals ≤ R.locals) (hw8 : (st.map fun v => v.category).sum ≤ 8) (hb1 : bc1 + rm.cells ≤ bc) (hb2 : bs1 + rm.slots ≤ bs) (d : decode cc pc = .ok (.invokevirtual idx, 3)) (kt : P → Wx p l e R s m args below meth c k A nL Q bc1 bs1 (pc + 3) L (.int 1 :: st) h1) (kf : ¬ P → Wx p l e R s m args below meth c k A nL Q bc1 bs1 (pc + 3) L (.int 0 :: st) h1) : Wx p l e R s m args below meth c k A nL Q bc bs pc L (a3 :: a2 :: a1 :: .ref b :: st) h := by
  by_cases q : P
  · exact x_cV3 G (hM.1 q) hbm hbf hc hlk hv hR hw8 hb1 hb2 d (kt q)
  · exact x_cV3 G (hM.2 q) hbm hbf hc hlk hv hR hw8 hb1 hb2 d (kf q)
theorem x_cVt3 {bc1 bs1 idx maxL : Nat} {y : MethodName} {bytes : ByteArray} {rt : Option FieldType} {rm : Room} {a1 a2 a3 : Value} {ci b N : Nat} {T : u_T} {fs : List Value} (G : GX p l R s m args meth c k A own cc nL ret) {E : String} {h0 : Wd} {post : Out → Wd → Prop} (B : RQ below args s R k A h0 post Q) (B2 : TQ below args s R k h0 post Q) (hout : ∀ x ∈ c.exceptionTable.toList, False) (hM : MC l k y (.code y bytes maxL rt) rm (.ref b :: [a1, a2, a3]) h (pT E h1)) (hbm : b ∈ h.1) (hbf : h.2 b = .inr (ci, fs)) (hc : vwCl[ci]? = some (y.cls, T, N)) (hlk : Cond.methodLink own idx y ∈ TB) (hv : hV y bytes maxL rt 3) (hR : rm.frames + 1 ≤ R.frames ∧ 8 + (maxL + 11) + rm.locals ≤ R.locals) (hw8 : (st.map fun v => v.category).sum ≤ 8) (hb1 : bc1 + rm.cells ≤ bc) (hb2 : bs1 + rm.slots ≤ bs) (d : decode cc pc = .ok (.invokevirtual idx, 3)) (hp : post (.inr E) h1) : Wx p l e R s m args below meth c k A nL Q bc bs pc L (a3 :: a2 :: a1 :: .ref b :: st) h :=
  x_callV G (post := pT E h1) hM hbm hbf hc hlk hv.1 hv.2.1 hv.2.2.1 hv.2.2.2.1 hv.2.2.2.2 hR hw8 hb1 hb2 rfl rfl d (fun v h9 hp => by obtain ⟨e1, -⟩ := hp; cases e1) (fun E9 h9 hq => by obtain ⟨e1, rfl⟩ := hq; cases e1; exact x_out G B B2 hout hp)
theorem y_c3 {bc1 bs1 idx maxL : Nat} {y : MethodName} {bytes : ByteArray} {rt : Option FieldType} {rm : Room} {a1 a2 a3 : Value} {r : Value} {M1 : MS} (G : GX p l R s m args meth c k A RX11 cc nL ret) (hM : CM l k mo ad y (.code y bytes maxL rt) rm [a1, a2, a3] M (some r) M1) (hlk : Cond.methodLink RX11 idx y ∈ TB) (hv : hV y bytes maxL rt 3) (hy : y.cls = RX11) (hR : rm.frames + 1 ≤ R.frames ∧ 8 + (maxL + 11) + rm.locals ≤ R.locals) (hw8 : (st.map fun v => v.category).sum ≤ 8) (hb1 : bc1 + rm.cells ≤ bc) (hb2 : bs1 + rm.slots ≤ bs) (d : decode cc pc = .ok (.invokevirtual idx, 3)) (kk : Wx p l e R s m args below meth c k A nL Q bc1 bs1 (pc + 3) L (r :: st) (mW k mo ad M1)) : Wx p l e R s m args below meth c k A nL Q bc bs pc L (a3 :: a2 :: a1 :: .ref mo :: st) (mW k mo ad M) :=
  x_cV3 G (N := 66) (T := TX11) hM mW_mo.1 mW_mo.2 (by rw [hy]; rfl) hlk hv hR hw8 hb1 hb2 d kk
theorem y_cv3 {bc1 bs1 idx maxL : Nat} {y : MethodName} {bytes : ByteArray} {rt : Option FieldType} {rm : Room} {a1 a2 a3 : Value} {M1 : MS} (G : GX p l R s m args meth c k A RX11 cc nL ret) (hM : CM l k mo ad y (.code y bytes maxL rt) rm [a1, a2, a3] M none M1) (hlk : Cond.methodLink RX11 idx y ∈ TB) (hv : hV y bytes maxL rt 3) (hy : y.cls = RX11) (hR : rm.frames + 1 ≤ R.frames ∧ 8 + (maxL + 11) + rm.locals ≤ R.locals) (hw8 : (st.map fun v => v.category).sum ≤ 8) (hb1 : bc1 + rm.cells ≤ bc) (hb2 : bs1 + rm.slots ≤ bs) (d : decode cc pc = .ok (.invokevirtual idx, 3)) (kk : Wx p l e R s m args below meth c k A nL Q bc1 bs1 (pc + 3) L st (mW k mo ad M1)) : Wx p l e R s m args below meth c k A nL Q bc bs pc L (a3 :: a2 :: a1 :: .ref mo :: st) (mW k mo ad M) :=
  x_cVv3 G (N := 66) (T := TX11) hM mW_mo.1 mW_mo.2 (by rw [hy]; rfl) hlk hv hR hw8 hb1 hb2 d kk
theorem y_cb3 {bc1 bs1 idx maxL : Nat} {y : MethodName} {bytes : ByteArray} {rt : Option FieldType} {rm : Room} {a1 a2 a3 : Value} {P : Prop} [Decidable P] {M1 : MS} (G : GX p l R s m args meth c k A RX11 cc nL ret) (hM : (P → CM l k mo ad y (.code y bytes maxL rt) rm [a1, a2, a3] M (some (.int 1)) M1) ∧ (¬ P → CM l k mo ad y (.code y bytes maxL rt) rm [a1, a2, a3] M (some (.int 0)) M1)) (hlk : Cond.methodLink RX11 idx y ∈ TB) (hv : hV y bytes maxL rt 3) (hy : y.cls = RX11) (hR : rm.frames + 1 ≤ R.frames ∧ 8 + (maxL + 11) + rm.locals ≤ R.locals) (hw8 : (st.map fun v => v.category).sum ≤ 8) (hb1 : bc1 + rm.cells ≤ bc) (hb2 : bs1 + rm.slots ≤ bs) (d : decode cc pc = .ok (.invokevirtual idx, 3)) (kt : P → Wx p l e R s m args below meth c k A nL Q bc1 bs1 (pc + 3) L (.int 1 :: st) (mW k mo ad M1)) (kf : ¬ P → Wx p l e R s m args below meth c k A nL Q bc1 bs1 (pc + 3) L (.int 0 :: st) (mW k mo ad M1)) : Wx p l e R s m args below meth c k A nL Q bc bs pc L (a3 :: a2 :: a1 :: .ref mo :: st) (mW k mo ad M) :=
  x_cVb3 G (N := 66) (T := TX11) hM mW_mo.1 mW_mo.2 (by rw [hy]; rfl) hlk hv hR hw8 hb1 hb2 d kt kf
theorem x_cS3 {bc1 bs1 idx maxL : Nat} {y : MethodName} {bytes : ByteArray} {rt : Option FieldType} {rm : Room} {a1 a2 a3 : Value} (G : GX p l R s m args meth c k A own cc nL ret) {r : Value} (hM : MC l k y (.code y bytes maxL rt) rm [a1, a2, a3] h (pR (some r) h1)) (hlk : Cond.methodLink own idx y ∈ TB) (hv : hSt y bytes maxL rt 3) (hR : rm.frames + 1 ≤ R.frames ∧ 8 + (maxL + 11) + rm.locals ≤ R.locals) (hw8 : (st.map fun v => v.category).sum ≤ 8) (hb1 : bc1 + rm.cells ≤ bc) (hb2 : bs1 + rm.slots ≤ bs) (d : decode cc pc = .ok (.invokestatic idx, 3)) (kk : Wx p l e R s m args below meth c k A nL Q bc1 bs1 (pc + 3) L (r :: st) h1) : Wx p l e R s m args below meth c k A nL Q bc bs pc L (a3 :: a2 :: a1 :: st) h :=
  x_callS G (post := pR (some r) h1) hM hlk hv.1 hv.2.1 hv.2.2.1 hv.2.2.2 hR hw8 hb1 hb2 rfl rfl d (fun v h9 hp => by obtain ⟨e1, rfl⟩ := hp; cases e1; exact kk) (fun E h9 hp => by obtain ⟨e1, -⟩ := hp; cases e1)
theorem x_cSv3 {bc1 bs1 idx maxL : Nat} {y : MethodName} {bytes : ByteArray} {rt : Option FieldType} {rm : Room} {a1 a2 a3 : Value} (G : GX p l R s m args meth c k A own cc nL ret) (hM : MC l k y (.code y bytes maxL rt) rm [a1, a2, a3] h (pR none h1)) (hlk : Cond.methodLink own idx y ∈ TB) (hv : hSt y bytes maxL rt 3) (hR : rm.frames + 1 ≤ R.frames ∧ 8 + (maxL + 11) + rm.locals ≤ R.locals) (hw8 : (st.map fun v => v.category).sum ≤ 8) (hb1 : bc1 + rm.cells ≤ bc) (hb2 : bs1 + rm.slots ≤ bs) (d : decode cc pc = .ok (.invokestatic idx, 3)) (kk : Wx p l e R s m args below meth c k A nL Q bc1 bs1 (pc + 3) L st h1) : Wx p l e R s m args below meth c k A nL Q bc bs pc L (a3 :: a2 :: a1 :: st) h :=
  x_callS G (post := pR none h1) hM hlk hv.1 hv.2.1 hv.2.2.1 hv.2.2.2 hR hw8 hb1 hb2 rfl rfl d (fun v h9 hp => by obtain ⟨e1, rfl⟩ := hp; cases e1; exact kk) (fun E h9 hp => by obtain ⟨e1, -⟩ := hp; cases e1)
theorem x_cSb3 {bc1 bs1 idx maxL : Nat} {y : MethodName} {bytes : ByteArray} {rt : Option FieldType} {rm : Room} {a1 a2 a3 : Value} {P : Prop} [Decidable P] (G : GX p l R s m args meth c k A own cc nL ret) (hM : (P → MC l k y (.code y bytes maxL rt) rm [a1, a2, a3] h (pR (some (.int 1)) h1)) ∧ (¬ P → MC l k y (.code y bytes maxL rt) rm [a1, a2, a3] h (pR (some (.int 0)) h1))) (hlk : Cond.methodLink own idx y ∈ TB) (hv : hSt y bytes maxL rt 3) (hR : rm.frames + 1 ≤ R.frames ∧ 8 + (maxL + 11) + rm.locals ≤ R.locals) (hw8 : (st.map fun v => v.category).sum ≤ 8) (hb1 : bc1 + rm.cells ≤ bc) (hb2 : bs1 + rm.slots ≤ bs) (d : decode cc pc = .ok (.invokestatic idx, 3)) (kt : P → Wx p l e R s m args below meth c k A nL Q bc1 bs1 (pc + 3) L (.int 1 :: st) h1) (kf : ¬ P → Wx p l e R s m args below meth c k A nL Q bc1 bs1 (pc + 3) L (.int 0 :: st) h1) : Wx p l e R s m args below meth c k A nL Q bc bs pc L (a3 :: a2 :: a1 :: st) h := by
  by_cases q : P
  · exact x_cS3 G (hM.1 q) hlk hv hR hw8 hb1 hb2 d (kt q)
  · exact x_cS3 G (hM.2 q) hlk hv hR hw8 hb1 hb2 d (kf q)
theorem x_cSt3 {bc1 bs1 idx maxL : Nat} {y : MethodName} {bytes : ByteArray} {rt : Option FieldType} {rm : Room} {a1 a2 a3 : Value} (G : GX p l R s m args meth c k A own cc nL ret) {E : String} {h0 : Wd} {post : Out → Wd → Prop} (B : RQ below args s R k A h0 post Q) (B2 : TQ below args s R k h0 post Q) (hout : ∀ x ∈ c.exceptionTable.toList, False) (hM : MC l k y (.code y bytes maxL rt) rm [a1, a2, a3] h (pT E h1)) (hlk : Cond.methodLink own idx y ∈ TB) (hv : hSt y bytes maxL rt 3) (hR : rm.frames + 1 ≤ R.frames ∧ 8 + (maxL + 11) + rm.locals ≤ R.locals) (hw8 : (st.map fun v => v.category).sum ≤ 8) (hb1 : bc1 + rm.cells ≤ bc) (hb2 : bs1 + rm.slots ≤ bs) (d : decode cc pc = .ok (.invokestatic idx, 3)) (hp : post (.inr E) h1) : Wx p l e R s m args below meth c k A nL Q bc bs pc L (a3 :: a2 :: a1 :: st) h :=
  x_callS G (post := pT E h1) hM hlk hv.1 hv.2.1 hv.2.2.1 hv.2.2.2 hR hw8 hb1 hb2 rfl rfl d (fun v h9 hp => by obtain ⟨e1, -⟩ := hp; cases e1) (fun E9 h9 hq => by obtain ⟨e1, rfl⟩ := hq; cases e1; exact x_out G B B2 hout hp)
theorem x_cV4 {bc1 bs1 idx maxL : Nat} {y : MethodName} {bytes : ByteArray} {rt : Option FieldType} {rm : Room} {a1 a2 a3 a4 : Value} {ci b N : Nat} {T : u_T} {fs : List Value} (G : GX p l R s m args meth c k A own cc nL ret) {r : Value} (hM : MC l k y (.code y bytes maxL rt) rm (.ref b :: [a1, a2, a3, a4]) h (pR (some r) h1)) (hbm : b ∈ h.1) (hbf : h.2 b = .inr (ci, fs)) (hc : vwCl[ci]? = some (y.cls, T, N)) (hlk : Cond.methodLink own idx y ∈ TB) (hv : hV y bytes maxL rt 4) (hR : rm.frames + 1 ≤ R.frames ∧ 8 + (maxL + 11) + rm.locals ≤ R.locals) (hw8 : (st.map fun v => v.category).sum ≤ 8) (hb1 : bc1 + rm.cells ≤ bc) (hb2 : bs1 + rm.slots ≤ bs) (d : decode cc pc = .ok (.invokevirtual idx, 3)) (kk : Wx p l e R s m args below meth c k A nL Q bc1 bs1 (pc + 3) L (r :: st) h1) : Wx p l e R s m args below meth c k A nL Q bc bs pc L (a4 :: a3 :: a2 :: a1 :: .ref b :: st) h :=
  x_callV G (post := pR (some r) h1) hM hbm hbf hc hlk hv.1 hv.2.1 hv.2.2.1 hv.2.2.2.1 hv.2.2.2.2 hR hw8 hb1 hb2 rfl rfl d (fun v h9 hp => by obtain ⟨e1, rfl⟩ := hp; cases e1; exact kk) (fun E h9 hp => by obtain ⟨e1, -⟩ := hp; cases e1)
theorem x_cVv4 {bc1 bs1 idx maxL : Nat} {y : MethodName} {bytes : ByteArray} {rt : Option FieldType} {rm : Room} {a1 a2 a3 a4 : Value} {ci b N : Nat} {T : u_T} {fs : List Value} (G : GX p l R s m args meth c k A own cc nL ret) (hM : MC l k y (.code y bytes maxL rt) rm (.ref b :: [a1, a2, a3, a4]) h (pR none h1)) (hbm : b ∈ h.1) (hbf : h.2 b = .inr (ci, fs)) (hc : vwCl[ci]? = some (y.cls, T, N)) (hlk : Cond.methodLink own idx y ∈ TB) (hv : hV y bytes maxL rt 4) (hR : rm.frames + 1 ≤ R.frames ∧ 8 + (maxL + 11) + rm.locals ≤ R.locals) (hw8 : (st.map fun v => v.category).sum ≤ 8) (hb1 : bc1 + rm.cells ≤ bc) (hb2 : bs1 + rm.slots ≤ bs) (d : decode cc pc = .ok (.invokevirtual idx, 3)) (kk : Wx p l e R s m args below meth c k A nL Q bc1 bs1 (pc + 3) L st h1) : Wx p l e R s m args below meth c k A nL Q bc bs pc L (a4 :: a3 :: a2 :: a1 :: .ref b :: st) h :=
  x_callV G (post := pR none h1) hM hbm hbf hc hlk hv.1 hv.2.1 hv.2.2.1 hv.2.2.2.1 hv.2.2.2.2 hR hw8 hb1 hb2 rfl rfl d (fun v h9 hp => by obtain ⟨e1, rfl⟩ := hp; cases e1; exact kk) (fun E h9 hp => by obtain ⟨e1, -⟩ := hp; cases e1)
theorem x_cVb4 {bc1 bs1 idx maxL : Nat} {y : MethodName} {bytes : ByteArray} {rt : Option FieldType} {rm : Room} {a1 a2 a3 a4 : Value} {ci b N : Nat} {T : u_T} {fs : List Value} (G : GX p l R s m args meth c k A own cc nL ret) {P : Prop} [Decidable P] (hM : (P → MC l k y (.code y bytes maxL rt) rm (.ref b :: [a1, a2, a3, a4]) h (pR (some (.int 1)) h1)) ∧ (¬ P → MC l k y (.code y bytes maxL rt) rm (.ref b :: [a1, a2, a3, a4]) h (pR (some (.int 0)) h1))) (hbm : b ∈ h.1) (hbf : h.2 b = .inr (ci, fs)) (hc : vwCl[ci]? = some (y.cls, T, N)) (hlk : Cond.methodLink own idx y ∈ TB) (hv : hV y bytes maxL rt 4) (hR : rm.frames + 1 ≤ R.frames ∧ 8 + (maxL + 11) + rm.locals ≤ R.locals) (hw8 : (st.map fun v => v.category).sum ≤ 8) (hb1 : bc1 + rm.cells ≤ bc) (hb2 : bs1 + rm.slots ≤ bs) (d : decode cc pc = .ok (.invokevirtual idx, 3)) (kt : P → Wx p l e R s m args below meth c k A nL Q bc1 bs1 (pc + 3) L (.int 1 :: st) h1) (kf : ¬ P → Wx p l e R s m args below meth c k A nL Q bc1 bs1 (pc + 3) L (.int 0 :: st) h1) : Wx p l e R s m args below meth c k A nL Q bc bs pc L (a4 :: a3 :: a2 :: a1 :: .ref b :: st) h := by
  by_cases q : P
  · exact x_cV4 G (hM.1 q) hbm hbf hc hlk hv hR hw8 hb1 hb2 d (kt q)
  · exact x_cV4 G (hM.2 q) hbm hbf hc hlk hv hR hw8 hb1 hb2 d (kf q)
theorem x_cVt4 {bc1 bs1 idx maxL : Nat} {y : MethodName} {bytes : ByteArray} {rt : Option FieldType} {rm : Room} {a1 a2 a3 a4 : Value} {ci b N : Nat} {T : u_T} {fs : List Value} (G : GX p l R s m args meth c k A own cc nL ret) {E : String} {h0 : Wd} {post : Out → Wd → Prop} (B : RQ below args s R k A h0 post Q) (B2 : TQ below args s R k h0 post Q) (hout : ∀ x ∈ c.exceptionTable.toList, False) (hM : MC l k y (.code y bytes maxL rt) rm (.ref b :: [a1, a2, a3, a4]) h (pT E h1)) (hbm : b ∈ h.1) (hbf : h.2 b = .inr (ci, fs)) (hc : vwCl[ci]? = some (y.cls, T, N)) (hlk : Cond.methodLink own idx y ∈ TB) (hv : hV y bytes maxL rt 4) (hR : rm.frames + 1 ≤ R.frames ∧ 8 + (maxL + 11) + rm.locals ≤ R.locals) (hw8 : (st.map fun v => v.category).sum ≤ 8) (hb1 : bc1 + rm.cells ≤ bc) (hb2 : bs1 + rm.slots ≤ bs) (d : decode cc pc = .ok (.invokevirtual idx, 3)) (hp : post (.inr E) h1) : Wx p l e R s m args below meth c k A nL Q bc bs pc L (a4 :: a3 :: a2 :: a1 :: .ref b :: st) h :=
  x_callV G (post := pT E h1) hM hbm hbf hc hlk hv.1 hv.2.1 hv.2.2.1 hv.2.2.2.1 hv.2.2.2.2 hR hw8 hb1 hb2 rfl rfl d (fun v h9 hp => by obtain ⟨e1, -⟩ := hp; cases e1) (fun E9 h9 hq => by obtain ⟨e1, rfl⟩ := hq; cases e1; exact x_out G B B2 hout hp)
theorem y_c4 {bc1 bs1 idx maxL : Nat} {y : MethodName} {bytes : ByteArray} {rt : Option FieldType} {rm : Room} {a1 a2 a3 a4 : Value} {r : Value} {M1 : MS} (G : GX p l R s m args meth c k A RX11 cc nL ret) (hM : CM l k mo ad y (.code y bytes maxL rt) rm [a1, a2, a3, a4] M (some r) M1) (hlk : Cond.methodLink RX11 idx y ∈ TB) (hv : hV y bytes maxL rt 4) (hy : y.cls = RX11) (hR : rm.frames + 1 ≤ R.frames ∧ 8 + (maxL + 11) + rm.locals ≤ R.locals) (hw8 : (st.map fun v => v.category).sum ≤ 8) (hb1 : bc1 + rm.cells ≤ bc) (hb2 : bs1 + rm.slots ≤ bs) (d : decode cc pc = .ok (.invokevirtual idx, 3)) (kk : Wx p l e R s m args below meth c k A nL Q bc1 bs1 (pc + 3) L (r :: st) (mW k mo ad M1)) : Wx p l e R s m args below meth c k A nL Q bc bs pc L (a4 :: a3 :: a2 :: a1 :: .ref mo :: st) (mW k mo ad M) :=
  x_cV4 G (N := 66) (T := TX11) hM mW_mo.1 mW_mo.2 (by rw [hy]; rfl) hlk hv hR hw8 hb1 hb2 d kk
theorem y_cv4 {bc1 bs1 idx maxL : Nat} {y : MethodName} {bytes : ByteArray} {rt : Option FieldType} {rm : Room} {a1 a2 a3 a4 : Value} {M1 : MS} (G : GX p l R s m args meth c k A RX11 cc nL ret) (hM : CM l k mo ad y (.code y bytes maxL rt) rm [a1, a2, a3, a4] M none M1) (hlk : Cond.methodLink RX11 idx y ∈ TB) (hv : hV y bytes maxL rt 4) (hy : y.cls = RX11) (hR : rm.frames + 1 ≤ R.frames ∧ 8 + (maxL + 11) + rm.locals ≤ R.locals) (hw8 : (st.map fun v => v.category).sum ≤ 8) (hb1 : bc1 + rm.cells ≤ bc) (hb2 : bs1 + rm.slots ≤ bs) (d : decode cc pc = .ok (.invokevirtual idx, 3)) (kk : Wx p l e R s m args below meth c k A nL Q bc1 bs1 (pc + 3) L st (mW k mo ad M1)) : Wx p l e R s m args below meth c k A nL Q bc bs pc L (a4 :: a3 :: a2 :: a1 :: .ref mo :: st) (mW k mo ad M) :=
  x_cVv4 G (N := 66) (T := TX11) hM mW_mo.1 mW_mo.2 (by rw [hy]; rfl) hlk hv hR hw8 hb1 hb2 d kk
theorem y_cb4 {bc1 bs1 idx maxL : Nat} {y : MethodName} {bytes : ByteArray} {rt : Option FieldType} {rm : Room} {a1 a2 a3 a4 : Value} {P : Prop} [Decidable P] {M1 : MS} (G : GX p l R s m args meth c k A RX11 cc nL ret) (hM : (P → CM l k mo ad y (.code y bytes maxL rt) rm [a1, a2, a3, a4] M (some (.int 1)) M1) ∧ (¬ P → CM l k mo ad y (.code y bytes maxL rt) rm [a1, a2, a3, a4] M (some (.int 0)) M1)) (hlk : Cond.methodLink RX11 idx y ∈ TB) (hv : hV y bytes maxL rt 4) (hy : y.cls = RX11) (hR : rm.frames + 1 ≤ R.frames ∧ 8 + (maxL + 11) + rm.locals ≤ R.locals) (hw8 : (st.map fun v => v.category).sum ≤ 8) (hb1 : bc1 + rm.cells ≤ bc) (hb2 : bs1 + rm.slots ≤ bs) (d : decode cc pc = .ok (.invokevirtual idx, 3)) (kt : P → Wx p l e R s m args below meth c k A nL Q bc1 bs1 (pc + 3) L (.int 1 :: st) (mW k mo ad M1)) (kf : ¬ P → Wx p l e R s m args below meth c k A nL Q bc1 bs1 (pc + 3) L (.int 0 :: st) (mW k mo ad M1)) : Wx p l e R s m args below meth c k A nL Q bc bs pc L (a4 :: a3 :: a2 :: a1 :: .ref mo :: st) (mW k mo ad M) :=
  x_cVb4 G (N := 66) (T := TX11) hM mW_mo.1 mW_mo.2 (by rw [hy]; rfl) hlk hv hR hw8 hb1 hb2 d kt kf
theorem x_cS4 {bc1 bs1 idx maxL : Nat} {y : MethodName} {bytes : ByteArray} {rt : Option FieldType} {rm : Room} {a1 a2 a3 a4 : Value} (G : GX p l R s m args meth c k A own cc nL ret) {r : Value} (hM : MC l k y (.code y bytes maxL rt) rm [a1, a2, a3, a4] h (pR (some r) h1)) (hlk : Cond.methodLink own idx y ∈ TB) (hv : hSt y bytes maxL rt 4) (hR : rm.frames + 1 ≤ R.frames ∧ 8 + (maxL + 11) + rm.locals ≤ R.locals) (hw8 : (st.map fun v => v.category).sum ≤ 8) (hb1 : bc1 + rm.cells ≤ bc) (hb2 : bs1 + rm.slots ≤ bs) (d : decode cc pc = .ok (.invokestatic idx, 3)) (kk : Wx p l e R s m args below meth c k A nL Q bc1 bs1 (pc + 3) L (r :: st) h1) : Wx p l e R s m args below meth c k A nL Q bc bs pc L (a4 :: a3 :: a2 :: a1 :: st) h :=
  x_callS G (post := pR (some r) h1) hM hlk hv.1 hv.2.1 hv.2.2.1 hv.2.2.2 hR hw8 hb1 hb2 rfl rfl d (fun v h9 hp => by obtain ⟨e1, rfl⟩ := hp; cases e1; exact kk) (fun E h9 hp => by obtain ⟨e1, -⟩ := hp; cases e1)
theorem x_cSv4 {bc1 bs1 idx maxL : Nat} {y : MethodName} {bytes : ByteArray} {rt : Option FieldType} {rm : Room} {a1 a2 a3 a4 : Value} (G : GX p l R s m args meth c k A own cc nL ret) (hM : MC l k y (.code y bytes maxL rt) rm [a1, a2, a3, a4] h (pR none h1)) (hlk : Cond.methodLink own idx y ∈ TB) (hv : hSt y bytes maxL rt 4) (hR : rm.frames + 1 ≤ R.frames ∧ 8 + (maxL + 11) + rm.locals ≤ R.locals) (hw8 : (st.map fun v => v.category).sum ≤ 8) (hb1 : bc1 + rm.cells ≤ bc) (hb2 : bs1 + rm.slots ≤ bs) (d : decode cc pc = .ok (.invokestatic idx, 3)) (kk : Wx p l e R s m args below meth c k A nL Q bc1 bs1 (pc + 3) L st h1) : Wx p l e R s m args below meth c k A nL Q bc bs pc L (a4 :: a3 :: a2 :: a1 :: st) h :=
  x_callS G (post := pR none h1) hM hlk hv.1 hv.2.1 hv.2.2.1 hv.2.2.2 hR hw8 hb1 hb2 rfl rfl d (fun v h9 hp => by obtain ⟨e1, rfl⟩ := hp; cases e1; exact kk) (fun E h9 hp => by obtain ⟨e1, -⟩ := hp; cases e1)
theorem x_cSb4 {bc1 bs1 idx maxL : Nat} {y : MethodName} {bytes : ByteArray} {rt : Option FieldType} {rm : Room} {a1 a2 a3 a4 : Value} {P : Prop} [Decidable P] (G : GX p l R s m args meth c k A own cc nL ret) (hM : (P → MC l k y (.code y bytes maxL rt) rm [a1, a2, a3, a4] h (pR (some (.int 1)) h1)) ∧ (¬ P → MC l k y (.code y bytes maxL rt) rm [a1, a2, a3, a4] h (pR (some (.int 0)) h1))) (hlk : Cond.methodLink own idx y ∈ TB) (hv : hSt y bytes maxL rt 4) (hR : rm.frames + 1 ≤ R.frames ∧ 8 + (maxL + 11) + rm.locals ≤ R.locals) (hw8 : (st.map fun v => v.category).sum ≤ 8) (hb1 : bc1 + rm.cells ≤ bc) (hb2 : bs1 + rm.slots ≤ bs) (d : decode cc pc = .ok (.invokestatic idx, 3)) (kt : P → Wx p l e R s m args below meth c k A nL Q bc1 bs1 (pc + 3) L (.int 1 :: st) h1) (kf : ¬ P → Wx p l e R s m args below meth c k A nL Q bc1 bs1 (pc + 3) L (.int 0 :: st) h1) : Wx p l e R s m args below meth c k A nL Q bc bs pc L (a4 :: a3 :: a2 :: a1 :: st) h := by
  by_cases q : P
  · exact x_cS4 G (hM.1 q) hlk hv hR hw8 hb1 hb2 d (kt q)
  · exact x_cS4 G (hM.2 q) hlk hv hR hw8 hb1 hb2 d (kf q)
theorem x_cSt4 {bc1 bs1 idx maxL : Nat} {y : MethodName} {bytes : ByteArray} {rt : Option FieldType} {rm : Room} {a1 a2 a3 a4 : Value} (G : GX p l R s m args meth c k A own cc nL ret) {E : String} {h0 : Wd} {post : Out → Wd → Prop} (B : RQ below args s R k A h0 post Q) (B2 : TQ below args s R k h0 post Q) (hout : ∀ x ∈ c.exceptionTable.toList, False) (hM : MC l k y (.code y bytes maxL rt) rm [a1, a2, a3, a4] h (pT E h1)) (hlk : Cond.methodLink own idx y ∈ TB) (hv : hSt y bytes maxL rt 4) (hR : rm.frames + 1 ≤ R.frames ∧ 8 + (maxL + 11) + rm.locals ≤ R.locals) (hw8 : (st.map fun v => v.category).sum ≤ 8) (hb1 : bc1 + rm.cells ≤ bc) (hb2 : bs1 + rm.slots ≤ bs) (d : decode cc pc = .ok (.invokestatic idx, 3)) (hp : post (.inr E) h1) : Wx p l e R s m args below meth c k A nL Q bc bs pc L (a4 :: a3 :: a2 :: a1 :: st) h :=
  x_callS G (post := pT E h1) hM hlk hv.1 hv.2.1 hv.2.2.1 hv.2.2.2 hR hw8 hb1 hb2 rfl rfl d (fun v h9 hp => by obtain ⟨e1, -⟩ := hp; cases e1) (fun E9 h9 hq => by obtain ⟨e1, rfl⟩ := hq; cases e1; exact x_out G B B2 hout hp)
theorem x_cV5 {bc1 bs1 idx maxL : Nat} {y : MethodName} {bytes : ByteArray} {rt : Option FieldType} {rm : Room} {a1 a2 a3 a4 a5 : Value} {ci b N : Nat} {T : u_T} {fs : List Value} (G : GX p l R s m args meth c k A own cc nL ret) {r : Value} (hM : MC l k y (.code y bytes maxL rt) rm (.ref b :: [a1, a2, a3, a4, a5]) h (pR (some r) h1)) (hbm : b ∈ h.1) (hbf : h.2 b = .inr (ci, fs)) (hc : vwCl[ci]? = some (y.cls, T, N)) (hlk : Cond.methodLink own idx y ∈ TB) (hv : hV y bytes maxL rt 5) (hR : rm.frames + 1 ≤ R.frames ∧ 8 + (maxL + 11) + rm.locals ≤ R.locals) (hw8 : (st.map fun v => v.category).sum ≤ 8) (hb1 : bc1 + rm.cells ≤ bc) (hb2 : bs1 + rm.slots ≤ bs) (d : decode cc pc = .ok (.invokevirtual idx, 3)) (kk : Wx p l e R s m args below meth c k A nL Q bc1 bs1 (pc + 3) L (r :: st) h1) : Wx p l e R s m args below meth c k A nL Q bc bs pc L (a5 :: a4 :: a3 :: a2 :: a1 :: .ref b :: st) h :=
  x_callV G (post := pR (some r) h1) hM hbm hbf hc hlk hv.1 hv.2.1 hv.2.2.1 hv.2.2.2.1 hv.2.2.2.2 hR hw8 hb1 hb2 rfl rfl d (fun v h9 hp => by obtain ⟨e1, rfl⟩ := hp; cases e1; exact kk) (fun E h9 hp => by obtain ⟨e1, -⟩ := hp; cases e1)
theorem x_cVv5 {bc1 bs1 idx maxL : Nat} {y : MethodName} {bytes : ByteArray} {rt : Option FieldType} {rm : Room} {a1 a2 a3 a4 a5 : Value} {ci b N : Nat} {T : u_T} {fs : List Value} (G : GX p l R s m args meth c k A own cc nL ret) (hM : MC l k y (.code y bytes maxL rt) rm (.ref b :: [a1, a2, a3, a4, a5]) h (pR none h1)) (hbm : b ∈ h.1) (hbf : h.2 b = .inr (ci, fs)) (hc : vwCl[ci]? = some (y.cls, T, N)) (hlk : Cond.methodLink own idx y ∈ TB) (hv : hV y bytes maxL rt 5) (hR : rm.frames + 1 ≤ R.frames ∧ 8 + (maxL + 11) + rm.locals ≤ R.locals) (hw8 : (st.map fun v => v.category).sum ≤ 8) (hb1 : bc1 + rm.cells ≤ bc) (hb2 : bs1 + rm.slots ≤ bs) (d : decode cc pc = .ok (.invokevirtual idx, 3)) (kk : Wx p l e R s m args below meth c k A nL Q bc1 bs1 (pc + 3) L st h1) : Wx p l e R s m args below meth c k A nL Q bc bs pc L (a5 :: a4 :: a3 :: a2 :: a1 :: .ref b :: st) h :=
  x_callV G (post := pR none h1) hM hbm hbf hc hlk hv.1 hv.2.1 hv.2.2.1 hv.2.2.2.1 hv.2.2.2.2 hR hw8 hb1 hb2 rfl rfl d (fun v h9 hp => by obtain ⟨e1, rfl⟩ := hp; cases e1; exact kk) (fun E h9 hp => by obtain ⟨e1, -⟩ := hp; cases e1)
theorem x_cVb5 {bc1 bs1 idx maxL : Nat} {y : MethodName} {bytes : ByteArray} {rt : Option FieldType} {rm : Room} {a1 a2 a3 a4 a5 : Value} {ci b N : Nat} {T : u_T} {fs : List Value} (G : GX p l R s m args meth c k A own cc nL ret) {P : Prop} [Decidable P] (hM : (P → MC l k y (.code y bytes maxL rt) rm (.ref b :: [a1, a2, a3, a4, a5]) h (pR (some (.int 1)) h1)) ∧ (¬ P → MC l k y (.code y bytes maxL rt) rm (.ref b :: [a1, a2, a3, a4, a5]) h (pR (some (.int 0)) h1))) (hbm : b ∈ h.1) (hbf : h.2 b = .inr (ci, fs)) (hc : vwCl[ci]? = some (y.cls, T, N)) (hlk : Cond.methodLink own idx y ∈ TB) (hv : hV y bytes maxL rt 5) (hR : rm.frames + 1 ≤ R.frames ∧ 8 + (maxL + 11) + rm.locals ≤ R.locals) (hw8 : (st.map fun v => v.category).sum ≤ 8) (hb1 : bc1 + rm.cells ≤ bc) (hb2 : bs1 + rm.slots ≤ bs) (d : decode cc pc = .ok (.invokevirtual idx, 3)) (kt : P → Wx p l e R s m args below meth c k A nL Q bc1 bs1 (pc + 3) L (.int 1 :: st) h1) (kf : ¬ P → Wx p l e R s m args below meth c k A nL Q bc1 bs1 (pc + 3) L (.int 0 :: st) h1) : Wx p l e R s m args below meth c k A nL Q bc bs pc L (a5 :: a4 :: a3 :: a2 :: a1 :: .ref b :: st) h := by
  by_cases q : P
  · exact x_cV5 G (hM.1 q) hbm hbf hc hlk hv hR hw8 hb1 hb2 d (kt q)
  · exact x_cV5 G (hM.2 q) hbm hbf hc hlk hv hR hw8 hb1 hb2 d (kf q)
theorem x_cVt5 {bc1 bs1 idx maxL : Nat} {y : MethodName} {bytes : ByteArray} {rt : Option FieldType} {rm : Room} {a1 a2 a3 a4 a5 : Value} {ci b N : Nat} {T : u_T} {fs : List Value} (G : GX p l R s m args meth c k A own cc nL ret) {E : String} {h0 : Wd} {post : Out → Wd → Prop} (B : RQ below args s R k A h0 post Q) (B2 : TQ below args s R k h0 post Q) (hout : ∀ x ∈ c.exceptionTable.toList, False) (hM : MC l k y (.code y bytes maxL rt) rm (.ref b :: [a1, a2, a3, a4, a5]) h (pT E h1)) (hbm : b ∈ h.1) (hbf : h.2 b = .inr (ci, fs)) (hc : vwCl[ci]? = some (y.cls, T, N)) (hlk : Cond.methodLink own idx y ∈ TB) (hv : hV y bytes maxL rt 5) (hR : rm.frames + 1 ≤ R.frames ∧ 8 + (maxL + 11) + rm.locals ≤ R.locals) (hw8 : (st.map fun v => v.category).sum ≤ 8) (hb1 : bc1 + rm.cells ≤ bc) (hb2 : bs1 + rm.slots ≤ bs) (d : decode cc pc = .ok (.invokevirtual idx, 3)) (hp : post (.inr E) h1) : Wx p l e R s m args below meth c k A nL Q bc bs pc L (a5 :: a4 :: a3 :: a2 :: a1 :: .ref b :: st) h :=
  x_callV G (post := pT E h1) hM hbm hbf hc hlk hv.1 hv.2.1 hv.2.2.1 hv.2.2.2.1 hv.2.2.2.2 hR hw8 hb1 hb2 rfl rfl d (fun v h9 hp => by obtain ⟨e1, -⟩ := hp; cases e1) (fun E9 h9 hq => by obtain ⟨e1, rfl⟩ := hq; cases e1; exact x_out G B B2 hout hp)
theorem y_c5 {bc1 bs1 idx maxL : Nat} {y : MethodName} {bytes : ByteArray} {rt : Option FieldType} {rm : Room} {a1 a2 a3 a4 a5 : Value} {r : Value} {M1 : MS} (G : GX p l R s m args meth c k A RX11 cc nL ret) (hM : CM l k mo ad y (.code y bytes maxL rt) rm [a1, a2, a3, a4, a5] M (some r) M1) (hlk : Cond.methodLink RX11 idx y ∈ TB) (hv : hV y bytes maxL rt 5) (hy : y.cls = RX11) (hR : rm.frames + 1 ≤ R.frames ∧ 8 + (maxL + 11) + rm.locals ≤ R.locals) (hw8 : (st.map fun v => v.category).sum ≤ 8) (hb1 : bc1 + rm.cells ≤ bc) (hb2 : bs1 + rm.slots ≤ bs) (d : decode cc pc = .ok (.invokevirtual idx, 3)) (kk : Wx p l e R s m args below meth c k A nL Q bc1 bs1 (pc + 3) L (r :: st) (mW k mo ad M1)) : Wx p l e R s m args below meth c k A nL Q bc bs pc L (a5 :: a4 :: a3 :: a2 :: a1 :: .ref mo :: st) (mW k mo ad M) :=
  x_cV5 G (N := 66) (T := TX11) hM mW_mo.1 mW_mo.2 (by rw [hy]; rfl) hlk hv hR hw8 hb1 hb2 d kk
theorem y_cv5 {bc1 bs1 idx maxL : Nat} {y : MethodName} {bytes : ByteArray} {rt : Option FieldType} {rm : Room} {a1 a2 a3 a4 a5 : Value} {M1 : MS} (G : GX p l R s m args meth c k A RX11 cc nL ret) (hM : CM l k mo ad y (.code y bytes maxL rt) rm [a1, a2, a3, a4, a5] M none M1) (hlk : Cond.methodLink RX11 idx y ∈ TB) (hv : hV y bytes maxL rt 5) (hy : y.cls = RX11) (hR : rm.frames + 1 ≤ R.frames ∧ 8 + (maxL + 11) + rm.locals ≤ R.locals) (hw8 : (st.map fun v => v.category).sum ≤ 8) (hb1 : bc1 + rm.cells ≤ bc) (hb2 : bs1 + rm.slots ≤ bs) (d : decode cc pc = .ok (.invokevirtual idx, 3)) (kk : Wx p l e R s m args below meth c k A nL Q bc1 bs1 (pc + 3) L st (mW k mo ad M1)) : Wx p l e R s m args below meth c k A nL Q bc bs pc L (a5 :: a4 :: a3 :: a2 :: a1 :: .ref mo :: st) (mW k mo ad M) :=
  x_cVv5 G (N := 66) (T := TX11) hM mW_mo.1 mW_mo.2 (by rw [hy]; rfl) hlk hv hR hw8 hb1 hb2 d kk
theorem y_cb5 {bc1 bs1 idx maxL : Nat} {y : MethodName} {bytes : ByteArray} {rt : Option FieldType} {rm : Room} {a1 a2 a3 a4 a5 : Value} {P : Prop} [Decidable P] {M1 : MS} (G : GX p l R s m args meth c k A RX11 cc nL ret) (hM : (P → CM l k mo ad y (.code y bytes maxL rt) rm [a1, a2, a3, a4, a5] M (some (.int 1)) M1) ∧ (¬ P → CM l k mo ad y (.code y bytes maxL rt) rm [a1, a2, a3, a4, a5] M (some (.int 0)) M1)) (hlk : Cond.methodLink RX11 idx y ∈ TB) (hv : hV y bytes maxL rt 5) (hy : y.cls = RX11) (hR : rm.frames + 1 ≤ R.frames ∧ 8 + (maxL + 11) + rm.locals ≤ R.locals) (hw8 : (st.map fun v => v.category).sum ≤ 8) (hb1 : bc1 + rm.cells ≤ bc) (hb2 : bs1 + rm.slots ≤ bs) (d : decode cc pc = .ok (.invokevirtual idx, 3)) (kt : P → Wx p l e R s m args below meth c k A nL Q bc1 bs1 (pc + 3) L (.int 1 :: st) (mW k mo ad M1)) (kf : ¬ P → Wx p l e R s m args below meth c k A nL Q bc1 bs1 (pc + 3) L (.int 0 :: st) (mW k mo ad M1)) : Wx p l e R s m args below meth c k A nL Q bc bs pc L (a5 :: a4 :: a3 :: a2 :: a1 :: .ref mo :: st) (mW k mo ad M) :=
  x_cVb5 G (N := 66) (T := TX11) hM mW_mo.1 mW_mo.2 (by rw [hy]; rfl) hlk hv hR hw8 hb1 hb2 d kt kf
theorem x_cS5 {bc1 bs1 idx maxL : Nat} {y : MethodName} {bytes : ByteArray} {rt : Option FieldType} {rm : Room} {a1 a2 a3 a4 a5 : Value} (G : GX p l R s m args meth c k A own cc nL ret) {r : Value} (hM : MC l k y (.code y bytes maxL rt) rm [a1, a2, a3, a4, a5] h (pR (some r) h1)) (hlk : Cond.methodLink own idx y ∈ TB) (hv : hSt y bytes maxL rt 5) (hR : rm.frames + 1 ≤ R.frames ∧ 8 + (maxL + 11) + rm.locals ≤ R.locals) (hw8 : (st.map fun v => v.category).sum ≤ 8) (hb1 : bc1 + rm.cells ≤ bc) (hb2 : bs1 + rm.slots ≤ bs) (d : decode cc pc = .ok (.invokestatic idx, 3)) (kk : Wx p l e R s m args below meth c k A nL Q bc1 bs1 (pc + 3) L (r :: st) h1) : Wx p l e R s m args below meth c k A nL Q bc bs pc L (a5 :: a4 :: a3 :: a2 :: a1 :: st) h :=
  x_callS G (post := pR (some r) h1) hM hlk hv.1 hv.2.1 hv.2.2.1 hv.2.2.2 hR hw8 hb1 hb2 rfl rfl d (fun v h9 hp => by obtain ⟨e1, rfl⟩ := hp; cases e1; exact kk) (fun E h9 hp => by obtain ⟨e1, -⟩ := hp; cases e1)
theorem x_cSv5 {bc1 bs1 idx maxL : Nat} {y : MethodName} {bytes : ByteArray} {rt : Option FieldType} {rm : Room} {a1 a2 a3 a4 a5 : Value} (G : GX p l R s m args meth c k A own cc nL ret) (hM : MC l k y (.code y bytes maxL rt) rm [a1, a2, a3, a4, a5] h (pR none h1)) (hlk : Cond.methodLink own idx y ∈ TB) (hv : hSt y bytes maxL rt 5) (hR : rm.frames + 1 ≤ R.frames ∧ 8 + (maxL + 11) + rm.locals ≤ R.locals) (hw8 : (st.map fun v => v.category).sum ≤ 8) (hb1 : bc1 + rm.cells ≤ bc) (hb2 : bs1 + rm.slots ≤ bs) (d : decode cc pc = .ok (.invokestatic idx, 3)) (kk : Wx p l e R s m args below meth c k A nL Q bc1 bs1 (pc + 3) L st h1) : Wx p l e R s m args below meth c k A nL Q bc bs pc L (a5 :: a4 :: a3 :: a2 :: a1 :: st) h :=
  x_callS G (post := pR none h1) hM hlk hv.1 hv.2.1 hv.2.2.1 hv.2.2.2 hR hw8 hb1 hb2 rfl rfl d (fun v h9 hp => by obtain ⟨e1, rfl⟩ := hp; cases e1; exact kk) (fun E h9 hp => by obtain ⟨e1, -⟩ := hp; cases e1)
theorem x_cSb5 {bc1 bs1 idx maxL : Nat} {y : MethodName} {bytes : ByteArray} {rt : Option FieldType} {rm : Room} {a1 a2 a3 a4 a5 : Value} {P : Prop} [Decidable P] (G : GX p l R s m args meth c k A own cc nL ret) (hM : (P → MC l k y (.code y bytes maxL rt) rm [a1, a2, a3, a4, a5] h (pR (some (.int 1)) h1)) ∧ (¬ P → MC l k y (.code y bytes maxL rt) rm [a1, a2, a3, a4, a5] h (pR (some (.int 0)) h1))) (hlk : Cond.methodLink own idx y ∈ TB) (hv : hSt y bytes maxL rt 5) (hR : rm.frames + 1 ≤ R.frames ∧ 8 + (maxL + 11) + rm.locals ≤ R.locals) (hw8 : (st.map fun v => v.category).sum ≤ 8) (hb1 : bc1 + rm.cells ≤ bc) (hb2 : bs1 + rm.slots ≤ bs) (d : decode cc pc = .ok (.invokestatic idx, 3)) (kt : P → Wx p l e R s m args below meth c k A nL Q bc1 bs1 (pc + 3) L (.int 1 :: st) h1) (kf : ¬ P → Wx p l e R s m args below meth c k A nL Q bc1 bs1 (pc + 3) L (.int 0 :: st) h1) : Wx p l e R s m args below meth c k A nL Q bc bs pc L (a5 :: a4 :: a3 :: a2 :: a1 :: st) h := by
  by_cases q : P
  · exact x_cS5 G (hM.1 q) hlk hv hR hw8 hb1 hb2 d (kt q)
  · exact x_cS5 G (hM.2 q) hlk hv hR hw8 hb1 hb2 d (kf q)
theorem x_cSt5 {bc1 bs1 idx maxL : Nat} {y : MethodName} {bytes : ByteArray} {rt : Option FieldType} {rm : Room} {a1 a2 a3 a4 a5 : Value} (G : GX p l R s m args meth c k A own cc nL ret) {E : String} {h0 : Wd} {post : Out → Wd → Prop} (B : RQ below args s R k A h0 post Q) (B2 : TQ below args s R k h0 post Q) (hout : ∀ x ∈ c.exceptionTable.toList, False) (hM : MC l k y (.code y bytes maxL rt) rm [a1, a2, a3, a4, a5] h (pT E h1)) (hlk : Cond.methodLink own idx y ∈ TB) (hv : hSt y bytes maxL rt 5) (hR : rm.frames + 1 ≤ R.frames ∧ 8 + (maxL + 11) + rm.locals ≤ R.locals) (hw8 : (st.map fun v => v.category).sum ≤ 8) (hb1 : bc1 + rm.cells ≤ bc) (hb2 : bs1 + rm.slots ≤ bs) (d : decode cc pc = .ok (.invokestatic idx, 3)) (hp : post (.inr E) h1) : Wx p l e R s m args below meth c k A nL Q bc bs pc L (a5 :: a4 :: a3 :: a2 :: a1 :: st) h :=
  x_callS G (post := pT E h1) hM hlk hv.1 hv.2.1 hv.2.2.1 hv.2.2.2 hR hw8 hb1 hb2 rfl rfl d (fun v h9 hp => by obtain ⟨e1, -⟩ := hp; cases e1) (fun E9 h9 hq => by obtain ⟨e1, rfl⟩ := hq; cases e1; exact x_out G B B2 hout hp)
theorem x_cV6 {bc1 bs1 idx maxL : Nat} {y : MethodName} {bytes : ByteArray} {rt : Option FieldType} {rm : Room} {a1 a2 a3 a4 a5 a6 : Value} {ci b N : Nat} {T : u_T} {fs : List Value} (G : GX p l R s m args meth c k A own cc nL ret) {r : Value} (hM : MC l k y (.code y bytes maxL rt) rm (.ref b :: [a1, a2, a3, a4, a5, a6]) h (pR (some r) h1)) (hbm : b ∈ h.1) (hbf : h.2 b = .inr (ci, fs)) (hc : vwCl[ci]? = some (y.cls, T, N)) (hlk : Cond.methodLink own idx y ∈ TB) (hv : hV y bytes maxL rt 6) (hR : rm.frames + 1 ≤ R.frames ∧ 8 + (maxL + 11) + rm.locals ≤ R.locals) (hw8 : (st.map fun v => v.category).sum ≤ 8) (hb1 : bc1 + rm.cells ≤ bc) (hb2 : bs1 + rm.slots ≤ bs) (d : decode cc pc = .ok (.invokevirtual idx, 3)) (kk : Wx p l e R s m args below meth c k A nL Q bc1 bs1 (pc + 3) L (r :: st) h1) : Wx p l e R s m args below meth c k A nL Q bc bs pc L (a6 :: a5 :: a4 :: a3 :: a2 :: a1 :: .ref b :: st) h :=
  x_callV G (post := pR (some r) h1) hM hbm hbf hc hlk hv.1 hv.2.1 hv.2.2.1 hv.2.2.2.1 hv.2.2.2.2 hR hw8 hb1 hb2 rfl rfl d (fun v h9 hp => by obtain ⟨e1, rfl⟩ := hp; cases e1; exact kk) (fun E h9 hp => by obtain ⟨e1, -⟩ := hp; cases e1)
theorem x_cVv6 {bc1 bs1 idx maxL : Nat} {y : MethodName} {bytes : ByteArray} {rt : Option FieldType} {rm : Room} {a1 a2 a3 a4 a5 a6 : Value} {ci b N : Nat} {T : u_T} {fs : List Value} (G : GX p l R s m args meth c k A own cc nL ret) (hM : MC l k y (.code y bytes maxL rt) rm (.ref b :: [a1, a2, a3, a4, a5, a6]) h (pR none h1)) (hbm : b ∈ h.1) (hbf : h.2 b = .inr (ci, fs)) (hc : vwCl[ci]? = some (y.cls, T, N)) (hlk : Cond.methodLink own idx y ∈ TB) (hv : hV y bytes maxL rt 6) (hR : rm.frames + 1 ≤ R.frames ∧ 8 + (maxL + 11) + rm.locals ≤ R.locals) (hw8 : (st.map fun v => v.category).sum ≤ 8) (hb1 : bc1 + rm.cells ≤ bc) (hb2 : bs1 + rm.slots ≤ bs) (d : decode cc pc = .ok (.invokevirtual idx, 3)) (kk : Wx p l e R s m args below meth c k A nL Q bc1 bs1 (pc + 3) L st h1) : Wx p l e R s m args below meth c k A nL Q bc bs pc L (a6 :: a5 :: a4 :: a3 :: a2 :: a1 :: .ref b :: st) h :=
  x_callV G (post := pR none h1) hM hbm hbf hc hlk hv.1 hv.2.1 hv.2.2.1 hv.2.2.2.1 hv.2.2.2.2 hR hw8 hb1 hb2 rfl rfl d (fun v h9 hp => by obtain ⟨e1, rfl⟩ := hp; cases e1; exact kk) (fun E h9 hp => by obtain ⟨e1, -⟩ := hp; cases e1)
theorem x_cVb6 {bc1 bs1 idx maxL : Nat} {y : MethodName} {bytes : ByteArray} {rt : Option FieldType} {rm : Room} {a1 a2 a3 a4 a5 a6 : Value} {ci b N : Nat} {T : u_T} {fs : List Value} (G : GX p l R s m args meth c k A own cc nL ret) {P : Prop} [Decidable P] (hM : (P → MC l k y (.code y bytes maxL rt) rm (.ref b :: [a1, a2, a3, a4, a5, a6]) h (pR (some (.int 1)) h1)) ∧ (¬ P → MC l k y (.code y bytes maxL rt) rm (.ref b :: [a1, a2, a3, a4, a5, a6]) h (pR (some (.int 0)) h1))) (hbm : b ∈ h.1) (hbf : h.2 b = .inr (ci, fs)) (hc : vwCl[ci]? = some (y.cls, T, N)) (hlk : Cond.methodLink own idx y ∈ TB) (hv : hV y bytes maxL rt 6) (hR : rm.frames + 1 ≤ R.frames ∧ 8 + (maxL + 11) + rm.locals ≤ R.locals) (hw8 : (st.map fun v => v.category).sum ≤ 8) (hb1 : bc1 + rm.cells ≤ bc) (hb2 : bs1 + rm.slots ≤ bs) (d : decode cc pc = .ok (.invokevirtual idx, 3)) (kt : P → Wx p l e R s m args below meth c k A nL Q bc1 bs1 (pc + 3) L (.int 1 :: st) h1) (kf : ¬ P → Wx p l e R s m args below meth c k A nL Q bc1 bs1 (pc + 3) L (.int 0 :: st) h1) : Wx p l e R s m args below meth c k A nL Q bc bs pc L (a6 :: a5 :: a4 :: a3 :: a2 :: a1 :: .ref b :: st) h := by
  by_cases q : P
  · exact x_cV6 G (hM.1 q) hbm hbf hc hlk hv hR hw8 hb1 hb2 d (kt q)
  · exact x_cV6 G (hM.2 q) hbm hbf hc hlk hv hR hw8 hb1 hb2 d (kf q)
theorem x_cVt6 {bc1 bs1 idx maxL : Nat} {y : MethodName} {bytes : ByteArray} {rt : Option FieldType} {rm : Room} {a1 a2 a3 a4 a5 a6 : Value} {ci b N : Nat} {T : u_T} {fs : List Value} (G : GX p l R s m args meth c k A own cc nL ret) {E : String} {h0 : Wd} {post : Out → Wd → Prop} (B : RQ below args s R k A h0 post Q) (B2 : TQ below args s R k h0 post Q) (hout : ∀ x ∈ c.exceptionTable.toList, False) (hM : MC l k y (.code y bytes maxL rt) rm (.ref b :: [a1, a2, a3, a4, a5, a6]) h (pT E h1)) (hbm : b ∈ h.1) (hbf : h.2 b = .inr (ci, fs)) (hc : vwCl[ci]? = some (y.cls, T, N)) (hlk : Cond.methodLink own idx y ∈ TB) (hv : hV y bytes maxL rt 6) (hR : rm.frames + 1 ≤ R.frames ∧ 8 + (maxL + 11) + rm.locals ≤ R.locals) (hw8 : (st.map fun v => v.category).sum ≤ 8) (hb1 : bc1 + rm.cells ≤ bc) (hb2 : bs1 + rm.slots ≤ bs) (d : decode cc pc = .ok (.invokevirtual idx, 3)) (hp : post (.inr E) h1) : Wx p l e R s m args below meth c k A nL Q bc bs pc L (a6 :: a5 :: a4 :: a3 :: a2 :: a1 :: .ref b :: st) h :=
  x_callV G (post := pT E h1) hM hbm hbf hc hlk hv.1 hv.2.1 hv.2.2.1 hv.2.2.2.1 hv.2.2.2.2 hR hw8 hb1 hb2 rfl rfl d (fun v h9 hp => by obtain ⟨e1, -⟩ := hp; cases e1) (fun E9 h9 hq => by obtain ⟨e1, rfl⟩ := hq; cases e1; exact x_out G B B2 hout hp)
theorem y_c6 {bc1 bs1 idx maxL : Nat} {y : MethodName} {bytes : ByteArray} {rt : Option FieldType} {rm : Room} {a1 a2 a3 a4 a5 a6 : Value} {r : Value} {M1 : MS} (G : GX p l R s m args meth c k A RX11 cc nL ret) (hM : CM l k mo ad y (.code y bytes maxL rt) rm [a1, a2, a3, a4, a5, a6] M (some r) M1) (hlk : Cond.methodLink RX11 idx y ∈ TB) (hv : hV y bytes maxL rt 6) (hy : y.cls = RX11) (hR : rm.frames + 1 ≤ R.frames ∧ 8 + (maxL + 11) + rm.locals ≤ R.locals) (hw8 : (st.map fun v => v.category).sum ≤ 8) (hb1 : bc1 + rm.cells ≤ bc) (hb2 : bs1 + rm.slots ≤ bs) (d : decode cc pc = .ok (.invokevirtual idx, 3)) (kk : Wx p l e R s m args below meth c k A nL Q bc1 bs1 (pc + 3) L (r :: st) (mW k mo ad M1)) : Wx p l e R s m args below meth c k A nL Q bc bs pc L (a6 :: a5 :: a4 :: a3 :: a2 :: a1 :: .ref mo :: st) (mW k mo ad M) :=
  x_cV6 G (N := 66) (T := TX11) hM mW_mo.1 mW_mo.2 (by rw [hy]; rfl) hlk hv hR hw8 hb1 hb2 d kk
theorem y_cv6 {bc1 bs1 idx maxL : Nat} {y : MethodName} {bytes : ByteArray} {rt : Option FieldType} {rm : Room} {a1 a2 a3 a4 a5 a6 : Value} {M1 : MS} (G : GX p l R s m args meth c k A RX11 cc nL ret) (hM : CM l k mo ad y (.code y bytes maxL rt) rm [a1, a2, a3, a4, a5, a6] M none M1) (hlk : Cond.methodLink RX11 idx y ∈ TB) (hv : hV y bytes maxL rt 6) (hy : y.cls = RX11) (hR : rm.frames + 1 ≤ R.frames ∧ 8 + (maxL + 11) + rm.locals ≤ R.locals) (hw8 : (st.map fun v => v.category).sum ≤ 8) (hb1 : bc1 + rm.cells ≤ bc) (hb2 : bs1 + rm.slots ≤ bs) (d : decode cc pc = .ok (.invokevirtual idx, 3)) (kk : Wx p l e R s m args below meth c k A nL Q bc1 bs1 (pc + 3) L st (mW k mo ad M1)) : Wx p l e R s m args below meth c k A nL Q bc bs pc L (a6 :: a5 :: a4 :: a3 :: a2 :: a1 :: .ref mo :: st) (mW k mo ad M) :=
  x_cVv6 G (N := 66) (T := TX11) hM mW_mo.1 mW_mo.2 (by rw [hy]; rfl) hlk hv hR hw8 hb1 hb2 d kk
theorem y_cb6 {bc1 bs1 idx maxL : Nat} {y : MethodName} {bytes : ByteArray} {rt : Option FieldType} {rm : Room} {a1 a2 a3 a4 a5 a6 : Value} {P : Prop} [Decidable P] {M1 : MS} (G : GX p l R s m args meth c k A RX11 cc nL ret) (hM : (P → CM l k mo ad y (.code y bytes maxL rt) rm [a1, a2, a3, a4, a5, a6] M (some (.int 1)) M1) ∧ (¬ P → CM l k mo ad y (.code y bytes maxL rt) rm [a1, a2, a3, a4, a5, a6] M (some (.int 0)) M1)) (hlk : Cond.methodLink RX11 idx y ∈ TB) (hv : hV y bytes maxL rt 6) (hy : y.cls = RX11) (hR : rm.frames + 1 ≤ R.frames ∧ 8 + (maxL + 11) + rm.locals ≤ R.locals) (hw8 : (st.map fun v => v.category).sum ≤ 8) (hb1 : bc1 + rm.cells ≤ bc) (hb2 : bs1 + rm.slots ≤ bs) (d : decode cc pc = .ok (.invokevirtual idx, 3)) (kt : P → Wx p l e R s m args below meth c k A nL Q bc1 bs1 (pc + 3) L (.int 1 :: st) (mW k mo ad M1)) (kf : ¬ P → Wx p l e R s m args below meth c k A nL Q bc1 bs1 (pc + 3) L (.int 0 :: st) (mW k mo ad M1)) : Wx p l e R s m args below meth c k A nL Q bc bs pc L (a6 :: a5 :: a4 :: a3 :: a2 :: a1 :: .ref mo :: st) (mW k mo ad M) :=
  x_cVb6 G (N := 66) (T := TX11) hM mW_mo.1 mW_mo.2 (by rw [hy]; rfl) hlk hv hR hw8 hb1 hb2 d kt kf
theorem x_cS6 {bc1 bs1 idx maxL : Nat} {y : MethodName} {bytes : ByteArray} {rt : Option FieldType} {rm : Room} {a1 a2 a3 a4 a5 a6 : Value} (G : GX p l R s m args meth c k A own cc nL ret) {r : Value} (hM : MC l k y (.code y bytes maxL rt) rm [a1, a2, a3, a4, a5, a6] h (pR (some r) h1)) (hlk : Cond.methodLink own idx y ∈ TB) (hv : hSt y bytes maxL rt 6) (hR : rm.frames + 1 ≤ R.frames ∧ 8 + (maxL + 11) + rm.locals ≤ R.locals) (hw8 : (st.map fun v => v.category).sum ≤ 8) (hb1 : bc1 + rm.cells ≤ bc) (hb2 : bs1 + rm.slots ≤ bs) (d : decode cc pc = .ok (.invokestatic idx, 3)) (kk : Wx p l e R s m args below meth c k A nL Q bc1 bs1 (pc + 3) L (r :: st) h1) : Wx p l e R s m args below meth c k A nL Q bc bs pc L (a6 :: a5 :: a4 :: a3 :: a2 :: a1 :: st) h :=
  x_callS G (post := pR (some r) h1) hM hlk hv.1 hv.2.1 hv.2.2.1 hv.2.2.2 hR hw8 hb1 hb2 rfl rfl d (fun v h9 hp => by obtain ⟨e1, rfl⟩ := hp; cases e1; exact kk) (fun E h9 hp => by obtain ⟨e1, -⟩ := hp; cases e1)
theorem x_cSv6 {bc1 bs1 idx maxL : Nat} {y : MethodName} {bytes : ByteArray} {rt : Option FieldType} {rm : Room} {a1 a2 a3 a4 a5 a6 : Value} (G : GX p l R s m args meth c k A own cc nL ret) (hM : MC l k y (.code y bytes maxL rt) rm [a1, a2, a3, a4, a5, a6] h (pR none h1)) (hlk : Cond.methodLink own idx y ∈ TB) (hv : hSt y bytes maxL rt 6) (hR : rm.frames + 1 ≤ R.frames ∧ 8 + (maxL + 11) + rm.locals ≤ R.locals) (hw8 : (st.map fun v => v.category).sum ≤ 8) (hb1 : bc1 + rm.cells ≤ bc) (hb2 : bs1 + rm.slots ≤ bs) (d : decode cc pc = .ok (.invokestatic idx, 3)) (kk : Wx p l e R s m args below meth c k A nL Q bc1 bs1 (pc + 3) L st h1) : Wx p l e R s m args below meth c k A nL Q bc bs pc L (a6 :: a5 :: a4 :: a3 :: a2 :: a1 :: st) h :=
  x_callS G (post := pR none h1) hM hlk hv.1 hv.2.1 hv.2.2.1 hv.2.2.2 hR hw8 hb1 hb2 rfl rfl d (fun v h9 hp => by obtain ⟨e1, rfl⟩ := hp; cases e1; exact kk) (fun E h9 hp => by obtain ⟨e1, -⟩ := hp; cases e1)
theorem x_cSb6 {bc1 bs1 idx maxL : Nat} {y : MethodName} {bytes : ByteArray} {rt : Option FieldType} {rm : Room} {a1 a2 a3 a4 a5 a6 : Value} {P : Prop} [Decidable P] (G : GX p l R s m args meth c k A own cc nL ret) (hM : (P → MC l k y (.code y bytes maxL rt) rm [a1, a2, a3, a4, a5, a6] h (pR (some (.int 1)) h1)) ∧ (¬ P → MC l k y (.code y bytes maxL rt) rm [a1, a2, a3, a4, a5, a6] h (pR (some (.int 0)) h1))) (hlk : Cond.methodLink own idx y ∈ TB) (hv : hSt y bytes maxL rt 6) (hR : rm.frames + 1 ≤ R.frames ∧ 8 + (maxL + 11) + rm.locals ≤ R.locals) (hw8 : (st.map fun v => v.category).sum ≤ 8) (hb1 : bc1 + rm.cells ≤ bc) (hb2 : bs1 + rm.slots ≤ bs) (d : decode cc pc = .ok (.invokestatic idx, 3)) (kt : P → Wx p l e R s m args below meth c k A nL Q bc1 bs1 (pc + 3) L (.int 1 :: st) h1) (kf : ¬ P → Wx p l e R s m args below meth c k A nL Q bc1 bs1 (pc + 3) L (.int 0 :: st) h1) : Wx p l e R s m args below meth c k A nL Q bc bs pc L (a6 :: a5 :: a4 :: a3 :: a2 :: a1 :: st) h := by
  by_cases q : P
  · exact x_cS6 G (hM.1 q) hlk hv hR hw8 hb1 hb2 d (kt q)
  · exact x_cS6 G (hM.2 q) hlk hv hR hw8 hb1 hb2 d (kf q)
theorem x_cSt6 {bc1 bs1 idx maxL : Nat} {y : MethodName} {bytes : ByteArray} {rt : Option FieldType} {rm : Room} {a1 a2 a3 a4 a5 a6 : Value} (G : GX p l R s m args meth c k A own cc nL ret) {E : String} {h0 : Wd} {post : Out → Wd → Prop} (B : RQ below args s R k A h0 post Q) (B2 : TQ below args s R k h0 post Q) (hout : ∀ x ∈ c.exceptionTable.toList, False) (hM : MC l k y (.code y bytes maxL rt) rm [a1, a2, a3, a4, a5, a6] h (pT E h1)) (hlk : Cond.methodLink own idx y ∈ TB) (hv : hSt y bytes maxL rt 6) (hR : rm.frames + 1 ≤ R.frames ∧ 8 + (maxL + 11) + rm.locals ≤ R.locals) (hw8 : (st.map fun v => v.category).sum ≤ 8) (hb1 : bc1 + rm.cells ≤ bc) (hb2 : bs1 + rm.slots ≤ bs) (d : decode cc pc = .ok (.invokestatic idx, 3)) (hp : post (.inr E) h1) : Wx p l e R s m args below meth c k A nL Q bc bs pc L (a6 :: a5 :: a4 :: a3 :: a2 :: a1 :: st) h :=
  x_callS G (post := pT E h1) hM hlk hv.1 hv.2.1 hv.2.2.1 hv.2.2.2 hR hw8 hb1 hb2 rfl rfl d (fun v h9 hp => by obtain ⟨e1, -⟩ := hp; cases e1) (fun E9 h9 hq => by obtain ⟨e1, rfl⟩ := hq; cases e1; exact x_out G B B2 hout hp)
theorem x_cV7 {bc1 bs1 idx maxL : Nat} {y : MethodName} {bytes : ByteArray} {rt : Option FieldType} {rm : Room} {a1 a2 a3 a4 a5 a6 a7 : Value} {ci b N : Nat} {T : u_T} {fs : List Value} (G : GX p l R s m args meth c k A own cc nL ret) {r : Value} (hM : MC l k y (.code y bytes maxL rt) rm (.ref b :: [a1, a2, a3, a4, a5, a6, a7]) h (pR (some r) h1)) (hbm : b ∈ h.1) (hbf : h.2 b = .inr (ci, fs)) (hc : vwCl[ci]? = some (y.cls, T, N)) (hlk : Cond.methodLink own idx y ∈ TB) (hv : hV y bytes maxL rt 7) (hR : rm.frames + 1 ≤ R.frames ∧ 8 + (maxL + 11) + rm.locals ≤ R.locals) (hw8 : (st.map fun v => v.category).sum ≤ 8) (hb1 : bc1 + rm.cells ≤ bc) (hb2 : bs1 + rm.slots ≤ bs) (d : decode cc pc = .ok (.invokevirtual idx, 3)) (kk : Wx p l e R s m args below meth c k A nL Q bc1 bs1 (pc + 3) L (r :: st) h1) : Wx p l e R s m args below meth c k A nL Q bc bs pc L (a7 :: a6 :: a5 :: a4 :: a3 :: a2 :: a1 :: .ref b :: st) h :=
  x_callV G (post := pR (some r) h1) hM hbm hbf hc hlk hv.1 hv.2.1 hv.2.2.1 hv.2.2.2.1 hv.2.2.2.2 hR hw8 hb1 hb2 rfl rfl d (fun v h9 hp => by obtain ⟨e1, rfl⟩ := hp; cases e1; exact kk) (fun E h9 hp => by obtain ⟨e1, -⟩ := hp; cases e1)
theorem x_cVv7 {bc1 bs1 idx maxL : Nat} {y : MethodName} {bytes : ByteArray} {rt : Option FieldType} {rm : Room} {a1 a2 a3 a4 a5 a6 a7 : Value} {ci b N : Nat} {T : u_T} {fs : List Value} (G : GX p l R s m args meth c k A own cc nL ret) (hM : MC l k y (.code y bytes maxL rt) rm (.ref b :: [a1, a2, a3, a4, a5, a6, a7]) h (pR none h1)) (hbm : b ∈ h.1) (hbf : h.2 b = .inr (ci, fs)) (hc : vwCl[ci]? = some (y.cls, T, N)) (hlk : Cond.methodLink own idx y ∈ TB) (hv : hV y bytes maxL rt 7) (hR : rm.frames + 1 ≤ R.frames ∧ 8 + (maxL + 11) + rm.locals ≤ R.locals) (hw8 : (st.map fun v => v.category).sum ≤ 8) (hb1 : bc1 + rm.cells ≤ bc) (hb2 : bs1 + rm.slots ≤ bs) (d : decode cc pc = .ok (.invokevirtual idx, 3)) (kk : Wx p l e R s m args below meth c k A nL Q bc1 bs1 (pc + 3) L st h1) : Wx p l e R s m args below meth c k A nL Q bc bs pc L (a7 :: a6 :: a5 :: a4 :: a3 :: a2 :: a1 :: .ref b :: st) h :=
  x_callV G (post := pR none h1) hM hbm hbf hc hlk hv.1 hv.2.1 hv.2.2.1 hv.2.2.2.1 hv.2.2.2.2 hR hw8 hb1 hb2 rfl rfl d (fun v h9 hp => by obtain ⟨e1, rfl⟩ := hp; cases e1; exact kk) (fun E h9 hp => by obtain ⟨e1, -⟩ := hp; cases e1)
theorem x_cVb7 {bc1 bs1 idx maxL : Nat} {y : MethodName} {bytes : ByteArray} {rt : Option FieldType} {rm : Room} {a1 a2 a3 a4 a5 a6 a7 : Value} {ci b N : Nat} {T : u_T} {fs : List Value} (G : GX p l R s m args meth c k A own cc nL ret) {P : Prop} [Decidable P] (hM : (P → MC l k y (.code y bytes maxL rt) rm (.ref b :: [a1, a2, a3, a4, a5, a6, a7]) h (pR (some (.int 1)) h1)) ∧ (¬ P → MC l k y (.code y bytes maxL rt) rm (.ref b :: [a1, a2, a3, a4, a5, a6, a7]) h (pR (some (.int 0)) h1))) (hbm : b ∈ h.1) (hbf : h.2 b = .inr (ci, fs)) (hc : vwCl[ci]? = some (y.cls, T, N)) (hlk : Cond.methodLink own idx y ∈ TB) (hv : hV y bytes maxL rt 7) (hR : rm.frames + 1 ≤ R.frames ∧ 8 + (maxL + 11) + rm.locals ≤ R.locals) (hw8 : (st.map fun v => v.category).sum ≤ 8) (hb1 : bc1 + rm.cells ≤ bc) (hb2 : bs1 + rm.slots ≤ bs) (d : decode cc pc = .ok (.invokevirtual idx, 3)) (kt : P → Wx p l e R s m args below meth c k A nL Q bc1 bs1 (pc + 3) L (.int 1 :: st) h1) (kf : ¬ P → Wx p l e R s m args below meth c k A nL Q bc1 bs1 (pc + 3) L (.int 0 :: st) h1) : Wx p l e R s m args below meth c k A nL Q bc bs pc L (a7 :: a6 :: a5 :: a4 :: a3 :: a2 :: a1 :: .ref b :: st) h := by
  by_cases q : P
  · exact x_cV7 G (hM.1 q) hbm hbf hc hlk hv hR hw8 hb1 hb2 d (kt q)
  · exact x_cV7 G (hM.2 q) hbm hbf hc hlk hv hR hw8 hb1 hb2 d (kf q)
theorem x_cVt7 {bc1 bs1 idx maxL : Nat} {y : MethodName} {bytes : ByteArray} {rt : Option FieldType} {rm : Room} {a1 a2 a3 a4 a5 a6 a7 : Value} {ci b N : Nat} {T : u_T} {fs : List Value} (G : GX p l R s m args meth c k A own cc nL ret) {E : String} {h0 : Wd} {post : Out → Wd → Prop} (B : RQ below args s R k A h0 post Q) (B2 : TQ below args s R k h0 post Q) (hout : ∀ x ∈ c.exceptionTable.toList, False) (hM : MC l k y (.code y bytes maxL rt) rm (.ref b :: [a1, a2, a3, a4, a5, a6, a7]) h (pT E h1)) (hbm : b ∈ h.1) (hbf : h.2 b = .inr (ci, fs)) (hc : vwCl[ci]? = some (y.cls, T, N)) (hlk : Cond.methodLink own idx y ∈ TB) (hv : hV y bytes maxL rt 7) (hR : rm.frames + 1 ≤ R.frames ∧ 8 + (maxL + 11) + rm.locals ≤ R.locals) (hw8 : (st.map fun v => v.category).sum ≤ 8) (hb1 : bc1 + rm.cells ≤ bc) (hb2 : bs1 + rm.slots ≤ bs) (d : decode cc pc = .ok (.invokevirtual idx, 3)) (hp : post (.inr E) h1) : Wx p l e R s m args below meth c k A nL Q bc bs pc L (a7 :: a6 :: a5 :: a4 :: a3 :: a2 :: a1 :: .ref b :: st) h :=
  x_callV G (post := pT E h1) hM hbm hbf hc hlk hv.1 hv.2.1 hv.2.2.1 hv.2.2.2.1 hv.2.2.2.2 hR hw8 hb1 hb2 rfl rfl d (fun v h9 hp => by obtain ⟨e1, -⟩ := hp; cases e1) (fun E9 h9 hq => by obtain ⟨e1, rfl⟩ := hq; cases e1; exact x_out G B B2 hout hp)
theorem y_c7 {bc1 bs1 idx maxL : Nat} {y : MethodName} {bytes : ByteArray} {rt : Option FieldType} {rm : Room} {a1 a2 a3 a4 a5 a6 a7 : Value} {r : Value} {M1 : MS} (G : GX p l R s m args meth c k A RX11 cc nL ret) (hM : CM l k mo ad y (.code y bytes maxL rt) rm [a1, a2, a3, a4, a5, a6, a7] M (some r) M1) (hlk : Cond.methodLink RX11 idx y ∈ TB) (hv : hV y bytes maxL rt 7) (hy : y.cls = RX11) (hR : rm.frames + 1 ≤ R.frames ∧ 8 + (maxL + 11) + rm.locals ≤ R.locals) (hw8 : (st.map fun v => v.category).sum ≤ 8) (hb1 : bc1 + rm.cells ≤ bc) (hb2 : bs1 + rm.slots ≤ bs) (d : decode cc pc = .ok (.invokevirtual idx, 3)) (kk : Wx p l e R s m args below meth c k A nL Q bc1 bs1 (pc + 3) L (r :: st) (mW k mo ad M1)) : Wx p l e R s m args below meth c k A nL Q bc bs pc L (a7 :: a6 :: a5 :: a4 :: a3 :: a2 :: a1 :: .ref mo :: st) (mW k mo ad M) :=
  x_cV7 G (N := 66) (T := TX11) hM mW_mo.1 mW_mo.2 (by rw [hy]; rfl) hlk hv hR hw8 hb1 hb2 d kk
theorem y_cv7 {bc1 bs1 idx maxL : Nat} {y : MethodName} {bytes : ByteArray} {rt : Option FieldType} {rm : Room} {a1 a2 a3 a4 a5 a6 a7 : Value} {M1 : MS} (G : GX p l R s m args meth c k A RX11 cc nL ret) (hM : CM l k mo ad y (.code y bytes maxL rt) rm [a1, a2, a3, a4, a5, a6, a7] M none M1) (hlk : Cond.methodLink RX11 idx y ∈ TB) (hv : hV y bytes maxL rt 7) (hy : y.cls = RX11) (hR : rm.frames + 1 ≤ R.frames ∧ 8 + (maxL + 11) + rm.locals ≤ R.locals) (hw8 : (st.map fun v => v.category).sum ≤ 8) (hb1 : bc1 + rm.cells ≤ bc) (hb2 : bs1 + rm.slots ≤ bs) (d : decode cc pc = .ok (.invokevirtual idx, 3)) (kk : Wx p l e R s m args below meth c k A nL Q bc1 bs1 (pc + 3) L st (mW k mo ad M1)) : Wx p l e R s m args below meth c k A nL Q bc bs pc L (a7 :: a6 :: a5 :: a4 :: a3 :: a2 :: a1 :: .ref mo :: st) (mW k mo ad M) :=
  x_cVv7 G (N := 66) (T := TX11) hM mW_mo.1 mW_mo.2 (by rw [hy]; rfl) hlk hv hR hw8 hb1 hb2 d kk
theorem y_cb7 {bc1 bs1 idx maxL : Nat} {y : MethodName} {bytes : ByteArray} {rt : Option FieldType} {rm : Room} {a1 a2 a3 a4 a5 a6 a7 : Value} {P : Prop} [Decidable P] {M1 : MS} (G : GX p l R s m args meth c k A RX11 cc nL ret) (hM : (P → CM l k mo ad y (.code y bytes maxL rt) rm [a1, a2, a3, a4, a5, a6, a7] M (some (.int 1)) M1) ∧ (¬ P → CM l k mo ad y (.code y bytes maxL rt) rm [a1, a2, a3, a4, a5, a6, a7] M (some (.int 0)) M1)) (hlk : Cond.methodLink RX11 idx y ∈ TB) (hv : hV y bytes maxL rt 7) (hy : y.cls = RX11) (hR : rm.frames + 1 ≤ R.frames ∧ 8 + (maxL + 11) + rm.locals ≤ R.locals) (hw8 : (st.map fun v => v.category).sum ≤ 8) (hb1 : bc1 + rm.cells ≤ bc) (hb2 : bs1 + rm.slots ≤ bs) (d : decode cc pc = .ok (.invokevirtual idx, 3)) (kt : P → Wx p l e R s m args below meth c k A nL Q bc1 bs1 (pc + 3) L (.int 1 :: st) (mW k mo ad M1)) (kf : ¬ P → Wx p l e R s m args below meth c k A nL Q bc1 bs1 (pc + 3) L (.int 0 :: st) (mW k mo ad M1)) : Wx p l e R s m args below meth c k A nL Q bc bs pc L (a7 :: a6 :: a5 :: a4 :: a3 :: a2 :: a1 :: .ref mo :: st) (mW k mo ad M) :=
  x_cVb7 G (N := 66) (T := TX11) hM mW_mo.1 mW_mo.2 (by rw [hy]; rfl) hlk hv hR hw8 hb1 hb2 d kt kf
theorem x_cS7 {bc1 bs1 idx maxL : Nat} {y : MethodName} {bytes : ByteArray} {rt : Option FieldType} {rm : Room} {a1 a2 a3 a4 a5 a6 a7 : Value} (G : GX p l R s m args meth c k A own cc nL ret) {r : Value} (hM : MC l k y (.code y bytes maxL rt) rm [a1, a2, a3, a4, a5, a6, a7] h (pR (some r) h1)) (hlk : Cond.methodLink own idx y ∈ TB) (hv : hSt y bytes maxL rt 7) (hR : rm.frames + 1 ≤ R.frames ∧ 8 + (maxL + 11) + rm.locals ≤ R.locals) (hw8 : (st.map fun v => v.category).sum ≤ 8) (hb1 : bc1 + rm.cells ≤ bc) (hb2 : bs1 + rm.slots ≤ bs) (d : decode cc pc = .ok (.invokestatic idx, 3)) (kk : Wx p l e R s m args below meth c k A nL Q bc1 bs1 (pc + 3) L (r :: st) h1) : Wx p l e R s m args below meth c k A nL Q bc bs pc L (a7 :: a6 :: a5 :: a4 :: a3 :: a2 :: a1 :: st) h :=
  x_callS G (post := pR (some r) h1) hM hlk hv.1 hv.2.1 hv.2.2.1 hv.2.2.2 hR hw8 hb1 hb2 rfl rfl d (fun v h9 hp => by obtain ⟨e1, rfl⟩ := hp; cases e1; exact kk) (fun E h9 hp => by obtain ⟨e1, -⟩ := hp; cases e1)
theorem x_cSv7 {bc1 bs1 idx maxL : Nat} {y : MethodName} {bytes : ByteArray} {rt : Option FieldType} {rm : Room} {a1 a2 a3 a4 a5 a6 a7 : Value} (G : GX p l R s m args meth c k A own cc nL ret) (hM : MC l k y (.code y bytes maxL rt) rm [a1, a2, a3, a4, a5, a6, a7] h (pR none h1)) (hlk : Cond.methodLink own idx y ∈ TB) (hv : hSt y bytes maxL rt 7) (hR : rm.frames + 1 ≤ R.frames ∧ 8 + (maxL + 11) + rm.locals ≤ R.locals) (hw8 : (st.map fun v => v.category).sum ≤ 8) (hb1 : bc1 + rm.cells ≤ bc) (hb2 : bs1 + rm.slots ≤ bs) (d : decode cc pc = .ok (.invokestatic idx, 3)) (kk : Wx p l e R s m args below meth c k A nL Q bc1 bs1 (pc + 3) L st h1) : Wx p l e R s m args below meth c k A nL Q bc bs pc L (a7 :: a6 :: a5 :: a4 :: a3 :: a2 :: a1 :: st) h :=
  x_callS G (post := pR none h1) hM hlk hv.1 hv.2.1 hv.2.2.1 hv.2.2.2 hR hw8 hb1 hb2 rfl rfl d (fun v h9 hp => by obtain ⟨e1, rfl⟩ := hp; cases e1; exact kk) (fun E h9 hp => by obtain ⟨e1, -⟩ := hp; cases e1)
theorem x_cSb7 {bc1 bs1 idx maxL : Nat} {y : MethodName} {bytes : ByteArray} {rt : Option FieldType} {rm : Room} {a1 a2 a3 a4 a5 a6 a7 : Value} {P : Prop} [Decidable P] (G : GX p l R s m args meth c k A own cc nL ret) (hM : (P → MC l k y (.code y bytes maxL rt) rm [a1, a2, a3, a4, a5, a6, a7] h (pR (some (.int 1)) h1)) ∧ (¬ P → MC l k y (.code y bytes maxL rt) rm [a1, a2, a3, a4, a5, a6, a7] h (pR (some (.int 0)) h1))) (hlk : Cond.methodLink own idx y ∈ TB) (hv : hSt y bytes maxL rt 7) (hR : rm.frames + 1 ≤ R.frames ∧ 8 + (maxL + 11) + rm.locals ≤ R.locals) (hw8 : (st.map fun v => v.category).sum ≤ 8) (hb1 : bc1 + rm.cells ≤ bc) (hb2 : bs1 + rm.slots ≤ bs) (d : decode cc pc = .ok (.invokestatic idx, 3)) (kt : P → Wx p l e R s m args below meth c k A nL Q bc1 bs1 (pc + 3) L (.int 1 :: st) h1) (kf : ¬ P → Wx p l e R s m args below meth c k A nL Q bc1 bs1 (pc + 3) L (.int 0 :: st) h1) : Wx p l e R s m args below meth c k A nL Q bc bs pc L (a7 :: a6 :: a5 :: a4 :: a3 :: a2 :: a1 :: st) h := by
  by_cases q : P
  · exact x_cS7 G (hM.1 q) hlk hv hR hw8 hb1 hb2 d (kt q)
  · exact x_cS7 G (hM.2 q) hlk hv hR hw8 hb1 hb2 d (kf q)
theorem x_cSt7 {bc1 bs1 idx maxL : Nat} {y : MethodName} {bytes : ByteArray} {rt : Option FieldType} {rm : Room} {a1 a2 a3 a4 a5 a6 a7 : Value} (G : GX p l R s m args meth c k A own cc nL ret) {E : String} {h0 : Wd} {post : Out → Wd → Prop} (B : RQ below args s R k A h0 post Q) (B2 : TQ below args s R k h0 post Q) (hout : ∀ x ∈ c.exceptionTable.toList, False) (hM : MC l k y (.code y bytes maxL rt) rm [a1, a2, a3, a4, a5, a6, a7] h (pT E h1)) (hlk : Cond.methodLink own idx y ∈ TB) (hv : hSt y bytes maxL rt 7) (hR : rm.frames + 1 ≤ R.frames ∧ 8 + (maxL + 11) + rm.locals ≤ R.locals) (hw8 : (st.map fun v => v.category).sum ≤ 8) (hb1 : bc1 + rm.cells ≤ bc) (hb2 : bs1 + rm.slots ≤ bs) (d : decode cc pc = .ok (.invokestatic idx, 3)) (hp : post (.inr E) h1) : Wx p l e R s m args below meth c k A nL Q bc bs pc L (a7 :: a6 :: a5 :: a4 :: a3 :: a2 :: a1 :: st) h :=
  x_callS G (post := pT E h1) hM hlk hv.1 hv.2.1 hv.2.2.1 hv.2.2.2 hR hw8 hb1 hb2 rfl rfl d (fun v h9 hp => by obtain ⟨e1, -⟩ := hp; cases e1) (fun E9 h9 hq => by obtain ⟨e1, rfl⟩ := hq; cases e1; exact x_out G B B2 hout hp)
theorem x_cV8 {bc1 bs1 idx maxL : Nat} {y : MethodName} {bytes : ByteArray} {rt : Option FieldType} {rm : Room} {a1 a2 a3 a4 a5 a6 a7 a8 : Value} {ci b N : Nat} {T : u_T} {fs : List Value} (G : GX p l R s m args meth c k A own cc nL ret) {r : Value} (hM : MC l k y (.code y bytes maxL rt) rm (.ref b :: [a1, a2, a3, a4, a5, a6, a7, a8]) h (pR (some r) h1)) (hbm : b ∈ h.1) (hbf : h.2 b = .inr (ci, fs)) (hc : vwCl[ci]? = some (y.cls, T, N)) (hlk : Cond.methodLink own idx y ∈ TB) (hv : hV y bytes maxL rt 8) (hR : rm.frames + 1 ≤ R.frames ∧ 8 + (maxL + 11) + rm.locals ≤ R.locals) (hw8 : (st.map fun v => v.category).sum ≤ 8) (hb1 : bc1 + rm.cells ≤ bc) (hb2 : bs1 + rm.slots ≤ bs) (d : decode cc pc = .ok (.invokevirtual idx, 3)) (kk : Wx p l e R s m args below meth c k A nL Q bc1 bs1 (pc + 3) L (r :: st) h1) : Wx p l e R s m args below meth c k A nL Q bc bs pc L (a8 :: a7 :: a6 :: a5 :: a4 :: a3 :: a2 :: a1 :: .ref b :: st) h :=
  x_callV G (post := pR (some r) h1) hM hbm hbf hc hlk hv.1 hv.2.1 hv.2.2.1 hv.2.2.2.1 hv.2.2.2.2 hR hw8 hb1 hb2 rfl rfl d (fun v h9 hp => by obtain ⟨e1, rfl⟩ := hp; cases e1; exact kk) (fun E h9 hp => by obtain ⟨e1, -⟩ := hp; cases e1)
theorem x_cVv8 {bc1 bs1 idx maxL : Nat} {y : MethodName} {bytes : ByteArray} {rt : Option FieldType} {rm : Room} {a1 a2 a3 a4 a5 a6 a7 a8 : Value} {ci b N : Nat} {T : u_T} {fs : List Value} (G : GX p l R s m args meth c k A own cc nL ret) (hM : MC l k y (.code y bytes maxL rt) rm (.ref b :: [a1, a2, a3, a4, a5, a6, a7, a8]) h (pR none h1)) (hbm : b ∈ h.1) (hbf : h.2 b = .inr (ci, fs)) (hc : vwCl[ci]? = some (y.cls, T, N)) (hlk : Cond.methodLink own idx y ∈ TB) (hv : hV y bytes maxL rt 8) (hR : rm.frames + 1 ≤ R.frames ∧ 8 + (maxL + 11) + rm.locals ≤ R.locals) (hw8 : (st.map fun v => v.category).sum ≤ 8) (hb1 : bc1 + rm.cells ≤ bc) (hb2 : bs1 + rm.slots ≤ bs) (d : decode cc pc = .ok (.invokevirtual idx, 3)) (kk : Wx p l e R s m args below meth c k A nL Q bc1 bs1 (pc + 3) L st h1) : Wx p l e R s m args below meth c k A nL Q bc bs pc L (a8 :: a7 :: a6 :: a5 :: a4 :: a3 :: a2 :: a1 :: .ref b :: st) h :=
  x_callV G (post := pR none h1) hM hbm hbf hc hlk hv.1 hv.2.1 hv.2.2.1 hv.2.2.2.1 hv.2.2.2.2 hR hw8 hb1 hb2 rfl rfl d (fun v h9 hp => by obtain ⟨e1, rfl⟩ := hp; cases e1; exact kk) (fun E h9 hp => by obtain ⟨e1, -⟩ := hp; cases e1)
theorem x_cVb8 {bc1 bs1 idx maxL : Nat} {y : MethodName} {bytes : ByteArray} {rt : Option FieldType} {rm : Room} {a1 a2 a3 a4 a5 a6 a7 a8 : Value} {ci b N : Nat} {T : u_T} {fs : List Value} (G : GX p l R s m args meth c k A own cc nL ret) {P : Prop} [Decidable P] (hM : (P → MC l k y (.code y bytes maxL rt) rm (.ref b :: [a1, a2, a3, a4, a5, a6, a7, a8]) h (pR (some (.int 1)) h1)) ∧ (¬ P → MC l k y (.code y bytes maxL rt) rm (.ref b :: [a1, a2, a3, a4, a5, a6, a7, a8]) h (pR (some (.int 0)) h1))) (hbm : b ∈ h.1) (hbf : h.2 b = .inr (ci, fs)) (hc : vwCl[ci]? = some (y.cls, T, N)) (hlk : Cond.methodLink own idx y ∈ TB) (hv : hV y bytes maxL rt 8) (hR : rm.frames + 1 ≤ R.frames ∧ 8 + (maxL + 11) + rm.locals ≤ R.locals) (hw8 : (st.map fun v => v.category).sum ≤ 8) (hb1 : bc1 + rm.cells ≤ bc) (hb2 : bs1 + rm.slots ≤ bs) (d : decode cc pc = .ok (.invokevirtual idx, 3)) (kt : P → Wx p l e R s m args below meth c k A nL Q bc1 bs1 (pc + 3) L (.int 1 :: st) h1) (kf : ¬ P → Wx p l e R s m args below meth c k A nL Q bc1 bs1 (pc + 3) L (.int 0 :: st) h1) : Wx p l e R s m args below meth c k A nL Q bc bs pc L (a8 :: a7 :: a6 :: a5 :: a4 :: a3 :: a2 :: a1 :: .ref b :: st) h := by
  by_cases q : P
  · exact x_cV8 G (hM.1 q) hbm hbf hc hlk hv hR hw8 hb1 hb2 d (kt q)
  · exact x_cV8 G (hM.2 q) hbm hbf hc hlk hv hR hw8 hb1 hb2 d (kf q)
theorem x_cVt8 {bc1 bs1 idx maxL : Nat} {y : MethodName} {bytes : ByteArray} {rt : Option FieldType} {rm : Room} {a1 a2 a3 a4 a5 a6 a7 a8 : Value} {ci b N : Nat} {T : u_T} {fs : List Value} (G : GX p l R s m args meth c k A own cc nL ret) {E : String} {h0 : Wd} {post : Out → Wd → Prop} (B : RQ below args s R k A h0 post Q) (B2 : TQ below args s R k h0 post Q) (hout : ∀ x ∈ c.exceptionTable.toList, False) (hM : MC l k y (.code y bytes maxL rt) rm (.ref b :: [a1, a2, a3, a4, a5, a6, a7, a8]) h (pT E h1)) (hbm : b ∈ h.1) (hbf : h.2 b = .inr (ci, fs)) (hc : vwCl[ci]? = some (y.cls, T, N)) (hlk : Cond.methodLink own idx y ∈ TB) (hv : hV y bytes maxL rt 8) (hR : rm.frames + 1 ≤ R.frames ∧ 8 + (maxL + 11) + rm.locals ≤ R.locals) (hw8 : (st.map fun v => v.category).sum ≤ 8) (hb1 : bc1 + rm.cells ≤ bc) (hb2 : bs1 + rm.slots ≤ bs) (d : decode cc pc = .ok (.invokevirtual idx, 3)) (hp : post (.inr E) h1) : Wx p l e R s m args below meth c k A nL Q bc bs pc L (a8 :: a7 :: a6 :: a5 :: a4 :: a3 :: a2 :: a1 :: .ref b :: st) h :=
  x_callV G (post := pT E h1) hM hbm hbf hc hlk hv.1 hv.2.1 hv.2.2.1 hv.2.2.2.1 hv.2.2.2.2 hR hw8 hb1 hb2 rfl rfl d (fun v h9 hp => by obtain ⟨e1, -⟩ := hp; cases e1) (fun E9 h9 hq => by obtain ⟨e1, rfl⟩ := hq; cases e1; exact x_out G B B2 hout hp)
theorem y_c8 {bc1 bs1 idx maxL : Nat} {y : MethodName} {bytes : ByteArray} {rt : Option FieldType} {rm : Room} {a1 a2 a3 a4 a5 a6 a7 a8 : Value} {r : Value} {M1 : MS} (G : GX p l R s m args meth c k A RX11 cc nL ret) (hM : CM l k mo ad y (.code y bytes maxL rt) rm [a1, a2, a3, a4, a5, a6, a7, a8] M (some r) M1) (hlk : Cond.methodLink RX11 idx y ∈ TB) (hv : hV y bytes maxL rt 8) (hy : y.cls = RX11) (hR : rm.frames + 1 ≤ R.frames ∧ 8 + (maxL + 11) + rm.locals ≤ R.locals) (hw8 : (st.map fun v => v.category).sum ≤ 8) (hb1 : bc1 + rm.cells ≤ bc) (hb2 : bs1 + rm.slots ≤ bs) (d : decode cc pc = .ok (.invokevirtual idx, 3)) (kk : Wx p l e R s m args below meth c k A nL Q bc1 bs1 (pc + 3) L (r :: st) (mW k mo ad M1)) : Wx p l e R s m args below meth c k A nL Q bc bs pc L (a8 :: a7 :: a6 :: a5 :: a4 :: a3 :: a2 :: a1 :: .ref mo :: st) (mW k mo ad M) :=
  x_cV8 G (N := 66) (T := TX11) hM mW_mo.1 mW_mo.2 (by rw [hy]; rfl) hlk hv hR hw8 hb1 hb2 d kk
theorem y_cv8 {bc1 bs1 idx maxL : Nat} {y : MethodName} {bytes : ByteArray} {rt : Option FieldType} {rm : Room} {a1 a2 a3 a4 a5 a6 a7 a8 : Value} {M1 : MS} (G : GX p l R s m args meth c k A RX11 cc nL ret) (hM : CM l k mo ad y (.code y bytes maxL rt) rm [a1, a2, a3, a4, a5, a6, a7, a8] M none M1) (hlk : Cond.methodLink RX11 idx y ∈ TB) (hv : hV y bytes maxL rt 8) (hy : y.cls = RX11) (hR : rm.frames + 1 ≤ R.frames ∧ 8 + (maxL + 11) + rm.locals ≤ R.locals) (hw8 : (st.map fun v => v.category).sum ≤ 8) (hb1 : bc1 + rm.cells ≤ bc) (hb2 : bs1 + rm.slots ≤ bs) (d : decode cc pc = .ok (.invokevirtual idx, 3)) (kk : Wx p l e R s m args below meth c k A nL Q bc1 bs1 (pc + 3) L st (mW k mo ad M1)) : Wx p l e R s m args below meth c k A nL Q bc bs pc L (a8 :: a7 :: a6 :: a5 :: a4 :: a3 :: a2 :: a1 :: .ref mo :: st) (mW k mo ad M) :=
  x_cVv8 G (N := 66) (T := TX11) hM mW_mo.1 mW_mo.2 (by rw [hy]; rfl) hlk hv hR hw8 hb1 hb2 d kk
theorem y_cb8 {bc1 bs1 idx maxL : Nat} {y : MethodName} {bytes : ByteArray} {rt : Option FieldType} {rm : Room} {a1 a2 a3 a4 a5 a6 a7 a8 : Value} {P : Prop} [Decidable P] {M1 : MS} (G : GX p l R s m args meth c k A RX11 cc nL ret) (hM : (P → CM l k mo ad y (.code y bytes maxL rt) rm [a1, a2, a3, a4, a5, a6, a7, a8] M (some (.int 1)) M1) ∧ (¬ P → CM l k mo ad y (.code y bytes maxL rt) rm [a1, a2, a3, a4, a5, a6, a7, a8] M (some (.int 0)) M1)) (hlk : Cond.methodLink RX11 idx y ∈ TB) (hv : hV y bytes maxL rt 8) (hy : y.cls = RX11) (hR : rm.frames + 1 ≤ R.frames ∧ 8 + (maxL + 11) + rm.locals ≤ R.locals) (hw8 : (st.map fun v => v.category).sum ≤ 8) (hb1 : bc1 + rm.cells ≤ bc) (hb2 : bs1 + rm.slots ≤ bs) (d : decode cc pc = .ok (.invokevirtual idx, 3)) (kt : P → Wx p l e R s m args below meth c k A nL Q bc1 bs1 (pc + 3) L (.int 1 :: st) (mW k mo ad M1)) (kf : ¬ P → Wx p l e R s m args below meth c k A nL Q bc1 bs1 (pc + 3) L (.int 0 :: st) (mW k mo ad M1)) : Wx p l e R s m args below meth c k A nL Q bc bs pc L (a8 :: a7 :: a6 :: a5 :: a4 :: a3 :: a2 :: a1 :: .ref mo :: st) (mW k mo ad M) :=
  x_cVb8 G (N := 66) (T := TX11) hM mW_mo.1 mW_mo.2 (by rw [hy]; rfl) hlk hv hR hw8 hb1 hb2 d kt kf
theorem x_cS8 {bc1 bs1 idx maxL : Nat} {y : MethodName} {bytes : ByteArray} {rt : Option FieldType} {rm : Room} {a1 a2 a3 a4 a5 a6 a7 a8 : Value} (G : GX p l R s m args meth c k A own cc nL ret) {r : Value} (hM : MC l k y (.code y bytes maxL rt) rm [a1, a2, a3, a4, a5, a6, a7, a8] h (pR (some r) h1)) (hlk : Cond.methodLink own idx y ∈ TB) (hv : hSt y bytes maxL rt 8) (hR : rm.frames + 1 ≤ R.frames ∧ 8 + (maxL + 11) + rm.locals ≤ R.locals) (hw8 : (st.map fun v => v.category).sum ≤ 8) (hb1 : bc1 + rm.cells ≤ bc) (hb2 : bs1 + rm.slots ≤ bs) (d : decode cc pc = .ok (.invokestatic idx, 3)) (kk : Wx p l e R s m args below meth c k A nL Q bc1 bs1 (pc + 3) L (r :: st) h1) : Wx p l e R s m args below meth c k A nL Q bc bs pc L (a8 :: a7 :: a6 :: a5 :: a4 :: a3 :: a2 :: a1 :: st) h :=
  x_callS G (post := pR (some r) h1) hM hlk hv.1 hv.2.1 hv.2.2.1 hv.2.2.2 hR hw8 hb1 hb2 rfl rfl d (fun v h9 hp => by obtain ⟨e1, rfl⟩ := hp; cases e1; exact kk) (fun E h9 hp => by obtain ⟨e1, -⟩ := hp; cases e1)
theorem x_cSv8 {bc1 bs1 idx maxL : Nat} {y : MethodName} {bytes : ByteArray} {rt : Option FieldType} {rm : Room} {a1 a2 a3 a4 a5 a6 a7 a8 : Value} (G : GX p l R s m args meth c k A own cc nL ret) (hM : MC l k y (.code y bytes maxL rt) rm [a1, a2, a3, a4, a5, a6, a7, a8] h (pR none h1)) (hlk : Cond.methodLink own idx y ∈ TB) (hv : hSt y bytes maxL rt 8) (hR : rm.frames + 1 ≤ R.frames ∧ 8 + (maxL + 11) + rm.locals ≤ R.locals) (hw8 : (st.map fun v => v.category).sum ≤ 8) (hb1 : bc1 + rm.cells ≤ bc) (hb2 : bs1 + rm.slots ≤ bs) (d : decode cc pc = .ok (.invokestatic idx, 3)) (kk : Wx p l e R s m args below meth c k A nL Q bc1 bs1 (pc + 3) L st h1) : Wx p l e R s m args below meth c k A nL Q bc bs pc L (a8 :: a7 :: a6 :: a5 :: a4 :: a3 :: a2 :: a1 :: st) h :=
  x_callS G (post := pR none h1) hM hlk hv.1 hv.2.1 hv.2.2.1 hv.2.2.2 hR hw8 hb1 hb2 rfl rfl d (fun v h9 hp => by obtain ⟨e1, rfl⟩ := hp; cases e1; exact kk) (fun E h9 hp => by obtain ⟨e1, -⟩ := hp; cases e1)
theorem x_cSb8 {bc1 bs1 idx maxL : Nat} {y : MethodName} {bytes : ByteArray} {rt : Option FieldType} {rm : Room} {a1 a2 a3 a4 a5 a6 a7 a8 : Value} {P : Prop} [Decidable P] (G : GX p l R s m args meth c k A own cc nL ret) (hM : (P → MC l k y (.code y bytes maxL rt) rm [a1, a2, a3, a4, a5, a6, a7, a8] h (pR (some (.int 1)) h1)) ∧ (¬ P → MC l k y (.code y bytes maxL rt) rm [a1, a2, a3, a4, a5, a6, a7, a8] h (pR (some (.int 0)) h1))) (hlk : Cond.methodLink own idx y ∈ TB) (hv : hSt y bytes maxL rt 8) (hR : rm.frames + 1 ≤ R.frames ∧ 8 + (maxL + 11) + rm.locals ≤ R.locals) (hw8 : (st.map fun v => v.category).sum ≤ 8) (hb1 : bc1 + rm.cells ≤ bc) (hb2 : bs1 + rm.slots ≤ bs) (d : decode cc pc = .ok (.invokestatic idx, 3)) (kt : P → Wx p l e R s m args below meth c k A nL Q bc1 bs1 (pc + 3) L (.int 1 :: st) h1) (kf : ¬ P → Wx p l e R s m args below meth c k A nL Q bc1 bs1 (pc + 3) L (.int 0 :: st) h1) : Wx p l e R s m args below meth c k A nL Q bc bs pc L (a8 :: a7 :: a6 :: a5 :: a4 :: a3 :: a2 :: a1 :: st) h := by
  by_cases q : P
  · exact x_cS8 G (hM.1 q) hlk hv hR hw8 hb1 hb2 d (kt q)
  · exact x_cS8 G (hM.2 q) hlk hv hR hw8 hb1 hb2 d (kf q)
theorem x_cSt8 {bc1 bs1 idx maxL : Nat} {y : MethodName} {bytes : ByteArray} {rt : Option FieldType} {rm : Room} {a1 a2 a3 a4 a5 a6 a7 a8 : Value} (G : GX p l R s m args meth c k A own cc nL ret) {E : String} {h0 : Wd} {post : Out → Wd → Prop} (B : RQ below args s R k A h0 post Q) (B2 : TQ below args s R k h0 post Q) (hout : ∀ x ∈ c.exceptionTable.toList, False) (hM : MC l k y (.code y bytes maxL rt) rm [a1, a2, a3, a4, a5, a6, a7, a8] h (pT E h1)) (hlk : Cond.methodLink own idx y ∈ TB) (hv : hSt y bytes maxL rt 8) (hR : rm.frames + 1 ≤ R.frames ∧ 8 + (maxL + 11) + rm.locals ≤ R.locals) (hw8 : (st.map fun v => v.category).sum ≤ 8) (hb1 : bc1 + rm.cells ≤ bc) (hb2 : bs1 + rm.slots ≤ bs) (d : decode cc pc = .ok (.invokestatic idx, 3)) (hp : post (.inr E) h1) : Wx p l e R s m args below meth c k A nL Q bc bs pc L (a8 :: a7 :: a6 :: a5 :: a4 :: a3 :: a2 :: a1 :: st) h :=
  x_callS G (post := pT E h1) hM hlk hv.1 hv.2.1 hv.2.2.1 hv.2.2.2 hR hw8 hb1 hb2 rfl rfl d (fun v h9 hp => by obtain ⟨e1, -⟩ := hp; cases e1) (fun E9 h9 hq => by obtain ⟨e1, rfl⟩ := hq; cases e1; exact x_out G B B2 hout hp)
end XM
theorem h_Jx4a65c_add_9ea2d : hV yJx4a65c_add_9ea2d cJx4a65c_add_9ea2d 2 (some .boolean) 1 := ⟨q_im_yJx4a65c_add_9ea2d, q_se_yJx4a65c_add_9ea2d, q_in_Jx4a65c, q_co_yJx4a65c_add_9ea2d, by decide +kernel, by decide +kernel, by decide +kernel⟩
theorem h_Jx4a65c_add_72be8 : hV yJx4a65c_add_72be8 cJx4a65c_add_72be8 4 none 3 := ⟨q_im_yJx4a65c_add_72be8, q_se_yJx4a65c_add_72be8, q_in_Jx4a65c, q_co_yJx4a65c_add_72be8, by decide +kernel, by decide +kernel, by decide +kernel⟩
theorem h_Jx4a65c_grow_d5877 : hV yJx4a65c_grow_d5877 cJx4a65c_grow_d5877 1 (some (.array (.object "java/lang/Object"))) 0 := ⟨q_im_yJx4a65c_grow_d5877, q_se_yJx4a65c_grow_d5877, q_in_Jx4a65c, q_co_yJx4a65c_grow_d5877, by decide +kernel, by decide +kernel, by decide +kernel⟩
theorem h_Jx4a65c_grow_92f84 : hV yJx4a65c_grow_92f84 cJx4a65c_grow_92f84 4 (some (.array (.object "java/lang/Object"))) 1 := ⟨q_im_yJx4a65c_grow_92f84, q_se_yJx4a65c_grow_92f84, q_in_Jx4a65c, q_co_yJx4a65c_grow_92f84, by decide +kernel, by decide +kernel, by decide +kernel⟩
theorem h_J8_newLength_cabcc : hSt yJ8_newLength_cabcc cJ8_newLength_cabcc 4 (some .int) 3 := ⟨q_st_yJ8_newLength_cabcc, q_in_J8, q_co_yJ8_newLength_cabcc, by decide +kernel, by decide +kernel, by decide +kernel⟩
theorem h_J8_hugeLength_7cf53 : hSt yJ8_hugeLength_7cf53 cJ8_hugeLength_7cf53 3 (some .int) 2 := ⟨q_st_yJ8_hugeLength_7cf53, q_in_J8, q_co_yJ8_hugeLength_7cf53, by decide +kernel, by decide +kernel, by decide +kernel⟩
theorem h_J7_copyOf_1904c : hSt yJ7_copyOf_1904c cJ7_copyOf_1904c 2 (some (.array (.object "java/lang/Object"))) 2 := ⟨q_st_yJ7_copyOf_1904c, q_in_J7, q_co_yJ7_copyOf_1904c, by decide +kernel, by decide +kernel, by decide +kernel⟩
theorem h_J7_copyOf_6403c : hSt yJ7_copyOf_6403c cJ7_copyOf_6403c 4 (some (.array (.object "java/lang/Object"))) 3 := ⟨q_st_yJ7_copyOf_6403c, q_in_J7, q_co_yJ7_copyOf_6403c, by decide +kernel, by decide +kernel, by decide +kernel⟩
theorem h_X10_payCard : hV yX10_payCard cX10_payCard 3 (some .long) 0 := ⟨q_im_yX10_payCard, q_se_yX10_payCard, q_in_X10, q_co_yX10_payCard, by decide +kernel, by decide +kernel, by decide +kernel⟩
theorem h_X10_post : hV yX10_post cX10_post 4 none 2 := ⟨q_im_yX10_post, q_se_yX10_post, q_in_X10, q_co_yX10_post, by decide +kernel, by decide +kernel, by decide +kernel⟩
theorem h_X10_requireNumber : hSt yX10_requireNumber cX10_requireNumber 2 none 2 := ⟨q_st_yX10_requireNumber, q_in_X10, q_co_yX10_requireNumber, by decide +kernel, by decide +kernel, by decide +kernel⟩
theorem h_X10_day : hV yX10_day cX10_day 1 (some .int) 0 := ⟨q_im_yX10_day, q_se_yX10_day, q_in_X10, q_co_yX10_day, by decide +kernel, by decide +kernel, by decide +kernel⟩
theorem h_X10_person : hV yX10_person cX10_person 5 (some .int) 2 := ⟨q_im_yX10_person, q_se_yX10_person, q_in_X10, q_co_yX10_person, by decide +kernel, by decide +kernel, by decide +kernel⟩
theorem h_X10_personAt : hV yX10_personAt cX10_personAt 2 (some (.object "ChitWright$Person")) 1 := ⟨q_im_yX10_personAt, q_se_yX10_personAt, q_in_X10, q_co_yX10_personAt, by decide +kernel, by decide +kernel, by decide +kernel⟩
theorem h_Jx4a65c_size_8abf5 : hV yJx4a65c_size_8abf5 cJx4a65c_size_8abf5 1 (some .int) 0 := ⟨q_im_yJx4a65c_size_8abf5, q_se_yJx4a65c_size_8abf5, q_in_Jx4a65c, q_co_yJx4a65c_size_8abf5, by decide +kernel, by decide +kernel, by decide +kernel⟩
theorem h_Jx4a65c_get_915e3 : hV yJx4a65c_get_915e3 cJx4a65c_get_915e3 2 (some (.object "java/lang/Object")) 1 := ⟨q_im_yJx4a65c_get_915e3, q_se_yJx4a65c_get_915e3, q_in_Jx4a65c, q_co_yJx4a65c_get_915e3, by decide +kernel, by decide +kernel, by decide +kernel⟩
theorem h_J15_checkIndex_7cf53 : hSt yJ15_checkIndex_7cf53 cJ15_checkIndex_7cf53 2 (some .int) 2 := ⟨q_st_yJ15_checkIndex_7cf53, q_in_J15, q_co_yJ15_checkIndex_7cf53, by decide +kernel, by decide +kernel, by decide +kernel⟩
theorem h_J3_checkIndex_8e157 : hSt yJ3_checkIndex_8e157 cJ3_checkIndex_8e157 3 (some .int) 3 := ⟨q_st_yJ3_checkIndex_8e157, q_in_J3, q_co_yJ3_checkIndex_8e157, by decide +kernel, by decide +kernel, by decide +kernel⟩
theorem h_Jx4a65c_elementData_915e3 : hV yJx4a65c_elementData_915e3 cJx4a65c_elementData_915e3 2 (some (.object "java/lang/Object")) 1 := ⟨q_im_yJx4a65c_elementData_915e3, q_se_yJx4a65c_elementData_915e3, q_in_Jx4a65c, q_co_yJx4a65c_elementData_915e3, by decide +kernel, by decide +kernel, by decide +kernel⟩
theorem h_X10_requireRange : hSt yX10_requireRange cX10_requireRange 3 none 3 := ⟨q_st_yX10_requireRange, q_in_X10, q_co_yX10_requireRange, by decide +kernel, by decide +kernel, by decide +kernel⟩
theorem h_X10_absent : hV yX10_absent cX10_absent 6 none 3 := ⟨q_im_yX10_absent, q_se_yX10_absent, q_in_X10, q_co_yX10_absent, by decide +kernel, by decide +kernel, by decide +kernel⟩
theorem h_X10_controller : hV yX10_controller cX10_controller 4 (some .int) 1 := ⟨q_im_yX10_controller, q_se_yX10_controller, q_in_X10, q_co_yX10_controller, by decide +kernel, by decide +kernel, by decide +kernel⟩
theorem h_X10_budget : hV yX10_budget cX10_budget 7 (some .long) 3 := ⟨q_im_yX10_budget, q_se_yX10_budget, q_in_X10, q_co_yX10_budget, by decide +kernel, by decide +kernel, by decide +kernel⟩
theorem h_X10_purseAt : hV yX10_purseAt cX10_purseAt 3 (some (.object "ChitWright$Purse")) 2 := ⟨q_im_yX10_purseAt, q_se_yX10_purseAt, q_in_X10, q_co_yX10_purseAt, by decide +kernel, by decide +kernel, by decide +kernel⟩
theorem h_X10_centreAt : hV yX10_centreAt cX10_centreAt 2 (some (.object "ChitWright$Centre")) 1 := ⟨q_im_yX10_centreAt, q_se_yX10_centreAt, q_in_X10, q_co_yX10_centreAt, by decide +kernel, by decide +kernel, by decide +kernel⟩
theorem h_X10_purseOf : hSt yX10_purseOf cX10_purseOf 2 (some (.object "ChitWright$Purse")) 2 := ⟨q_st_yX10_purseOf, q_in_X10, q_co_yX10_purseOf, by decide +kernel, by decide +kernel, by decide +kernel⟩
theorem h_X10_transfer : hV yX10_transfer cX10_transfer 7 (some .long) 4 := ⟨q_im_yX10_transfer, q_se_yX10_transfer, q_in_X10, q_co_yX10_transfer, by decide +kernel, by decide +kernel, by decide +kernel⟩
theorem h_X6_free : hV yX6_free cX6_free 1 (some .long) 0 := ⟨q_im_yX6_free, q_se_yX6_free, q_in_X6, q_co_yX6_free, by decide +kernel, by decide +kernel, by decide +kernel⟩
theorem h_X10_soft : hV yX10_soft cX10_soft 5 (some .boolean) 2 := ⟨q_im_yX10_soft, q_se_yX10_soft, q_in_X10, q_co_yX10_soft, by decide +kernel, by decide +kernel, by decide +kernel⟩
theorem h_X10_carried : hV yX10_carried cX10_carried 3 (some .int) 1 := ⟨q_im_yX10_carried, q_se_yX10_carried, q_in_X10, q_co_yX10_carried, by decide +kernel, by decide +kernel, by decide +kernel⟩
theorem h_X10_supplier : hV yX10_supplier cX10_supplier 9 none 6 := ⟨q_im_yX10_supplier, q_se_yX10_supplier, q_in_X10, q_co_yX10_supplier, by decide +kernel, by decide +kernel, by decide +kernel⟩
theorem h_X10_supplierAt : hV yX10_supplierAt cX10_supplierAt 2 (some (.object "ChitWright$Supplier")) 1 := ⟨q_im_yX10_supplierAt, q_se_yX10_supplierAt, q_in_X10, q_co_yX10_supplierAt, by decide +kernel, by decide +kernel, by decide +kernel⟩
theorem h_X10_moneyAt : hV yX10_moneyAt cX10_moneyAt 2 (some (.object "ChitWright$Money")) 1 := ⟨q_im_yX10_moneyAt, q_se_yX10_moneyAt, q_in_X10, q_co_yX10_moneyAt, by decide +kernel, by decide +kernel, by decide +kernel⟩
theorem h_X10_rate : hV yX10_rate cX10_rate 5 (some .int) 2 := ⟨q_im_yX10_rate, q_se_yX10_rate, q_in_X10, q_co_yX10_rate, by decide +kernel, by decide +kernel, by decide +kernel⟩
theorem h_X10_taxes : hV yX10_taxes cX10_taxes 3 none 2 := ⟨q_im_yX10_taxes, q_se_yX10_taxes, q_in_X10, q_co_yX10_taxes, by decide +kernel, by decide +kernel, by decide +kernel⟩
theorem h_X10_pass : hV yX10_pass cX10_pass 3 (some .int) 1 := ⟨q_im_yX10_pass, q_se_yX10_pass, q_in_X10, q_co_yX10_pass, by decide +kernel, by decide +kernel, by decide +kernel⟩
theorem h_X10_thisYear : hV yX10_thisYear cX10_thisYear 1 (some .int) 0 := ⟨q_im_yX10_thisYear, q_se_yX10_thisYear, q_in_X10, q_co_yX10_thisYear, by decide +kernel, by decide +kernel, by decide +kernel⟩
theorem h_X10_closeYear : hV yX10_closeYear cX10_closeYear 4 none 1 := ⟨q_im_yX10_closeYear, q_se_yX10_closeYear, q_in_X10, q_co_yX10_closeYear, by decide +kernel, by decide +kernel, by decide +kernel⟩
theorem h_X10_accrue : hSt yX10_accrue cX10_accrue 4 none 2 := ⟨q_st_yX10_accrue, q_in_X10, q_co_yX10_accrue, by decide +kernel, by decide +kernel, by decide +kernel⟩
theorem h_X7_receivedUnbooked : hV yX7_receivedUnbooked cX7_receivedUnbooked 5 (some .long) 0 := ⟨q_im_yX7_receivedUnbooked, q_se_yX7_receivedUnbooked, q_in_X7, q_co_yX7_receivedUnbooked, by decide +kernel, by decide +kernel, by decide +kernel⟩
theorem h_X10_carryOver : hV yX10_carryOver cX10_carryOver 9 none 2 := ⟨q_im_yX10_carryOver, q_se_yX10_carryOver, q_in_X10, q_co_yX10_carryOver, by decide +kernel, by decide +kernel, by decide +kernel⟩
theorem h_X7_isCommitting : hV yX7_isCommitting cX7_isCommitting 1 (some .boolean) 0 := ⟨q_im_yX7_isCommitting, q_se_yX7_isCommitting, q_in_X7, q_co_yX7_isCommitting, by decide +kernel, by decide +kernel, by decide +kernel⟩
theorem h_X10_request : hV yX10_request cX10_request 5 (some .int) 2 := ⟨q_im_yX10_request, q_se_yX10_request, q_in_X10, q_co_yX10_request, by decide +kernel, by decide +kernel, by decide +kernel⟩
theorem h_X10_line : hV yX10_line cX10_line 6 (some .int) 4 := ⟨q_im_yX10_line, q_se_yX10_line, q_in_X10, q_co_yX10_line, by decide +kernel, by decide +kernel, by decide +kernel⟩
theorem h_X10_requestAt : hV yX10_requestAt cX10_requestAt 2 (some (.object "ChitWright$Request")) 1 := ⟨q_im_yX10_requestAt, q_se_yX10_requestAt, q_in_X10, q_co_yX10_requestAt, by decide +kernel, by decide +kernel, by decide +kernel⟩
theorem h_X10_send : hV yX10_send cX10_send 5 (some .int) 1 := ⟨q_im_yX10_send, q_se_yX10_send, q_in_X10, q_co_yX10_send, by decide +kernel, by decide +kernel, by decide +kernel⟩
theorem h_Jx4a65c_isEmpty_aae02 : hV yJx4a65c_isEmpty_aae02 cJx4a65c_isEmpty_aae02 1 (some .boolean) 0 := ⟨q_im_yJx4a65c_isEmpty_aae02, q_se_yJx4a65c_isEmpty_aae02, q_in_Jx4a65c, q_co_yJx4a65c_isEmpty_aae02, by decide +kernel, by decide +kernel, by decide +kernel⟩
theorem h_X7_total : hV yX7_total cX7_total 5 (some .long) 0 := ⟨q_im_yX7_total, q_se_yX7_total, q_in_X7, q_co_yX7_total, by decide +kernel, by decide +kernel, by decide +kernel⟩
theorem h_X10_requireFree : hSt yX10_requireFree cX10_requireFree 4 none 3 := ⟨q_st_yX10_requireFree, q_in_X10, q_co_yX10_requireFree, by decide +kernel, by decide +kernel, by decide +kernel⟩
theorem h_X10_commit : hSt yX10_commit cX10_commit 3 none 2 := ⟨q_st_yX10_commit, q_in_X10, q_co_yX10_commit, by decide +kernel, by decide +kernel, by decide +kernel⟩
theorem h_X10_startChain : hV yX10_startChain cX10_startChain 4 none 2 := ⟨q_im_yX10_startChain, q_se_yX10_startChain, q_in_X10, q_co_yX10_startChain, by decide +kernel, by decide +kernel, by decide +kernel⟩
theorem h_X10_isAmongBosses : hSt yX10_isAmongBosses cX10_isAmongBosses 5 (some .boolean) 2 := ⟨q_st_yX10_isAmongBosses, q_in_X10, q_co_yX10_isAmongBosses, by decide +kernel, by decide +kernel, by decide +kernel⟩
theorem h_X10_bossAfter : hSt yX10_bossAfter cX10_bossAfter 3 (some (.object "ChitWright$Person")) 2 := ⟨q_st_yX10_bossAfter, q_in_X10, q_co_yX10_bossAfter, by decide +kernel, by decide +kernel, by decide +kernel⟩
theorem h_X10_waitOrApprove : hSt yX10_waitOrApprove cX10_waitOrApprove 2 (some .int) 1 := ⟨q_st_yX10_waitOrApprove, q_in_X10, q_co_yX10_waitOrApprove, by decide +kernel, by decide +kernel, by decide +kernel⟩
theorem h_X10_missingApprovals : hSt yX10_missingApprovals cX10_missingApprovals 5 (some .int) 1 := ⟨q_st_yX10_missingApprovals, q_in_X10, q_co_yX10_missingApprovals, by decide +kernel, by decide +kernel, by decide +kernel⟩
theorem h_X10_approve : hV yX10_approve cX10_approve 6 (some .int) 2 := ⟨q_im_yX10_approve, q_se_yX10_approve, q_in_X10, q_co_yX10_approve, by decide +kernel, by decide +kernel, by decide +kernel⟩
theorem h_X10_approverFor : hV yX10_approverFor cX10_approverFor 3 (some (.object "ChitWright$Person")) 2 := ⟨q_im_yX10_approverFor, q_se_yX10_approverFor, q_in_X10, q_co_yX10_approverFor, by decide +kernel, by decide +kernel, by decide +kernel⟩
theorem h_X10_refuse : hV yX10_refuse cX10_refuse 5 none 2 := ⟨q_im_yX10_refuse, q_se_yX10_refuse, q_in_X10, q_co_yX10_refuse, by decide +kernel, by decide +kernel, by decide +kernel⟩
theorem h_X10_release : hSt yX10_release cX10_release 5 (some .long) 2 := ⟨q_st_yX10_release, q_in_X10, q_co_yX10_release, by decide +kernel, by decide +kernel, by decide +kernel⟩
theorem h_X10_edit : hV yX10_edit cX10_edit 7 (some .int) 3 := ⟨q_im_yX10_edit, q_se_yX10_edit, q_in_X10, q_co_yX10_edit, by decide +kernel, by decide +kernel, by decide +kernel⟩
theorem h_X10_lineAt : hSt yX10_lineAt cX10_lineAt 2 (some (.object "ChitWright$Line")) 2 := ⟨q_st_yX10_lineAt, q_in_X10, q_co_yX10_lineAt, by decide +kernel, by decide +kernel, by decide +kernel⟩
theorem h_X10_order : hV yX10_order cX10_order 5 none 2 := ⟨q_im_yX10_order, q_se_yX10_order, q_in_X10, q_co_yX10_order, by decide +kernel, by decide +kernel, by decide +kernel⟩
theorem h_X10_receive : hV yX10_receive cX10_receive 7 (some .int) 3 := ⟨q_im_yX10_receive, q_se_yX10_receive, q_in_X10, q_co_yX10_receive, by decide +kernel, by decide +kernel, by decide +kernel⟩
theorem h_X10_lookAgain : hV yX10_lookAgain cX10_lookAgain 5 (some .int) 1 := ⟨q_im_yX10_lookAgain, q_se_yX10_lookAgain, q_in_X10, q_co_yX10_lookAgain, by decide +kernel, by decide +kernel, by decide +kernel⟩
theorem h_X2_reasons : hV yX2_reasons cX2_reasons 2 (some .int) 0 := ⟨q_im_yX2_reasons, q_se_yX2_reasons, q_in_X2, q_co_yX2_reasons, by decide +kernel, by decide +kernel, by decide +kernel⟩
theorem h_X2_isTooDear : hV yX2_isTooDear cX2_isTooDear 3 (some .boolean) 0 := ⟨q_im_yX2_isTooDear, q_se_yX2_isTooDear, q_in_X2, q_co_yX2_isTooDear, by decide +kernel, by decide +kernel, by decide +kernel⟩
theorem h_X2_orderedValue : hV yX2_orderedValue cX2_orderedValue 1 (some .long) 0 := ⟨q_im_yX2_orderedValue, q_se_yX2_orderedValue, q_in_X2, q_co_yX2_orderedValue, by decide +kernel, by decide +kernel, by decide +kernel⟩
theorem h_X10_book : hV yX10_book cX10_book 8 none 1 := ⟨q_im_yX10_book, q_se_yX10_book, q_in_X10, q_co_yX10_book, by decide +kernel, by decide +kernel, by decide +kernel⟩
theorem h_X10_spend : hV yX10_spend cX10_spend 4 none 2 := ⟨q_im_yX10_spend, q_se_yX10_spend, q_in_X10, q_co_yX10_spend, by decide +kernel, by decide +kernel, by decide +kernel⟩
theorem h_X10_change : hV yX10_change cX10_change 8 (some .int) 3 := ⟨q_im_yX10_change, q_se_yX10_change, q_in_X10, q_co_yX10_change, by decide +kernel, by decide +kernel, by decide +kernel⟩
theorem h_X10_end : hV yX10_end cX10_end 3 (some .long) 1 := ⟨q_im_yX10_end, q_se_yX10_end, q_in_X10, q_co_yX10_end, by decide +kernel, by decide +kernel, by decide +kernel⟩
theorem h_X7_hasHeldInvoices : hV yX7_hasHeldInvoices cX7_hasHeldInvoices 2 (some .boolean) 0 := ⟨q_im_yX7_hasHeldInvoices, q_se_yX7_hasHeldInvoices, q_in_X7, q_co_yX7_hasHeldInvoices, by decide +kernel, by decide +kernel, by decide +kernel⟩
theorem h_X10_invoice : hV yX10_invoice cX10_invoice 9 (some .int) 4 := ⟨q_im_yX10_invoice, q_se_yX10_invoice, q_in_X10, q_co_yX10_invoice, by decide +kernel, by decide +kernel, by decide +kernel⟩
theorem h_X10_bookUnlessHeld : hV yX10_bookUnlessHeld cX10_bookUnlessHeld 2 (some .boolean) 1 := ⟨q_im_yX10_bookUnlessHeld, q_se_yX10_bookUnlessHeld, q_in_X10, q_co_yX10_bookUnlessHeld, by decide +kernel, by decide +kernel, by decide +kernel⟩
theorem h_X10_letGo : hV yX10_letGo cX10_letGo 5 (some .boolean) 2 := ⟨q_im_yX10_letGo, q_se_yX10_letGo, q_in_X10, q_co_yX10_letGo, by decide +kernel, by decide +kernel, by decide +kernel⟩
theorem h_X10_invoiceAt : hV yX10_invoiceAt cX10_invoiceAt 2 (some (.object "ChitWright$Invoice")) 1 := ⟨q_im_yX10_invoiceAt, q_se_yX10_invoiceAt, q_in_X10, q_co_yX10_invoiceAt, by decide +kernel, by decide +kernel, by decide +kernel⟩
theorem h_X10_run : hV yX10_run cX10_run 6 (some .int) 2 := ⟨q_im_yX10_run, q_se_yX10_run, q_in_X10, q_co_yX10_run, by decide +kernel, by decide +kernel, by decide +kernel⟩
theorem h_X10_isToPay : hV yX10_isToPay cX10_isToPay 5 (some .boolean) 3 := ⟨q_im_yX10_isToPay, q_se_yX10_isToPay, q_in_X10, q_co_yX10_isToPay, by decide +kernel, by decide +kernel, by decide +kernel⟩
theorem h_X10_isInDiscountDays : hV yX10_isInDiscountDays cX10_isInDiscountDays 2 (some .boolean) 1 := ⟨q_im_yX10_isInDiscountDays, q_se_yX10_isInDiscountDays, q_in_X10, q_co_yX10_isInDiscountDays, by decide +kernel, by decide +kernel, by decide +kernel⟩
theorem h_X10_pay : hV yX10_pay cX10_pay 5 none 1 := ⟨q_im_yX10_pay, q_se_yX10_pay, q_in_X10, q_co_yX10_pay, by decide +kernel, by decide +kernel, by decide +kernel⟩
theorem h_X2_owedInMoney : hV yX2_owedInMoney cX2_owedInMoney 3 (some .long) 0 := ⟨q_im_yX2_owedInMoney, q_se_yX2_owedInMoney, q_in_X2, q_co_yX2_owedInMoney, by decide +kernel, by decide +kernel, by decide +kernel⟩
theorem h_X10_bounce : hV yX10_bounce cX10_bounce 3 (some .long) 1 := ⟨q_im_yX10_bounce, q_se_yX10_bounce, q_in_X10, q_co_yX10_bounce, by decide +kernel, by decide +kernel, by decide +kernel⟩
theorem h_X10_goOn : hV yX10_goOn cX10_goOn 3 none 1 := ⟨q_im_yX10_goOn, q_se_yX10_goOn, q_in_X10, q_co_yX10_goOn, by decide +kernel, by decide +kernel, by decide +kernel⟩
theorem h_X10_place : hV yX10_place cX10_place 4 (some .int) 2 := ⟨q_im_yX10_place, q_se_yX10_place, q_in_X10, q_co_yX10_place, by decide +kernel, by decide +kernel, by decide +kernel⟩
theorem h_X10_trip : hV yX10_trip cX10_trip 12 (some .int) 7 := ⟨q_im_yX10_trip, q_se_yX10_trip, q_in_X10, q_co_yX10_trip, by decide +kernel, by decide +kernel, by decide +kernel⟩
theorem h_X10_allowance : hSt yX10_allowance cX10_allowance 7 (some .long) 4 := ⟨q_st_yX10_allowance, q_in_X10, q_co_yX10_allowance, by decide +kernel, by decide +kernel, by decide +kernel⟩
theorem h_X10_advance : hV yX10_advance cX10_advance 4 (some .long) 2 := ⟨q_im_yX10_advance, q_se_yX10_advance, q_in_X10, q_co_yX10_advance, by decide +kernel, by decide +kernel, by decide +kernel⟩
theorem h_X10_settle : hV yX10_settle cX10_settle 5 (some .long) 1 := ⟨q_im_yX10_settle, q_se_yX10_settle, q_in_X10, q_co_yX10_settle, by decide +kernel, by decide +kernel, by decide +kernel⟩
theorem h_X10_card : hV yX10_card cX10_card 4 (some .int) 2 := ⟨q_im_yX10_card, q_se_yX10_card, q_in_X10, q_co_yX10_card, by decide +kernel, by decide +kernel, by decide +kernel⟩
theorem h_X10_tell : hV yX10_tell cX10_tell 7 (some .long) 3 := ⟨q_im_yX10_tell, q_se_yX10_tell, q_in_X10, q_co_yX10_tell, by decide +kernel, by decide +kernel, by decide +kernel⟩
theorem h_X10_entryAt : hV yX10_entryAt cX10_entryAt 2 (some (.object "ChitWright$Entry")) 1 := ⟨q_im_yX10_entryAt, q_se_yX10_entryAt, q_in_X10, q_co_yX10_entryAt, by decide +kernel, by decide +kernel, by decide +kernel⟩
theorem h_X10_sample : hV yX10_sample cX10_sample 3 none 2 := ⟨q_im_yX10_sample, q_se_yX10_sample, q_in_X10, q_co_yX10_sample, by decide +kernel, by decide +kernel, by decide +kernel⟩
theorem h_X10_centre : hV yX10_centre cX10_centre 5 (some .long) 3 := ⟨q_im_yX10_centre, q_se_yX10_centre, q_in_X10, q_co_yX10_centre, by decide +kernel, by decide +kernel, by decide +kernel⟩
theorem h_X10_requestOf : hV yX10_requestOf cX10_requestOf 4 (some .long) 2 := ⟨q_im_yX10_requestOf, q_se_yX10_requestOf, q_in_X10, q_co_yX10_requestOf, by decide +kernel, by decide +kernel, by decide +kernel⟩
theorem h_X10_next : hV yX10_next cX10_next 4 (some .int) 1 := ⟨q_im_yX10_next, q_se_yX10_next, q_in_X10, q_co_yX10_next, by decide +kernel, by decide +kernel, by decide +kernel⟩
theorem h_X10_lineOf : hV yX10_lineOf cX10_lineOf 5 (some .int) 3 := ⟨q_im_yX10_lineOf, q_se_yX10_lineOf, q_in_X10, q_co_yX10_lineOf, by decide +kernel, by decide +kernel, by decide +kernel⟩
theorem h_X10_invoiceOf : hV yX10_invoiceOf cX10_invoiceOf 4 (some .long) 2 := ⟨q_im_yX10_invoiceOf, q_se_yX10_invoiceOf, q_in_X10, q_co_yX10_invoiceOf, by decide +kernel, by decide +kernel, by decide +kernel⟩
theorem h_X10_staff : hV yX10_staff cX10_staff 4 (some .long) 2 := ⟨q_im_yX10_staff, q_se_yX10_staff, q_in_X10, q_co_yX10_staff, by decide +kernel, by decide +kernel, by decide +kernel⟩
theorem h_X10_tripCost : hV yX10_tripCost cX10_tripCost 2 (some .long) 1 := ⟨q_im_yX10_tripCost, q_se_yX10_tripCost, q_in_X10, q_co_yX10_tripCost, by decide +kernel, by decide +kernel, by decide +kernel⟩
theorem h_X10_isTold : hV yX10_isTold cX10_isTold 2 (some .boolean) 1 := ⟨q_im_yX10_isTold, q_se_yX10_isTold, q_in_X10, q_co_yX10_isTold, by decide +kernel, by decide +kernel, by decide +kernel⟩
theorem h_X10_account : hV yX10_account cX10_account 2 (some .long) 1 := ⟨q_im_yX10_account, q_se_yX10_account, q_in_X10, q_co_yX10_account, by decide +kernel, by decide +kernel, by decide +kernel⟩
theorem h_X10_isSampled : hV yX10_isSampled cX10_isSampled 4 (some .boolean) 2 := ⟨q_im_yX10_isSampled, q_se_yX10_isSampled, q_in_X10, q_co_yX10_isSampled, by decide +kernel, by decide +kernel, by decide +kernel⟩
theorem h_X10_countOfKind : hV yX10_countOfKind cX10_countOfKind 2 (some .int) 1 := ⟨q_im_yX10_countOfKind, q_se_yX10_countOfKind, q_in_X10, q_co_yX10_countOfKind, by decide +kernel, by decide +kernel, by decide +kernel⟩
theorem h_X11_thrown : hV yX11_thrown cX11_thrown 1 (some .int) 0 := ⟨q_im_yX11_thrown, q_se_yX11_thrown, q_in_X11, q_co_yX11_thrown, by decide +kernel, by decide +kernel, by decide +kernel⟩
theorem h_X11_person : hV yX11_person cX11_person 4 (some .int) 2 := ⟨q_im_yX11_person, q_se_yX11_person, q_in_X11, q_co_yX11_person, by decide +kernel, by decide +kernel, by decide +kernel⟩
theorem h_X11_isPerson : hV yX11_isPerson cX11_isPerson 2 (some .boolean) 1 := ⟨q_im_yX11_isPerson, q_se_yX11_isPerson, q_in_X11, q_co_yX11_isPerson, by decide +kernel, by decide +kernel, by decide +kernel⟩
theorem h_X11_in : hSt yX11_in cX11_in 3 (some .boolean) 3 := ⟨q_st_yX11_in, q_in_X11, q_co_yX11_in, by decide +kernel, by decide +kernel, by decide +kernel⟩
theorem h_X11_holds : hV yX11_holds cX11_holds 2 (some .boolean) 1 := ⟨q_im_yX11_holds, q_se_yX11_holds, q_in_X11, q_co_yX11_holds, by decide +kernel, by decide +kernel, by decide +kernel⟩
theorem h_X11_absent : hV yX11_absent cX11_absent 5 none 3 := ⟨q_im_yX11_absent, q_se_yX11_absent, q_in_X11, q_co_yX11_absent, by decide +kernel, by decide +kernel, by decide +kernel⟩
theorem h_X11_controller : hV yX11_controller cX11_controller 3 (some .int) 1 := ⟨q_im_yX11_controller, q_se_yX11_controller, q_in_X11, q_co_yX11_controller, by decide +kernel, by decide +kernel, by decide +kernel⟩
theorem h_X11_budget : hV yX11_budget cX11_budget 6 (some .long) 3 := ⟨q_im_yX11_budget, q_se_yX11_budget, q_in_X11, q_co_yX11_budget, by decide +kernel, by decide +kernel, by decide +kernel⟩
theorem h_X11_isCentre : hSt yX11_isCentre cX11_isCentre 1 (some .boolean) 1 := ⟨q_st_yX11_isCentre, q_in_X11, q_co_yX11_isCentre, by decide +kernel, by decide +kernel, by decide +kernel⟩
theorem h_X11_isYear : hSt yX11_isYear cX11_isYear 1 (some .boolean) 1 := ⟨q_st_yX11_isYear, q_in_X11, q_co_yX11_isYear, by decide +kernel, by decide +kernel, by decide +kernel⟩
theorem h_X11_at : hSt yX11_at cX11_at 3 (some .int) 3 := ⟨q_st_yX11_at, q_in_X11, q_co_yX11_at, by decide +kernel, by decide +kernel, by decide +kernel⟩
theorem h_X11_transfer : hV yX11_transfer cX11_transfer 7 (some .long) 4 := ⟨q_im_yX11_transfer, q_se_yX11_transfer, q_in_X11, q_co_yX11_transfer, by decide +kernel, by decide +kernel, by decide +kernel⟩
theorem h_X11_free : hV yX11_free cX11_free 3 (some .long) 2 := ⟨q_im_yX11_free, q_se_yX11_free, q_in_X11, q_co_yX11_free, by decide +kernel, by decide +kernel, by decide +kernel⟩
theorem h_X11_soft : hV yX11_soft cX11_soft 4 (some .boolean) 2 := ⟨q_im_yX11_soft, q_se_yX11_soft, q_in_X11, q_co_yX11_soft, by decide +kernel, by decide +kernel, by decide +kernel⟩
theorem h_X11_carried : hV yX11_carried cX11_carried 3 (some .int) 1 := ⟨q_im_yX11_carried, q_se_yX11_carried, q_in_X11, q_co_yX11_carried, by decide +kernel, by decide +kernel, by decide +kernel⟩
theorem h_X11_supplier : hV yX11_supplier cX11_supplier 8 none 6 := ⟨q_im_yX11_supplier, q_se_yX11_supplier, q_in_X11, q_co_yX11_supplier, by decide +kernel, by decide +kernel, by decide +kernel⟩
theorem h_X11_rate : hV yX11_rate cX11_rate 4 (some .int) 2 := ⟨q_im_yX11_rate, q_se_yX11_rate, q_in_X11, q_co_yX11_rate, by decide +kernel, by decide +kernel, by decide +kernel⟩
theorem h_X11_taxes : hV yX11_taxes cX11_taxes 3 none 2 := ⟨q_im_yX11_taxes, q_se_yX11_taxes, q_in_X11, q_co_yX11_taxes, by decide +kernel, by decide +kernel, by decide +kernel⟩
theorem h_X11_pass : hV yX11_pass cX11_pass 3 (some .int) 1 := ⟨q_im_yX11_pass, q_se_yX11_pass, q_in_X11, q_co_yX11_pass, by decide +kernel, by decide +kernel, by decide +kernel⟩
theorem h_X11_closes : hV yX11_closes cX11_closes 9 none 0 := ⟨q_im_yX11_closes, q_se_yX11_closes, q_in_X11, q_co_yX11_closes, by decide +kernel, by decide +kernel, by decide +kernel⟩
theorem h_X11_yearNow : hV yX11_yearNow cX11_yearNow 1 (some .int) 0 := ⟨q_im_yX11_yearNow, q_se_yX11_yearNow, q_in_X11, q_co_yX11_yearNow, by decide +kernel, by decide +kernel, by decide +kernel⟩
theorem h_X11_bookedPieces : hV yX11_bookedPieces cX11_bookedPieces 4 (some .int) 1 := ⟨q_im_yX11_bookedPieces, q_se_yX11_bookedPieces, q_in_X11, q_co_yX11_bookedPieces, by decide +kernel, by decide +kernel, by decide +kernel⟩
theorem h_X11_request : hV yX11_request cX11_request 4 (some .int) 2 := ⟨q_im_yX11_request, q_se_yX11_request, q_in_X11, q_co_yX11_request, by decide +kernel, by decide +kernel, by decide +kernel⟩
theorem h_X11_line : hV yX11_line cX11_line 8 (some .int) 4 := ⟨q_im_yX11_line, q_se_yX11_line, q_in_X11, q_co_yX11_line, by decide +kernel, by decide +kernel, by decide +kernel⟩
theorem h_X11_isRequest : hV yX11_isRequest cX11_isRequest 2 (some .boolean) 1 := ⟨q_im_yX11_isRequest, q_se_yX11_isRequest, q_in_X11, q_co_yX11_isRequest, by decide +kernel, by decide +kernel, by decide +kernel⟩
theorem h_X11_send : hV yX11_send cX11_send 4 (some .int) 1 := ⟨q_im_yX11_send, q_se_yX11_send, q_in_X11, q_co_yX11_send, by decide +kernel, by decide +kernel, by decide +kernel⟩
theorem h_X11_total : hV yX11_total cX11_total 5 (some .long) 1 := ⟨q_im_yX11_total, q_se_yX11_total, q_in_X11, q_co_yX11_total, by decide +kernel, by decide +kernel, by decide +kernel⟩
theorem h_X11_may : hV yX11_may cX11_may 5 (some .boolean) 3 := ⟨q_im_yX11_may, q_se_yX11_may, q_in_X11, q_co_yX11_may, by decide +kernel, by decide +kernel, by decide +kernel⟩
theorem h_X11_commits : hV yX11_commits cX11_commits 4 none 2 := ⟨q_im_yX11_commits, q_se_yX11_commits, q_in_X11, q_co_yX11_commits, by decide +kernel, by decide +kernel, by decide +kernel⟩
theorem h_X11_laysChain : hV yX11_laysChain cX11_laysChain 7 none 2 := ⟨q_im_yX11_laysChain, q_se_yX11_laysChain, q_in_X11, q_co_yX11_laysChain, by decide +kernel, by decide +kernel, by decide +kernel⟩
theorem h_X11_left : hV yX11_left cX11_left 2 (some .int) 1 := ⟨q_im_yX11_left, q_se_yX11_left, q_in_X11, q_co_yX11_left, by decide +kernel, by decide +kernel, by decide +kernel⟩
theorem h_X11_approve : hV yX11_approve cX11_approve 4 (some .int) 2 := ⟨q_im_yX11_approve, q_se_yX11_approve, q_in_X11, q_co_yX11_approve, by decide +kernel, by decide +kernel, by decide +kernel⟩
theorem h_X11_can : hV yX11_can cX11_can 3 (some .boolean) 2 := ⟨q_im_yX11_can, q_se_yX11_can, q_in_X11, q_co_yX11_can, by decide +kernel, by decide +kernel, by decide +kernel⟩
theorem h_X11_byTurn : hV yX11_byTurn cX11_byTurn 2 (some .int) 1 := ⟨q_im_yX11_byTurn, q_se_yX11_byTurn, q_in_X11, q_co_yX11_byTurn, by decide +kernel, by decide +kernel, by decide +kernel⟩
theorem h_X11_approver : hV yX11_approver cX11_approver 4 (some .int) 2 := ⟨q_im_yX11_approver, q_se_yX11_approver, q_in_X11, q_co_yX11_approver, by decide +kernel, by decide +kernel, by decide +kernel⟩
theorem h_X11_byController : hV yX11_byController cX11_byController 2 (some .int) 1 := ⟨q_im_yX11_byController, q_se_yX11_byController, q_in_X11, q_co_yX11_byController, by decide +kernel, by decide +kernel, by decide +kernel⟩
theorem h_X11_refuse : hV yX11_refuse cX11_refuse 6 none 2 := ⟨q_im_yX11_refuse, q_se_yX11_refuse, q_in_X11, q_co_yX11_refuse, by decide +kernel, by decide +kernel, by decide +kernel⟩
theorem h_X11_frees : hV yX11_frees cX11_frees 6 (some .long) 2 := ⟨q_im_yX11_frees, q_se_yX11_frees, q_in_X11, q_co_yX11_frees, by decide +kernel, by decide +kernel, by decide +kernel⟩
theorem h_X11_edit : hV yX11_edit cX11_edit 8 (some .int) 3 := ⟨q_im_yX11_edit, q_se_yX11_edit, q_in_X11, q_co_yX11_edit, by decide +kernel, by decide +kernel, by decide +kernel⟩
theorem h_X11_isLine : hV yX11_isLine cX11_isLine 3 (some .boolean) 2 := ⟨q_im_yX11_isLine, q_se_yX11_isLine, q_in_X11, q_co_yX11_isLine, by decide +kernel, by decide +kernel, by decide +kernel⟩
theorem h_X11_order : hV yX11_order cX11_order 4 none 2 := ⟨q_im_yX11_order, q_se_yX11_order, q_in_X11, q_co_yX11_order, by decide +kernel, by decide +kernel, by decide +kernel⟩
theorem h_X11_receive : hV yX11_receive cX11_receive 8 (some .int) 3 := ⟨q_im_yX11_receive, q_se_yX11_receive, q_in_X11, q_co_yX11_receive, by decide +kernel, by decide +kernel, by decide +kernel⟩
theorem h_X11_looksAgain : hV yX11_looksAgain cX11_looksAgain 4 (some .int) 1 := ⟨q_im_yX11_looksAgain, q_se_yX11_looksAgain, q_in_X11, q_co_yX11_looksAgain, by decide +kernel, by decide +kernel, by decide +kernel⟩
theorem h_X11_why : hV yX11_why cX11_why 7 (some .int) 1 := ⟨q_im_yX11_why, q_se_yX11_why, q_in_X11, q_co_yX11_why, by decide +kernel, by decide +kernel, by decide +kernel⟩
theorem h_X11_books : hV yX11_books cX11_books 13 none 1 := ⟨q_im_yX11_books, q_se_yX11_books, q_in_X11, q_co_yX11_books, by decide +kernel, by decide +kernel, by decide +kernel⟩
theorem h_X11_change : hV yX11_change cX11_change 10 (some .int) 3 := ⟨q_im_yX11_change, q_se_yX11_change, q_in_X11, q_co_yX11_change, by decide +kernel, by decide +kernel, by decide +kernel⟩
theorem h_X11_canChange : hV yX11_canChange cX11_canChange 6 (some .boolean) 3 := ⟨q_im_yX11_canChange, q_se_yX11_canChange, q_in_X11, q_co_yX11_canChange, by decide +kernel, by decide +kernel, by decide +kernel⟩
theorem h_X11_heldPieces : hV yX11_heldPieces cX11_heldPieces 4 (some .int) 1 := ⟨q_im_yX11_heldPieces, q_se_yX11_heldPieces, q_in_X11, q_co_yX11_heldPieces, by decide +kernel, by decide +kernel, by decide +kernel⟩
theorem h_X11_end : hV yX11_end cX11_end 5 (some .long) 1 := ⟨q_im_yX11_end, q_se_yX11_end, q_in_X11, q_co_yX11_end, by decide +kernel, by decide +kernel, by decide +kernel⟩
theorem h_X11_invoice : hV yX11_invoice cX11_invoice 8 (some .int) 4 := ⟨q_im_yX11_invoice, q_se_yX11_invoice, q_in_X11, q_co_yX11_invoice, by decide +kernel, by decide +kernel, by decide +kernel⟩
theorem h_X11_letGo : hV yX11_letGo cX11_letGo 5 (some .boolean) 2 := ⟨q_im_yX11_letGo, q_se_yX11_letGo, q_in_X11, q_co_yX11_letGo, by decide +kernel, by decide +kernel, by decide +kernel⟩
theorem h_X11_isInvoice : hV yX11_isInvoice cX11_isInvoice 2 (some .boolean) 1 := ⟨q_im_yX11_isInvoice, q_se_yX11_isInvoice, q_in_X11, q_co_yX11_isInvoice, by decide +kernel, by decide +kernel, by decide +kernel⟩
theorem h_X11_run : hV yX11_run cX11_run 6 (some .int) 2 := ⟨q_im_yX11_run, q_se_yX11_run, q_in_X11, q_co_yX11_run, by decide +kernel, by decide +kernel, by decide +kernel⟩
theorem h_X11_isEarly : hV yX11_isEarly cX11_isEarly 2 (some .boolean) 1 := ⟨q_im_yX11_isEarly, q_se_yX11_isEarly, q_in_X11, q_co_yX11_isEarly, by decide +kernel, by decide +kernel, by decide +kernel⟩
theorem h_X11_pays : hV yX11_pays cX11_pays 7 none 1 := ⟨q_im_yX11_pays, q_se_yX11_pays, q_in_X11, q_co_yX11_pays, by decide +kernel, by decide +kernel, by decide +kernel⟩
theorem h_X11_bounce : hV yX11_bounce cX11_bounce 3 (some .long) 1 := ⟨q_im_yX11_bounce, q_se_yX11_bounce, q_in_X11, q_co_yX11_bounce, by decide +kernel, by decide +kernel, by decide +kernel⟩
theorem h_X11_goOn : hV yX11_goOn cX11_goOn 3 none 1 := ⟨q_im_yX11_goOn, q_se_yX11_goOn, q_in_X11, q_co_yX11_goOn, by decide +kernel, by decide +kernel, by decide +kernel⟩
theorem h_X11_place : hV yX11_place cX11_place 4 (some .int) 2 := ⟨q_im_yX11_place, q_se_yX11_place, q_in_X11, q_co_yX11_place, by decide +kernel, by decide +kernel, by decide +kernel⟩
theorem h_X11_trip : hV yX11_trip cX11_trip 12 (some .int) 7 := ⟨q_im_yX11_trip, q_se_yX11_trip, q_in_X11, q_co_yX11_trip, by decide +kernel, by decide +kernel, by decide +kernel⟩
theorem h_X11_costOf : hSt yX11_costOf cX11_costOf 7 (some .long) 5 := ⟨q_st_yX11_costOf, q_in_X11, q_co_yX11_costOf, by decide +kernel, by decide +kernel, by decide +kernel⟩
theorem h_X11_advance : hV yX11_advance cX11_advance 3 (some .long) 2 := ⟨q_im_yX11_advance, q_se_yX11_advance, q_in_X11, q_co_yX11_advance, by decide +kernel, by decide +kernel, by decide +kernel⟩
theorem h_X11_settle : hV yX11_settle cX11_settle 4 (some .long) 1 := ⟨q_im_yX11_settle, q_se_yX11_settle, q_in_X11, q_co_yX11_settle, by decide +kernel, by decide +kernel, by decide +kernel⟩
theorem h_X11_card : hV yX11_card cX11_card 3 (some .int) 2 := ⟨q_im_yX11_card, q_se_yX11_card, q_in_X11, q_co_yX11_card, by decide +kernel, by decide +kernel, by decide +kernel⟩
theorem h_X11_tell : hV yX11_tell cX11_tell 8 (some .long) 3 := ⟨q_im_yX11_tell, q_se_yX11_tell, q_in_X11, q_co_yX11_tell, by decide +kernel, by decide +kernel, by decide +kernel⟩
theorem h_X11_payCard : hV yX11_payCard cX11_payCard 3 (some .long) 0 := ⟨q_im_yX11_payCard, q_se_yX11_payCard, q_in_X11, q_co_yX11_payCard, by decide +kernel, by decide +kernel, by decide +kernel⟩
theorem h_X11_sample : hV yX11_sample cX11_sample 3 none 2 := ⟨q_im_yX11_sample, q_se_yX11_sample, q_in_X11, q_co_yX11_sample, by decide +kernel, by decide +kernel, by decide +kernel⟩
theorem h_X11_day : hV yX11_day cX11_day 1 (some .int) 0 := ⟨q_im_yX11_day, q_se_yX11_day, q_in_X11, q_co_yX11_day, by decide +kernel, by decide +kernel, by decide +kernel⟩
theorem h_X11_centre : hV yX11_centre cX11_centre 4 (some .long) 3 := ⟨q_im_yX11_centre, q_se_yX11_centre, q_in_X11, q_co_yX11_centre, by decide +kernel, by decide +kernel, by decide +kernel⟩
theorem h_X11_requestOf : hV yX11_requestOf cX11_requestOf 3 (some .long) 2 := ⟨q_im_yX11_requestOf, q_se_yX11_requestOf, q_in_X11, q_co_yX11_requestOf, by decide +kernel, by decide +kernel, by decide +kernel⟩
theorem h_X11_next : hV yX11_next cX11_next 3 (some .int) 1 := ⟨q_im_yX11_next, q_se_yX11_next, q_in_X11, q_co_yX11_next, by decide +kernel, by decide +kernel, by decide +kernel⟩
theorem h_X11_lineOf : hV yX11_lineOf cX11_lineOf 5 (some .int) 3 := ⟨q_im_yX11_lineOf, q_se_yX11_lineOf, q_in_X11, q_co_yX11_lineOf, by decide +kernel, by decide +kernel, by decide +kernel⟩
theorem h_X11_invoiceOf : hV yX11_invoiceOf cX11_invoiceOf 4 (some .long) 2 := ⟨q_im_yX11_invoiceOf, q_se_yX11_invoiceOf, q_in_X11, q_co_yX11_invoiceOf, by decide +kernel, by decide +kernel, by decide +kernel⟩
theorem h_X11_staff : hV yX11_staff cX11_staff 3 (some .long) 2 := ⟨q_im_yX11_staff, q_se_yX11_staff, q_in_X11, q_co_yX11_staff, by decide +kernel, by decide +kernel, by decide +kernel⟩
theorem h_X11_tripCost : hV yX11_tripCost cX11_tripCost 2 (some .long) 1 := ⟨q_im_yX11_tripCost, q_se_yX11_tripCost, q_in_X11, q_co_yX11_tripCost, by decide +kernel, by decide +kernel, by decide +kernel⟩
theorem h_X11_isTold : hV yX11_isTold cX11_isTold 2 (some .boolean) 1 := ⟨q_im_yX11_isTold, q_se_yX11_isTold, q_in_X11, q_co_yX11_isTold, by decide +kernel, by decide +kernel, by decide +kernel⟩
theorem h_X11_account : hV yX11_account cX11_account 2 (some .long) 1 := ⟨q_im_yX11_account, q_se_yX11_account, q_in_X11, q_co_yX11_account, by decide +kernel, by decide +kernel, by decide +kernel⟩
theorem h_X11_isSampled : hV yX11_isSampled cX11_isSampled 5 (some .boolean) 2 := ⟨q_im_yX11_isSampled, q_se_yX11_isSampled, q_in_X11, q_co_yX11_isSampled, by decide +kernel, by decide +kernel, by decide +kernel⟩
theorem h_X11_isIn : hV yX11_isIn cX11_isIn 4 (some .boolean) 2 := ⟨q_im_yX11_isIn, q_se_yX11_isIn, q_in_X11, q_co_yX11_isIn, by decide +kernel, by decide +kernel, by decide +kernel⟩
