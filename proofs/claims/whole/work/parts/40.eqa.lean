def TI : List (Nat × Nat × Nat) := [(195, 6, 0), (33, 12, 10), (289, 32, 5), (290, 31, 5), (291, 33, 5), (292, 34, 5), (293, 35, 5), (160, 36, 6), (259, 17, 1), (260, 20, 1), (263, 26, 1), (264, 21, 1), (130, 28, 9), (131, 30, 9), (102, 44, 2), (103, 45, 2), (105, 51, 2), (111, 53, 2), (66, 62, 4), (1280, 56, 7)]
def TJ : List (Nat × Nat × Nat) := [(197, 8, 0), (198, 9, 0), (261, 19, 1), (265, 22, 1), (106, 46, 2), (107, 47, 2), (112, 54, 2), (113, 55, 2), (1312, 2, 8)]
def TF : List (Nat × Nat × Nat) := [(193, 4, 0), (194, 5, 0), (256, 15, 1), (257, 16, 1), (128, 27, 9), (129, 29, 9), (97, 40, 2), (99, 41, 2), (100, 42, 2), (64, 60, 4), (65, 61, 4)]
def TG : List (Nat × Nat × Nat) := [(101, 43, 2), (320, 58, 3)]
def T0 : List (Nat × Nat) := [(363, 1), (364, 13), (365, 37), (366, 38), (368, 64), (369, 65)]
def J0 : List (Nat × Nat) := [(367, 63)]
/-- how many there are -/
def cnt (M : MS) (j : Nat) : Nat := (mI M j).toNatClampNeg
def gn (M : MS) (j i : Nat) : Int32 := M.2.2.1 j i
def gl (M : MS) (j i : Nat) : Int64 := M.2.2.2 j i
/-- where rows are compared -/
def dm (M : MS) (c i : Nat) : Prop := match c with
  | 0 => i < cnt M 3
  | 1 => i < cnt M 14
  | 2 => i < cnt M 39
  | 3 => i < cnt M 57
  | 4 => i < cnt M 59
  | 5 => i < 6
  | 6 => i < 3
  | 7 => i < 4
  | 8 => i < 9
  | 9 => i / 4 < cnt M 14 ∧ i % 4 < (gn M 18 (i / 4)).toNatClampNeg
  | _ => i < 6
def RI (S : CT) (M : MS) : Prop := ∀ t ∈ TI, ∀ i, dm M t.2.2 i → S.1 t.1 i = gn M t.2.1 i
def RJ (S : CT) (M : MS) : Prop := ∀ t ∈ TJ, ∀ i, dm M t.2.2 i → S.2 t.1 i = gl M t.2.1 i
def RF (X : CX) (M : MS) : Prop := (∀ t ∈ TF, ∀ i, dm M t.2.2 i → xFi X t.1 i = gn M t.2.1 i) ∧ (∀ t ∈ TG, ∀ i, dm M t.2.2 i → xFj X t.1 i = gl M t.2.1 i) ∧ (∀ i, dm M 0 i → xFi X 192 i = nI i) ∧ (∀ i, i < 6 → xFi X 288 i = nI i) ∧ ∀ i, dm M 2 i → xFi X 96 i = nI ((gn M 40 i).toNatClampNeg / 4) ∧ xFi X 98 i = gn M 21 ((gn M 40 i).toNatClampNeg / 4)
def R0 (S : CT) (M : MS) : Prop := (∀ t ∈ T0, S.1 t.1 0 = mI M t.2) ∧ S.2 367 0 = mJ M 63
/-- the sizes of lists -/
def RZ (X : CX) (M : MS) : Prop := (mI M 3 = nI (xSz X 20 0) ∧ mI M 14 = nI (xSz X 24 0) ∧ mI M 39 = nI (xSz X 25 0) ∧ mI M 57 = nI (xSz X 26 0) ∧ mI M 59 = nI (xSz X 27 0)) ∧ ∀ r, r < xSz X 24 0 → gn M 18 r = nI (xSz X 29 r)
def RC (S : CT) (M : MS) : Prop := S.1 362 0 = if mI M 3 = 0 then -1 else mI M 10
def RU (S : CT) (M : MS) : Prop := ∀ i, dm M 0 i → (gn M 6 i = 0 ∧ S.1 196 i = -1) ∨ S.1 196 i = gn M 7 i
/-- whose turn it is -/
def RT (S : CT) (M : MS) : Prop := ∀ r, dm M 1 r → S.1 262 r = if gn M 24 r ≤ gn M 25 r then -1 else gI M 23 (12 * nI r + gn M 25 r)
/-- what is on invoices -/
def RB (S : CT) (M : MS) : Prop := ∀ q, dm M 9 q → S.1 132 q = f_bookedPieces (nI q) M ∧ S.1 133 q = f_heldPieces (nI q) M
def RV (S : CT) (M : MS) : Prop := ∀ i, dm M 2 i → S.2 108 i = (if gn M 44 i = 1 then gl M 48 i else 0) ∧ (gn M 44 i = 0 → S.1 110 i = -1) ∧ (gn M 44 i ≠ 0 → S.1 104 i = gn M 52 i ∧ S.1 109 i = gn M 49 i ∧ S.1 110 i = gn M 50 i)
/-- budgets -/
def RP (S : CT) (M : MS) : Prop := ∀ q u, q < 6 → u < 3 → ∀ z, z < 3 → S.2 (224 + z) (3 * q + u) = gl M 11 (9 * q + 3 * u + z)
def RR (X : CX) (S : CT) (M : MS) : Prop := (RI S M ∧ RJ S M) ∧ RF X M ∧ R0 S M ∧ RZ X M ∧ (RC S M ∧ RU S M) ∧ RT S M ∧ RB S M ∧ RV S M ∧ RP S M
theorem ci_n {S : CT} {f : Nat} {x : Int32} : ci S f x = S.1 f x.toNatClampNeg := rfl
theorem cj_n {S : CT} {f : Nat} {x : Int32} : cj S f x = S.2 f x.toNatClampNeg := rfl
theorem gI_n {M : MS} {j : Nat} {x : Int32} : gI M j x = gn M j x.toNatClampNeg := rfl
theorem gJ_n {M : MS} {j : Nat} {x : Int32} : gJ M j x = gl M j x.toNatClampNeg := rfl
theorem gn_rI {M : MS} {j a i : Nat} {x v : Int32} : gn (rI M j x v) a i = if a = j ∧ i = x.toNatClampNeg then v else gn M a i := by
  show (if a = j then upd (M.2.2.1 j) x.toNatClampNeg v else M.2.2.1 a) i = _
  by_cases e : a = j
  · subst e
    rw [if_pos rfl]
    by_cases e2 : i = x.toNatClampNeg
    · rw [if_pos ⟨rfl, e2⟩, e2]; simp [upd]
    · rw [if_neg (fun z => e2 z.2), upd_ne e2]; rfl
  · rw [if_neg e, if_neg (fun z => e z.1)]; rfl
theorem gl_rJ {M : MS} {j a i : Nat} {x : Int32} {v : Int64} : gl (rJ M j x v) a i = if a = j ∧ i = x.toNatClampNeg then v else gl M a i := by
  show (if a = j then vp_updL (M.2.2.2 j) x.toNatClampNeg v else M.2.2.2 a) i = _
  by_cases e : a = j
  · subst e
    rw [if_pos rfl]
    by_cases e2 : i = x.toNatClampNeg
    · rw [if_pos ⟨rfl, e2⟩, e2]; simp [vp_updL]
    · rw [if_neg (fun z => e2 z.2), upl_ne e2]; rfl
  · rw [if_neg e, if_neg (fun z => e z.1)]; rfl
theorem s1_si {S : CT} {f a i : Nat} {x v : Int32} : (si S f x v).1 a i = if a = f ∧ i = x.toNatClampNeg then v else S.1 a i := by
  by_cases e : a = f ∧ i = x.toNatClampNeg
  · rw [if_pos e, e.1, e.2, si_self]; simp [upd]
  · rw [if_neg e, si_ne e]
theorem s2_sj {S : CT} {f a i : Nat} {x : Int32} {v : Int64} : (sj S f x v).2 a i = if a = f ∧ i = x.toNatClampNeg then v else S.2 a i := by
  by_cases e : a = f ∧ i = x.toNatClampNeg
  · rw [if_pos e, e.1, e.2, sj_self]; simp [vp_updL]
  · rw [if_neg e, sj_ne e]
theorem gn_rIn {M : MS} {j a i : Nat} {x v : Int32} (h : a ≠ j) : gn (rI M j x v) a i = gn M a i := by rw [gn_rI, if_neg (fun z => h z.1)]
theorem gl_rJn {M : MS} {j a i : Nat} {x : Int32} {v : Int64} (h : a ≠ j) : gl (rJ M j x v) a i = gl M a i := by rw [gl_rJ, if_neg (fun z => h z.1)]
theorem s1_sn {S : CT} {f a i : Nat} {x v : Int32} (h : a ≠ f) : (si S f x v).1 a i = S.1 a i := by rw [s1_si, if_neg (fun z => h z.1)]
theorem s2_sn {S : CT} {f a i : Nat} {x : Int32} {v : Int64} (h : a ≠ f) : (sj S f x v).2 a i = S.2 a i := by rw [s2_sj, if_neg (fun z => h z.1)]
theorem dm_rI {M : MS} {j c i : Nat} {x v : Int32} (h : j ≠ 18) : dm (rI M j x v) c i ↔ dm M c i := by
  unfold dm cnt
  split <;> first | exact Iff.rfl | (rw [gn_rIn (fun e => h e.symm)]; exact Iff.rfl)
theorem dm_rJ {M : MS} {j c i : Nat} {x : Int32} {v : Int64} : dm (rJ M j x v) c i ↔ dm M c i := by
  unfold dm cnt
  split <;> exact Iff.rfl
theorem dm_sI {M : MS} {j c i : Nat} {v : Int32} (h : j ≠ 3 ∧ j ≠ 14 ∧ j ≠ 39 ∧ j ≠ 57 ∧ j ≠ 59) : dm (sI M j v) c i ↔ dm M c i := by
  have e : ∀ a, a ≠ j → mI (sI M j v) a = mI M a := fun a z => if_neg z
  unfold dm cnt
  have e3 := e 3 (by omega)
  have e14 := e 14 (by omega)
  have e39 := e 39 (by omega)
  have e57 := e 57 (by omega)
  have e59 := e 59 (by omega)
  split <;> first | exact Iff.rfl | (simp only [e3, e14, e39, e57, e59] <;> exact Iff.rfl)
theorem dm_sJ {M : MS} {j c i : Nat} {v : Int64} : dm (sJ M j v) c i ↔ dm M c i := by
  unfold dm cnt
  split <;> exact Iff.rfl
theorem fb_cg {M M' : MS} {q : Int32} (h : mI M' 39 = mI M 39) (h1 : ∀ i, gn M' 40 i = gn M 40 i) (h2 : ∀ i, gn M' 41 i = gn M 41 i) (h3 : ∀ i, gn M' 44 i = gn M 44 i) : f_bookedPieces q M' = f_bookedPieces q M ∧ f_heldPieces q M' = f_heldPieces q M := by
  have e1 : ∀ x, gI M' 40 x = gI M 40 x := fun x => h1 _
  have e2 : ∀ x, gI M' 41 x = gI M 41 x := fun x => h2 _
  have e3 : ∀ x, gI M' 44 x = gI M 44 x := fun x => h3 _
  have hb : ∀ n, it_bookedPieces q M' n = it_bookedPieces q M n := fun n => by
    induction n with
    | zero => rfl
    | succ n ih => simp only [it_bookedPieces, st_bookedPieces, ih, e1, e2, e3]
  have hh : ∀ n, it_heldPieces q M' n = it_heldPieces q M n := fun n => by
    induction n with
    | zero => rfl
    | succ n ih => simp only [it_heldPieces, st_heldPieces, ih, e1, e2, e3]
  unfold f_bookedPieces f_heldPieces
  rw [h, hb, hh]
  exact ⟨rfl, rfl⟩
def safeI (f j : Nat) : Bool := [(33, 12), (289, 32), (290, 31), (291, 33), (292, 34), (293, 35), (160, 36), (259, 17), (260, 20), (263, 26), (130, 28), (131, 30), (103, 45), (105, 51), (111, 53), (66, 62), (1280, 56)].contains (f, j)
def safeJ (f j : Nat) : Bool := [(197, 8), (198, 9), (261, 19), (265, 22), (106, 46), (107, 47), (112, 54), (113, 55), (1312, 2)].contains (f, j)
theorem safeI_ok {f j : Nat} (h : safeI f j = true) : (∀ t ∈ TI, (t.1 = f ↔ t.2.1 = j)) ∧ (∀ t ∈ TF, t.2.1 ≠ j) ∧ (∀ t ∈ T0, t.1 ≠ f) ∧ (362 ≠ f ∧ 196 ≠ f ∧ 262 ≠ f ∧ 132 ≠ f ∧ 133 ≠ f ∧ 104 ≠ f ∧ 109 ≠ f ∧ 110 ≠ f) ∧ (40 ≠ j ∧ 21 ≠ j ∧ j ≠ 18 ∧ 6 ≠ j ∧ 7 ≠ j ∧ 24 ≠ j ∧ 25 ≠ j ∧ 23 ≠ j ∧ 44 ≠ j ∧ 41 ≠ j ∧ 52 ≠ j ∧ 49 ≠ j ∧ 50 ≠ j) := by
  have h9 : (f, j) ∈ [(33, 12), (289, 32), (290, 31), (291, 33), (292, 34), (293, 35), (160, 36), (259, 17), (260, 20), (263, 26), (130, 28), (131, 30), (103, 45), (105, 51), (111, 53), (66, 62), (1280, 56)] := List.contains_iff_mem.mp h
  simp only [List.mem_cons, Prod.mk.injEq, List.not_mem_nil, or_false] at h9
  rcases h9 with ⟨rfl, rfl⟩ | ⟨rfl, rfl⟩ | ⟨rfl, rfl⟩ | ⟨rfl, rfl⟩ | ⟨rfl, rfl⟩ | ⟨rfl, rfl⟩ | ⟨rfl, rfl⟩ | ⟨rfl, rfl⟩ | ⟨rfl, rfl⟩ | ⟨rfl, rfl⟩ | ⟨rfl, rfl⟩ | ⟨rfl, rfl⟩ | ⟨rfl, rfl⟩ | ⟨rfl, rfl⟩ | ⟨rfl, rfl⟩ | ⟨rfl, rfl⟩ | ⟨rfl, rfl⟩ <;> exact ⟨by decide, by decide, by decide, by decide, by decide⟩
theorem safeJ_ok {f j : Nat} (h : safeJ f j = true) : (∀ t ∈ TJ, (t.1 = f ↔ t.2.1 = j)) ∧ (∀ t ∈ TG, t.2.1 ≠ j) ∧ (367 ≠ f ∧ 108 ≠ f ∧ f ≠ 224 ∧ f ≠ 225 ∧ f ≠ 226) ∧ (48 ≠ j ∧ 11 ≠ j) := by
  have h9 : (f, j) ∈ [(197, 8), (198, 9), (261, 19), (265, 22), (106, 46), (107, 47), (112, 54), (113, 55), (1312, 2)] := List.contains_iff_mem.mp h
  simp only [List.mem_cons, Prod.mk.injEq, List.not_mem_nil, or_false] at h9
  rcases h9 with ⟨rfl, rfl⟩ | ⟨rfl, rfl⟩ | ⟨rfl, rfl⟩ | ⟨rfl, rfl⟩ | ⟨rfl, rfl⟩ | ⟨rfl, rfl⟩ | ⟨rfl, rfl⟩ | ⟨rfl, rfl⟩ | ⟨rfl, rfl⟩ <;> exact ⟨by decide, by decide, by decide, by decide⟩
theorem RR.pI {X : CX} {S : CT} {M : MS} {f j : Nat} {x v : Int32} (h : RR X S M) (hs : safeI f j = true) : RR X (si S f x v) (rI M j x v) := by
  obtain ⟨a, b, c, ⟨d1, d2, d3, d4, d5, d6, d7, d8⟩, ⟨e1, e2, e3, e4, e5, e6, e7, e8, e9, e10, e11, e12, e13⟩⟩ := safeI_ok hs
  have hd : ∀ c i, dm (rI M j x v) c i ↔ dm M c i := fun c i => dm_rI e3
  have hg : ∀ r i, r ≠ j → gn (rI M j x v) r i = gn M r i := fun r i z => gn_rIn z
  have hS : ∀ r i, r ≠ f → (si S f x v).1 r i = S.1 r i := fun r i z => s1_sn z
  obtain ⟨⟨r1, r2⟩, ⟨r3, r4, r5, r6, r7⟩, ⟨r8, r9⟩, ⟨r10, r11⟩, ⟨r12, r13⟩, r14, r15, r16, r17⟩ := h
  refine ⟨⟨fun t ht i hi => ?_, fun t ht i hi => r2 t ht i ((hd _ _).mp hi)⟩, ⟨fun t ht i hi => ?_, fun t ht i hi => r4 t ht i ((hd _ _).mp hi), fun i hi => r5 i ((hd 0 i).mp hi), r6, fun i hi => ?_⟩, ⟨fun t ht => ?_, r9⟩, ⟨r10, fun r hr => ?_⟩, ⟨?_, fun i hi => ?_⟩, fun r hr => ?_, fun q hq => ?_, fun i hi => ?_, r17⟩
  · rw [s1_si, gn_rI]
    have h9 := r1 t ht i ((hd _ _).mp hi)
    by_cases z : t.1 = f ∧ i = x.toNatClampNeg
    · rw [if_pos z, if_pos ⟨(a t ht).mp z.1, z.2⟩]
    · rw [if_neg z, if_neg (fun y => z ⟨(a t ht).mpr y.1, y.2⟩)]
      exact h9
  · rw [hg _ _ (b t ht)]
    exact r3 t ht i ((hd _ _).mp hi)
  · rw [hg _ _ e1, hg _ _ e2]
    exact r7 i ((hd 2 i).mp hi)
  · rw [hS _ _ (c t ht)]
    exact r8 t ht
  · rw [hg _ _ e3.symm]
    exact r11 r hr
  · unfold RC
    rw [hS _ _ d1]
    exact r12
  · rw [hg _ _ e4, hg _ _ e5, hS _ _ d2]
    exact r13 i ((hd 0 i).mp hi)
  · rw [hS _ _ d3, hg _ _ e6, hg _ _ e7, gI_n, hg _ _ e8]
    exact r14 r ((hd 1 r).mp hr)
  · have h9 := fb_cg (M := M) (M' := rI M j x v) (q := nI q) rfl (fun i => hg _ _ e1) (fun i => hg _ _ e10) (fun i => hg _ _ e9)
    rw [hS _ _ d4, hS _ _ d5, h9.1, h9.2]
    exact r15 q ((hd 9 q).mp hq)
  · rw [hS _ _ d6, hS _ _ d7, hS _ _ d8, hg _ _ e9, hg _ _ e11, hg _ _ e12, hg _ _ e13]
    exact r16 i ((hd 2 i).mp hi)
theorem RR.pJ {X : CX} {S : CT} {M : MS} {f j : Nat} {x : Int32} {v : Int64} (h : RR X S M) (hs : safeJ f j = true) : RR X (sj S f x v) (rJ M j x v) := by
  obtain ⟨a, b, ⟨d1, d2, d3, d4, d5⟩, ⟨e1, e2⟩⟩ := safeJ_ok hs
  have hd : ∀ c i, dm (rJ M j x v) c i ↔ dm M c i := fun c i => dm_rJ
  have hg : ∀ r i, r ≠ j → gl (rJ M j x v) r i = gl M r i := fun r i z => gl_rJn z
  have hS : ∀ r i, r ≠ f → (sj S f x v).2 r i = S.2 r i := fun r i z => s2_sn z
  obtain ⟨⟨r1, r2⟩, ⟨r3, r4, r5, r6, r7⟩, ⟨r8, r9⟩, ⟨r10, r11⟩, ⟨r12, r13⟩, r14, r15, r16, r17⟩ := h
  refine ⟨⟨fun t ht i hi => r1 t ht i ((hd _ _).mp hi), fun t ht i hi => ?_⟩, ⟨fun t ht i hi => r3 t ht i ((hd _ _).mp hi), fun t ht i hi => ?_, fun i hi => r5 i ((hd 0 i).mp hi), r6, fun i hi => r7 i ((hd 2 i).mp hi)⟩, ⟨r8, ?_⟩, ⟨r10, r11⟩, ⟨r12, fun i hi => r13 i ((hd 0 i).mp hi)⟩, fun r hr => r14 r ((hd 1 r).mp hr), fun q hq => ?_, fun i hi => ?_, fun q u hq hu z hz => ?_⟩
  · rw [s2_sj, gl_rJ]
    have h9 := r2 t ht i ((hd _ _).mp hi)
    by_cases z : t.1 = f ∧ i = x.toNatClampNeg
    · rw [if_pos z, if_pos ⟨(a t ht).mp z.1, z.2⟩]
    · rw [if_neg z, if_neg (fun y => z ⟨(a t ht).mpr y.1, y.2⟩)]
      exact h9
  · rw [hg _ _ (b t ht)]
    exact r4 t ht i ((hd _ _).mp hi)
  · rw [hS _ _ d1]
    exact r9
  · have h9 := fb_cg (M := M) (M' := rJ M j x v) (q := nI q) rfl (fun i => rfl) (fun i => rfl) (fun i => rfl)
    rw [h9.1, h9.2]
    exact r15 q ((hd 9 q).mp hq)
  · rw [hS _ _ d2, hg _ _ e1]
    exact r16 i ((hd 2 i).mp hi)
  · rw [hS _ _ (by omega), hg _ _ e2]
    exact r17 q u hq hu z hz
def safe0 (f j : Nat) : Bool := T0.contains (f, j)
theorem RR.p0 {X : CX} {S : CT} {M : MS} {f j : Nat} {v : Int32} (h : RR X S M) (hs : safe0 f j = true) : RR X (si S f 0 v) (sI M j v) := by
  have h9 : (f, j) ∈ T0 := List.contains_iff_mem.mp hs
  have hk : (∀ t ∈ T0, (t.1 = f ↔ t.2 = j)) ∧ (∀ t ∈ TI, t.1 ≠ f) ∧ (362 ≠ f ∧ 196 ≠ f ∧ 262 ≠ f ∧ 132 ≠ f ∧ 133 ≠ f ∧ 104 ≠ f ∧ 109 ≠ f ∧ 110 ≠ f) ∧ (j ≠ 3 ∧ j ≠ 14 ∧ j ≠ 39 ∧ j ≠ 57 ∧ j ≠ 59) ∧ 10 ≠ j := by
    simp only [T0, List.mem_cons, Prod.mk.injEq, List.not_mem_nil, or_false] at h9
    rcases h9 with ⟨rfl, rfl⟩ | ⟨rfl, rfl⟩ | ⟨rfl, rfl⟩ | ⟨rfl, rfl⟩ | ⟨rfl, rfl⟩ | ⟨rfl, rfl⟩ <;> exact ⟨by decide, by decide, by decide, by decide, by decide⟩
  obtain ⟨a, b, ⟨d1, d2, d3, d4, d5, d6, d7, d8⟩, e, e10⟩ := hk
  have hd : ∀ c i, dm (sI M j v) c i ↔ dm M c i := fun c i => dm_sI e
  have hS : ∀ r i, r ≠ f → (si S f 0 v).1 r i = S.1 r i := fun r i z => s1_sn z
  have hm : ∀ r, r ≠ j → mI (sI M j v) r = mI M r := fun r z => if_neg z
  obtain ⟨⟨r1, r2⟩, ⟨r3, r4, r5, r6, r7⟩, ⟨r8, r9⟩, ⟨⟨y1, y2, y3, y4, y5⟩, r11⟩, ⟨r12, r13⟩, r14, r15, r16, r17⟩ := h
  refine ⟨⟨fun t ht i hi => ?_, fun t ht i hi => r2 t ht i ((hd _ _).mp hi)⟩, ⟨fun t ht i hi => r3 t ht i ((hd _ _).mp hi), fun t ht i hi => r4 t ht i ((hd _ _).mp hi), fun i hi => r5 i ((hd 0 i).mp hi), r6, fun i hi => r7 i ((hd 2 i).mp hi)⟩, ⟨fun t ht => ?_, r9⟩, ⟨⟨?_, ?_, ?_, ?_, ?_⟩, r11⟩, ⟨?_, fun i hi => ?_⟩, fun r hr => ?_, fun q hq => ?_, fun i hi => ?_, r17⟩
  · rw [hS _ _ (b t ht)]
    exact r1 t ht i ((hd _ _).mp hi)
  · by_cases z : t.1 = f
    · rw [z, (a t ht).mp z, s1_si, if_pos ⟨rfl, by decide⟩]
      exact (if_pos rfl).symm
    · rw [hS _ _ z, hm _ (fun y => z ((a t ht).mpr y))]
      exact r8 t ht
  · rw [hm _ (by omega)]; exact y1
  · rw [hm _ (by omega)]; exact y2
  · rw [hm _ (by omega)]; exact y3
  · rw [hm _ (by omega)]; exact y4
  · rw [hm _ (by omega)]; exact y5
  · unfold RC
    rw [hS _ _ d1, hm _ (by omega), hm _ e10]
    exact r12
  · rw [hS _ _ d2]
    exact r13 i ((hd 0 i).mp hi)
  · rw [hS _ _ d3]
    exact r14 r ((hd 1 r).mp hr)
  · have h9 := fb_cg (M := M) (M' := sI M j v) (q := nI q) (hm _ (by omega)) (fun i => rfl) (fun i => rfl) (fun i => rfl)
    rw [hS _ _ d4, hS _ _ d5, h9.1, h9.2]
    exact r15 q ((hd 9 q).mp hq)
  · rw [hS _ _ d6, hS _ _ d7, hS _ _ d8]
    exact r16 i ((hd 2 i).mp hi)
theorem RR.thr {X : CX} {S : CT} {M : MS} {v : Int32} (h : RR X S M) : RR X S (sI M 0 v) := by
  have hd : ∀ c i, dm (sI M 0 v) c i ↔ dm M c i := fun c i => dm_sI (by decide)
  have hm : ∀ r, r ≠ 0 → mI (sI M 0 v) r = mI M r := fun r z => if_neg z
  obtain ⟨⟨r1, r2⟩, ⟨r3, r4, r5, r6, r7⟩, ⟨r8, r9⟩, ⟨⟨y1, y2, y3, y4, y5⟩, r11⟩, ⟨r12, r13⟩, r14, r15, r16, r17⟩ := h
  refine ⟨⟨fun t ht i hi => r1 t ht i ((hd _ _).mp hi), fun t ht i hi => r2 t ht i ((hd _ _).mp hi)⟩, ⟨fun t ht i hi => r3 t ht i ((hd _ _).mp hi), fun t ht i hi => r4 t ht i ((hd _ _).mp hi), fun i hi => r5 i ((hd 0 i).mp hi), r6, fun i hi => r7 i ((hd 2 i).mp hi)⟩, ⟨fun t ht => ?_, r9⟩, ⟨⟨y1, y2, y3, y4, y5⟩, r11⟩, ⟨r12, fun i hi => r13 i ((hd 0 i).mp hi)⟩, fun r hr => r14 r ((hd 1 r).mp hr), fun q hq => ?_, fun i hi => r16 i ((hd 2 i).mp hi), r17⟩
  · rw [hm _ (by
      have : ∀ t ∈ T0, t.2 ≠ 0 := by decide
      exact this t ht)]
    exact r8 t ht
  · have h9 := fb_cg (M := M) (M' := sI M 0 v) (q := nI q) rfl (fun i => rfl) (fun i => rfl) (fun i => rfl)
    rw [h9.1, h9.2]
    exact r15 q ((hd 9 q).mp hq)
theorem RR.card {X : CX} {S : CT} {M : MS} {v : Int64} (h : RR X S M) : RR X (sj S 367 0 v) (sJ M 63 v) := by
  have hd : ∀ c i, dm (sJ M 63 v) c i ↔ dm M c i := fun c i => dm_sJ
  have hS : ∀ r i, r ≠ 367 → (sj S 367 0 v).2 r i = S.2 r i := fun r i z => s2_sn z
  obtain ⟨⟨r1, r2⟩, ⟨r3, r4, r5, r6, r7⟩, ⟨r8, r9⟩, ⟨r10, r11⟩, ⟨r12, r13⟩, r14, r15, r16, r17⟩ := h
  refine ⟨⟨fun t ht i hi => r1 t ht i ((hd _ _).mp hi), fun t ht i hi => ?_⟩, ⟨fun t ht i hi => r3 t ht i ((hd _ _).mp hi), fun t ht i hi => r4 t ht i ((hd _ _).mp hi), fun i hi => r5 i ((hd 0 i).mp hi), r6, fun i hi => r7 i ((hd 2 i).mp hi)⟩, ⟨r8, ?_⟩, ⟨r10, r11⟩, ⟨r12, fun i hi => r13 i ((hd 0 i).mp hi)⟩, fun r hr => r14 r ((hd 1 r).mp hr), fun q hq => ?_, fun i hi => ?_, fun q u hq hu z hz => ?_⟩
  · rw [hS _ _ (by
      have : ∀ t ∈ TJ, t.1 ≠ 367 := by decide
      exact this t ht)]
    exact r2 t ht i ((hd _ _).mp hi)
  · rw [s2_sj, if_pos ⟨rfl, by decide⟩]
    exact mJ_sJs.symm
  · have h9 := fb_cg (M := M) (M' := sJ M 63 v) (q := nI q) rfl (fun i => rfl) (fun i => rfl) (fun i => rfl)
    rw [h9.1, h9.2]
    exact r15 q ((hd 9 q).mp hq)
  · rw [hS _ _ (by decide)]
    exact r16 i ((hd 2 i).mp hi)
  · rw [hS _ _ (by omega)]
    exact r17 q u hq hu z hz
