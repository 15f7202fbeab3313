def xcIAS (E : String) : Int32 := if E = "java/lang/IndexOutOfBoundsException" then 1 else if E = "java/lang/IllegalArgumentException" then 2 else if E = "java/lang/IllegalStateException" then 3 else 0
theorem xIAS_I : xcIAS "java/lang/IndexOutOfBoundsException" = 1 := by decide
theorem xIAS_A : xcIAS "java/lang/IllegalArgumentException" = 2 := by decide
theorem xIAS_S : xcIAS "java/lang/IllegalStateException" = 3 := by decide
def xcIA (E : String) : Int32 := if E = "java/lang/IndexOutOfBoundsException" then 1 else if E = "java/lang/IllegalArgumentException" then 2 else 0
theorem xIA_I : xcIA "java/lang/IndexOutOfBoundsException" = 1 := by decide
theorem xIA_A : xcIA "java/lang/IllegalArgumentException" = 2 := by decide
def xcIS (E : String) : Int32 := if E = "java/lang/IndexOutOfBoundsException" then 1 else if E = "java/lang/IllegalStateException" then 2 else 0
theorem xIS_I : xcIS "java/lang/IndexOutOfBoundsException" = 1 := by decide
theorem xIS_S : xcIS "java/lang/IllegalStateException" = 2 := by decide
def xcI (E : String) : Int32 := if E = "java/lang/IndexOutOfBoundsException" then 1 else 0
theorem xI_I : xcI "java/lang/IndexOutOfBoundsException" = 1 := by decide
def xcA (E : String) : Int32 := if E = "java/lang/IllegalArgumentException" then 1 else 0
theorem xA_A : xcA "java/lang/IllegalArgumentException" = 1 := by decide
def xcAS (E : String) : Int32 := if E = "java/lang/IllegalArgumentException" then 1 else if E = "java/lang/IllegalStateException" then 2 else 0
theorem xAS_A : xcAS "java/lang/IllegalArgumentException" = 1 := by decide
theorem xAS_S : xcAS "java/lang/IllegalStateException" = 2 := by decide
def xcAI (E : String) : Int32 := if E = "java/lang/IllegalArgumentException" then 1 else if E = "java/lang/IndexOutOfBoundsException" then 2 else 0
theorem xAI_A : xcAI "java/lang/IllegalArgumentException" = 1 := by decide
theorem xAI_I : xcAI "java/lang/IndexOutOfBoundsException" = 2 := by decide
def EQi (X : CX) (S : CT) (ex : String → Int32) (r : (Int32 × CT) ⊕ String) (m : Int32 × MS) : Prop := match r with
  | .inl q => mI m.2 0 = 0 ∧ q.1 = m.1 ∧ RR X q.2 m.2
  | .inr E => mI m.2 0 = ex E ∧ RR X S m.2
def EQl (X : CX) (S : CT) (ex : String → Int32) (r : (Int64 × CT) ⊕ String) (m : Int64 × MS) : Prop := match r with
  | .inl q => mI m.2 0 = 0 ∧ q.1 = m.1 ∧ RR X q.2 m.2
  | .inr E => mI m.2 0 = ex E ∧ RR X S m.2
def EQv (X : CX) (S : CT) (ex : String → Int32) (r : CT ⊕ String) (m : MS) : Prop := match r with
  | .inl q => mI m 0 = 0 ∧ RR X q m
  | .inr E => mI m 0 = ex E ∧ RR X S m
theorem num_in {p : Int32} {n : Nat} (hn : n < 2 ^ 30) : P_num p (nI n) ↔ P_in p 0 (nI n - 1) := by
  constructor
  · intro h
    obtain ⟨j, hj, rfl⟩ := P_num_nI h hn
    refine ⟨nI_pos' (by omega), ?_⟩
    cases n with
    | zero => omega
    | succ n => rw [nI_pred]; exact nI_le (by omega) (by omega)
  · rintro ⟨h1, h2⟩
    cases n with
    | zero => exact absurd (Int32.le_trans h1 h2) (by rw [nI_0]; decide)
    | succ n =>
      rw [nI_pred] at h2
      obtain ⟨j, hj, rfl⟩ := nI_of2 (M := nI n) (n := n) (nI_toInt (by omega)) (Int32.not_lt.mpr h1) h2
      exact ⟨h1, nI_lt (by omega) (by omega)⟩
section RD
variable {X : CX} {S : CT} {M : MS}
theorem RR.i0 (h : RR X S M) {f j : Nat} (hs : safe0 f j = true) : ci S f 0 = mI M j := h.2.2.1.1 (f, j) (List.contains_iff_mem.mp hs)
theorem RR.j0 (h : RR X S M) : cj S 367 0 = mJ M 63 := h.2.2.1.2
theorem RR.rdI (h : RR X S M) {f j c : Nat} {x : Int32} (ht : TI.contains (f, j, c) = true) (hd : dm M c x.toNatClampNeg) : ci S f x = gI M j x := h.1.1 (f, j, c) (List.contains_iff_mem.mp ht) _ hd
theorem RR.rdJ (h : RR X S M) {f j c : Nat} {x : Int32} (ht : TJ.contains (f, j, c) = true) (hd : dm M c x.toNatClampNeg) : cj S f x = gJ M j x := h.1.2 (f, j, c) (List.contains_iff_mem.mp ht) _ hd
theorem RR.rdF (h : RR X S M) {f j c : Nat} {x : Int32} (ht : TF.contains (f, j, c) = true) (hd : dm M c x.toNatClampNeg) : xi X f x = gI M j x := h.2.1.1 (f, j, c) (List.contains_iff_mem.mp ht) _ hd
theorem RR.rdG (h : RR X S M) {f j c : Nat} {x : Int32} (ht : TG.contains (f, j, c) = true) (hd : dm M c x.toNatClampNeg) : xj X f x = gJ M j x := h.2.1.2.1 (f, j, c) (List.contains_iff_mem.mp ht) _ hd
theorem RR.z3 (h : RR X S M) : nS X 20 0 = mI M 3 := h.2.2.2.1.1.1.symm
theorem RR.z14 (h : RR X S M) : nS X 24 0 = mI M 14 := h.2.2.2.1.1.2.1.symm
theorem RR.z39 (h : RR X S M) : nS X 25 0 = mI M 39 := h.2.2.2.1.1.2.2.1.symm
theorem RR.z57 (h : RR X S M) : nS X 26 0 = mI M 57 := h.2.2.2.1.1.2.2.2.1.symm
theorem RR.z59 (h : RR X S M) : nS X 27 0 = mI M 59 := h.2.2.2.1.1.2.2.2.2.symm
theorem RR.c3 (h : RR X S M) (hL : LVX X) : cnt M 3 = xSz X 20 0 := by
  have hb := hL.2.2.1
  unfold cnt
  rw [← h.z3]
  exact nI_clamp (n := xSz X 20 0) (by omega)
theorem RR.n3 (h : RR X S M) (hL : LVX X) {p : Int32} : P_num p (nS X 20 0) ↔ P_in p 0 (mI M 3 - 1) := by
  have hb := hL.2.2.1
  rw [← h.z3]
  exact num_in (n := xSz X 20 0) (by omega)
theorem RR.d3 (h : RR X S M) (hL : LVX X) {p : Int32} (hp : P_in p 0 (mI M 3 - 1)) : p.toNatClampNeg < cnt M 3 := by
  have hb := hL.2.2.1
  obtain ⟨k, hk, rfl⟩ := P_num_nI (n := xSz X 20 0) ((h.n3 hL).mpr hp) (by omega)
  rw [h.c3 hL, nI_clamp (by omega)]
  exact hk
theorem RR.c14 (h : RR X S M) (hL : LVX X) : cnt M 14 = xSz X 24 0 := by
  have hb := hL.2.2.1
  unfold cnt
  rw [← h.z14]
  exact nI_clamp (n := xSz X 24 0) (by omega)
theorem RR.n14 (h : RR X S M) (hL : LVX X) {p : Int32} : P_num p (nS X 24 0) ↔ P_in p 0 (mI M 14 - 1) := by
  have hb := hL.2.2.1
  rw [← h.z14]
  exact num_in (n := xSz X 24 0) (by omega)
theorem RR.d14 (h : RR X S M) (hL : LVX X) {p : Int32} (hp : P_in p 0 (mI M 14 - 1)) : p.toNatClampNeg < cnt M 14 := by
  have hb := hL.2.2.1
  obtain ⟨k, hk, rfl⟩ := P_num_nI (n := xSz X 24 0) ((h.n14 hL).mpr hp) (by omega)
  rw [h.c14 hL, nI_clamp (by omega)]
  exact hk
theorem RR.c39 (h : RR X S M) (hL : LVX X) : cnt M 39 = xSz X 25 0 := by
  have hb := hL.2.2.1
  unfold cnt
  rw [← h.z39]
  exact nI_clamp (n := xSz X 25 0) (by omega)
theorem RR.n39 (h : RR X S M) (hL : LVX X) {p : Int32} : P_num p (nS X 25 0) ↔ P_in p 0 (mI M 39 - 1) := by
  have hb := hL.2.2.1
  rw [← h.z39]
  exact num_in (n := xSz X 25 0) (by omega)
theorem RR.d39 (h : RR X S M) (hL : LVX X) {p : Int32} (hp : P_in p 0 (mI M 39 - 1)) : p.toNatClampNeg < cnt M 39 := by
  have hb := hL.2.2.1
  obtain ⟨k, hk, rfl⟩ := P_num_nI (n := xSz X 25 0) ((h.n39 hL).mpr hp) (by omega)
  rw [h.c39 hL, nI_clamp (by omega)]
  exact hk
theorem RR.c57 (h : RR X S M) (hL : LVX X) : cnt M 57 = xSz X 26 0 := by
  have hb := hL.2.2.1
  unfold cnt
  rw [← h.z57]
  exact nI_clamp (n := xSz X 26 0) (by omega)
theorem RR.n57 (h : RR X S M) (hL : LVX X) {p : Int32} : P_num p (nS X 26 0) ↔ P_in p 0 (mI M 57 - 1) := by
  have hb := hL.2.2.1
  rw [← h.z57]
  exact num_in (n := xSz X 26 0) (by omega)
theorem RR.d57 (h : RR X S M) (hL : LVX X) {p : Int32} (hp : P_in p 0 (mI M 57 - 1)) : p.toNatClampNeg < cnt M 57 := by
  have hb := hL.2.2.1
  obtain ⟨k, hk, rfl⟩ := P_num_nI (n := xSz X 26 0) ((h.n57 hL).mpr hp) (by omega)
  rw [h.c57 hL, nI_clamp (by omega)]
  exact hk
theorem RR.c59 (h : RR X S M) (hL : LVX X) : cnt M 59 = xSz X 27 0 := by
  have hb := hL.2.2.1
  unfold cnt
  rw [← h.z59]
  exact nI_clamp (n := xSz X 27 0) (by omega)
theorem RR.n59 (h : RR X S M) (hL : LVX X) {p : Int32} : P_num p (nS X 27 0) ↔ P_in p 0 (mI M 59 - 1) := by
  have hb := hL.2.2.1
  rw [← h.z59]
  exact num_in (n := xSz X 27 0) (by omega)
theorem RR.d59 (h : RR X S M) (hL : LVX X) {p : Int32} (hp : P_in p 0 (mI M 59 - 1)) : p.toNatClampNeg < cnt M 59 := by
  have hb := hL.2.2.1
  obtain ⟨k, hk, rfl⟩ := P_num_nI (n := xSz X 27 0) ((h.n59 hL).mpr hp) (by omega)
  rw [h.c59 hL, nI_clamp (by omega)]
  exact hk
theorem RR.person (h : RR X S M) (hL : LVX X) {p : Int32} : P_num p (nS X 20 0) ↔ P_isPerson p M := h.n3 hL
theorem cent_of {p : Int32} (h : P_isCentre p) : ∃ q, q < 6 ∧ p = nI q := by
  obtain ⟨j, hj, e⟩ := nI_of2 (M := nI 5) (n := 5) (nI_toInt (by decide)) (Int32.not_lt.mpr h.1) h.2
  exact ⟨j, by omega, e⟩
theorem year_of {p : Int32} (h : P_isYear p) : ∃ q, q < 3 ∧ p = nI q := by
  obtain ⟨j, hj, e⟩ := nI_of2 (M := nI 2) (n := 2) (nI_toInt (by decide)) (Int32.not_lt.mpr h.1) h.2
  exact ⟨j, by omega, e⟩
theorem num_cent (hL : LVX X) {p : Int32} : P_num p (nS X 21 0) ↔ P_isCentre p := by
  have hb := hL.2.2.1
  have e : nS X 21 0 = nI 6 := congrArg nI hb.2.1
  rw [e]
  exact num_in (p := p) (n := 6) (by decide)
theorem num_year (hL : LVX X) {c p : Int32} (hc : P_isCentre c) : P_num p (nS X 28 c) ↔ P_isYear p := by
  obtain ⟨q, hq, rfl⟩ := cent_of hc
  have e : nS X 28 (nI q) = nI 3 := by
    unfold nS
    rw [nI_clamp (by omega), hL.2.2.2.1 q hq]
  rw [e]
  exact num_in (p := p) (n := 3) (by decide)
theorem num_purse (hL : LVX X) {c p : Int32} : (P_num c (nS X 21 0) ∧ P_num p (nS X 28 c)) ↔ P_isCentre c ∧ P_isYear p :=
  ⟨fun z => ⟨(num_cent hL).mp z.1, (num_year hL ((num_cent hL).mp z.1)).mp z.2⟩, fun z => ⟨(num_cent hL).mpr z.1, (num_year hL z.1).mpr z.2⟩⟩
theorem num_mon (hL : LVX X) {p : Int32} : P_num p (nS X 22 0) ↔ P_in p 0 2 := by
  have hb := hL.2.2.1
  have e : nS X 22 0 = nI 3 := congrArg nI hb.2.2.1
  rw [e]
  exact num_in (p := p) (n := 3) (by decide)
theorem num_sup (hL : LVX X) {p : Int32} : P_num p (nS X 23 0) ↔ P_in p 0 5 := by
  have hb := hL.2.2.1
  have e : nS X 23 0 = nI 6 := congrArg nI hb.2.2.2.1
  rw [e]
  exact num_in (p := p) (n := 6) (by decide)
theorem in_toNat {p : Int32} {n : Nat} (hn : n < 2 ^ 30) (h : P_in p 0 (nI n)) : p.toNatClampNeg ≤ n := by
  obtain ⟨j, hj, rfl⟩ := nI_of2 (M := nI n) (n := n) (nI_toInt (by omega)) (Int32.not_lt.mpr h.1) h.2
  rw [nI_clamp (by omega)]
  exact hj
theorem pur_ix {q u : Nat} : (3 : Int32) * nI q + nI u = nI (3 * q + u) := by rw [show (3 : Int32) = nI 3 from rfl, pk_mul, nI_add]
theorem at_ix {q u z : Nat} : f_at (nI q) (nI u) (nI z) = nI (9 * q + 3 * u + z) := by
  unfold f_at
  rw [show (9 : Int32) = nI 9 from rfl, show (3 : Int32) = nI 3 from rfl, pk_mul, pk_mul, nI_add, nI_add]
theorem RR.pur (h : RR X S M) {q u z : Nat} (hq : q < 6) (hu : u < 3) (hz : z < 3) : cj S (224 + z) (nI (3 * q + u)) = gJ M 11 (nI (9 * q + 3 * u + z)) := by
  rw [cj_n, gJ_n, nI_clamp (by omega), nI_clamp (by omega)]
  exact h.2.2.2.2.2.2.2.2 q u hq hu z hz
theorem RR.wpur (h : RR X S M) {q u z : Nat} {v : Int64} (hq : q < 6) (hu : u < 3) (hz : z < 3) : RR X (sj S (224 + z) (nI (3 * q + u)) v) (rJ M 11 (nI (9 * q + 3 * u + z)) v) := by
  have hg : ∀ r i, r ≠ 11 → gl (rJ M 11 (nI (9 * q + 3 * u + z)) v) r i = gl M r i := fun r i z => gl_rJn z
  have hS : ∀ r i, r ≠ 224 + z → (sj S (224 + z) (nI (3 * q + u)) v).2 r i = S.2 r i := fun r i z => s2_sn z
  have hd : ∀ c i, dm (rJ M 11 (nI (9 * q + 3 * u + z)) v) c i ↔ dm M c i := fun c i => dm_rJ
  obtain ⟨⟨r1, r2⟩, ⟨r3, r4, r5, r6, r7⟩, ⟨r8, r9⟩, ⟨r10, r11⟩, ⟨r12, r13⟩, r14, r15, r16, r17⟩ := h
  refine ⟨⟨fun t ht i hi => r1 t ht i ((hd _ _).mp hi), fun t ht i hi => ?_⟩, ⟨fun t ht i hi => r3 t ht i ((hd _ _).mp hi), fun t ht i hi => ?_, fun i hi => r5 i ((hd 0 i).mp hi), r6, fun i hi => r7 i ((hd 2 i).mp hi)⟩, ⟨r8, ?_⟩, ⟨r10, r11⟩, ⟨r12, fun i hi => r13 i ((hd 0 i).mp hi)⟩, fun r hr => r14 r ((hd 1 r).mp hr), fun q2 hq2 => ?_, fun i hi => ?_, fun q' u' hq' hu' z' hz' => ?_⟩
  · have h9 : ∀ t ∈ TJ, t.1 ≠ 224 ∧ t.1 ≠ 225 ∧ t.1 ≠ 226 ∧ t.2.1 ≠ 11 := by decide
    have h8 := h9 t ht
    rw [hS _ _ (by omega), hg _ _ h8.2.2.2]
    exact r2 t ht i ((hd _ _).mp hi)
  · have h9 : ∀ t ∈ TG, t.2.1 ≠ 11 := by decide
    rw [hg _ _ (h9 t ht)]
    exact r4 t ht i ((hd _ _).mp hi)
  · rw [hS _ _ (by omega)]
    exact r9
  · have h9 := fb_cg (M := M) (M' := rJ M 11 (nI (9 * q + 3 * u + z)) v) (q := nI q2) rfl (fun i => rfl) (fun i => rfl) (fun i => rfl)
    rw [h9.1, h9.2]
    exact r15 q2 ((hd 9 q2).mp hq2)
  · rw [hS _ _ (by omega), hg _ _ (by decide)]
    exact r16 i ((hd 2 i).mp hi)
  · rw [s2_sj, gl_rJ, nI_clamp (by omega), nI_clamp (by omega)]
    by_cases y : 224 + z' = 224 + z ∧ 3 * q' + u' = 3 * q + u
    · rw [if_pos y, if_pos ⟨rfl, by omega⟩]
    · rw [if_neg y, if_neg (fun y2 => y (by omega))]
      exact r17 q' u' hq' hu' z' hz'
end RD
