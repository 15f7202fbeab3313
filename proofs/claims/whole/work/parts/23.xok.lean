/-- the class's objects, as they always are -/
def XOK (X : CX) : Prop := HX X ∧ (lv X 11 0 ∧ lv X 40 0 ∧ lv X 41 0) ∧ (∀ Li, 20 ≤ Li → Li < 28 → LW X Li 0) ∧ ((∀ x, lI X 1 x → LW X 28 x.toNatClampNeg) ∧ (∀ x, lI X 8 x → LW X 29 x.toNatClampNeg)) ∧ (∀ Li n q, LW X Li n → q < xSz X Li n → eI Li n q < 2 ^ 30 ∧ lv X (eK Li) (eI Li n q)) ∧ (∀ x, lI X 8 x → lI X 6 (xi X 256 x) ∧ lI X 1 (xi X 257 x)) ∧ (∀ x, lI X 3 x → lI X 8 (xi X 96 x) ∧ lI X 4 (xi X 97 x) ∧ lI X 9 (xi X 98 x)) ∧ (∀ x, lI X 2 x → lI X 6 (xi X 64 x)) ∧ (∀ x, lI X 6 x → oI X 6 (xi X 193 x))
/-- the places of objects in the class's numbers -/
def TS (X : CX) (S : CT) : Prop := oI X 6 (ci S 362 0) ∧ (∀ x, lI X 6 x → oI X 6 (ci S 196 x)) ∧ (∀ x, lI X 9 x → lI X 5 (ci S 289 x)) ∧ (∀ x, lI X 8 x → oI X 6 (ci S 262 x) ∧ oI X 6 (ci S 263 x) ∧ oI X 9 (ci S 264 x))
theorem TS.ctl {X : CX} {S : CT} (h : TS X S) : oI X 6 (ci S 362 0) := h.1
theorem TS.sub {X : CX} {S : CT} (h : TS X S) {x : Int32} (hx : lI X 6 x) : oI X 6 (ci S 196 x) := h.2.1 x hx
theorem TS.mon {X : CX} {S : CT} (h : TS X S) {x : Int32} (hx : lI X 9 x) : lI X 5 (ci S 289 x) := h.2.2.1 x hx
theorem TS.turn {X : CX} {S : CT} (h : TS X S) {x : Int32} (hx : lI X 8 x) : oI X 6 (ci S 262 x) := (h.2.2.2 x hx).1
theorem TS.ext {X : CX} {S : CT} (h : TS X S) {x : Int32} (hx : lI X 8 x) : oI X 6 (ci S 263 x) := (h.2.2.2 x hx).2.1
theorem TS.sup {X : CX} {S : CT} (h : TS X S) {x : Int32} (hx : lI X 8 x) : oI X 9 (ci S 264 x) := (h.2.2.2 x hx).2.2
theorem XOK.l11 {X : CX} (h : XOK X) : lI X 11 0 := ⟨0, by decide, rfl, h.2.1.1⟩
theorem XOK.l40 {X : CX} (h : XOK X) : lv X 40 0 := h.2.1.2.1
theorem XOK.l41 {X : CX} (h : XOK X) : lv X 41 0 := h.2.1.2.2
theorem XOK.lw28 {X : CX} (h : XOK X) {x : Int32} (hx : lI X 1 x) : LW X 28 x.toNatClampNeg := h.2.2.2.1.1 x hx
theorem XOK.lw29 {X : CX} (h : XOK X) {x : Int32} (hx : lI X 8 x) : LW X 29 x.toNatClampNeg := h.2.2.2.1.2 x hx
theorem XOK.asker {X : CX} (h : XOK X) {x : Int32} (hx : lI X 8 x) : lI X 6 (xi X 256 x) := (h.2.2.2.2.2.1 x hx).1
theorem XOK.cent {X : CX} (h : XOK X) {x : Int32} (hx : lI X 8 x) : lI X 1 (xi X 257 x) := (h.2.2.2.2.2.1 x hx).2
theorem XOK.ivR {X : CX} (h : XOK X) {x : Int32} (hx : lI X 3 x) : lI X 8 (xi X 96 x) := (h.2.2.2.2.2.2.1 x hx).1
theorem XOK.ivL {X : CX} (h : XOK X) {x : Int32} (hx : lI X 3 x) : lI X 4 (xi X 97 x) := (h.2.2.2.2.2.2.1 x hx).2.1
theorem XOK.ivS {X : CX} (h : XOK X) {x : Int32} (hx : lI X 3 x) : lI X 9 (xi X 98 x) := (h.2.2.2.2.2.2.1 x hx).2.2
theorem XOK.enH {X : CX} (h : XOK X) {x : Int32} (hx : lI X 2 x) : lI X 6 (xi X 64 x) := h.2.2.2.2.2.2.2.1 x hx
theorem XOK.boss {X : CX} (h : XOK X) {x : Int32} (hx : lI X 6 x) : oI X 6 (xi X 193 x) := h.2.2.2.2.2.2.2.2 x hx
theorem XOK.ei {X : CX} (_h : XOK X) {Li a b : Nat} (hL : Li < 28) : eI Li a b = b := if_pos hL
theorem XOK.el {X : CX} (h : XOK X) {Li : Nat} {y : Int32} (h1 : 20 ≤ Li) (h2 : Li < 28) (hp : P_num y (nS X Li 0)) : lI X (eK Li) y := by
  have hL := h.2.2.1 Li h1 h2
  obtain ⟨j, hj, e⟩ := P_num_nI hp (by have := hL.2.2.1; have := hL.2.2.2.1; show xSz X Li 0 < _; omega)
  have h9 := h.2.2.2.2.1 Li 0 j hL hj
  rw [show eI Li 0 j = j from if_pos h2] at h9
  exact ⟨j, h9.1, e, h9.2⟩
theorem XOK.lw20 {X : CX} (h : XOK X) : LW X 20 (0 : Int32).toNatClampNeg := h.2.2.1 20 (by decide) (by decide)
theorem XOK.el20 {X : CX} (h : XOK X) {y : Int32} (hp : P_num y (nS X 20 0)) : lI X 6 y := h.el (Li := 20) (by decide) (by decide) hp
theorem XOK.lw21 {X : CX} (h : XOK X) : LW X 21 (0 : Int32).toNatClampNeg := h.2.2.1 21 (by decide) (by decide)
theorem XOK.el21 {X : CX} (h : XOK X) {y : Int32} (hp : P_num y (nS X 21 0)) : lI X 1 y := h.el (Li := 21) (by decide) (by decide) hp
theorem XOK.lw22 {X : CX} (h : XOK X) : LW X 22 (0 : Int32).toNatClampNeg := h.2.2.1 22 (by decide) (by decide)
theorem XOK.el22 {X : CX} (h : XOK X) {y : Int32} (hp : P_num y (nS X 22 0)) : lI X 5 y := h.el (Li := 22) (by decide) (by decide) hp
theorem XOK.lw23 {X : CX} (h : XOK X) : LW X 23 (0 : Int32).toNatClampNeg := h.2.2.1 23 (by decide) (by decide)
theorem XOK.el23 {X : CX} (h : XOK X) {y : Int32} (hp : P_num y (nS X 23 0)) : lI X 9 y := h.el (Li := 23) (by decide) (by decide) hp
theorem XOK.lw24 {X : CX} (h : XOK X) : LW X 24 (0 : Int32).toNatClampNeg := h.2.2.1 24 (by decide) (by decide)
theorem XOK.el24 {X : CX} (h : XOK X) {y : Int32} (hp : P_num y (nS X 24 0)) : lI X 8 y := h.el (Li := 24) (by decide) (by decide) hp
theorem XOK.lw25 {X : CX} (h : XOK X) : LW X 25 (0 : Int32).toNatClampNeg := h.2.2.1 25 (by decide) (by decide)
theorem XOK.el25 {X : CX} (h : XOK X) {y : Int32} (hp : P_num y (nS X 25 0)) : lI X 3 y := h.el (Li := 25) (by decide) (by decide) hp
theorem XOK.lw26 {X : CX} (h : XOK X) : LW X 26 (0 : Int32).toNatClampNeg := h.2.2.1 26 (by decide) (by decide)
theorem XOK.el26 {X : CX} (h : XOK X) {y : Int32} (hp : P_num y (nS X 26 0)) : lI X 10 y := h.el (Li := 26) (by decide) (by decide) hp
theorem XOK.lw27 {X : CX} (h : XOK X) : LW X 27 (0 : Int32).toNatClampNeg := h.2.2.1 27 (by decide) (by decide)
theorem XOK.el27 {X : CX} (h : XOK X) {y : Int32} (hp : P_num y (nS X 27 0)) : lI X 2 y := h.el (Li := 27) (by decide) (by decide) hp
theorem XOK.ex28 {X : CX} (h : XOK X) {x y : Int32} (hx : lI X 1 x) (hp : P_num y (nS X 28 x)) : ∃ n j : Nat, x = nI n ∧ y = nI j ∧ n < 2 ^ 30 ∧ j < 2 ^ 30 ∧ 3 * x + y = nI (3 * n + j) ∧ 3 * n + j < 2 ^ 30 ∧ lv X 7 (3 * n + j) := by
  have hL := h.lw28 hx
  obtain ⟨j, hj, e⟩ := P_num_nI hp (by have := hL.2.2.1; have := hL.2.2.2.1; omega)
  have h9 := h.2.2.2.2.1 28 x.toNatClampNeg j hL hj
  obtain ⟨n, hn, rfl, -⟩ := hx
  rw [nI_clamp (by omega)] at h9
  rw [show eI 28 n j = 3 * n + j from rfl] at h9
  refine ⟨n, j, rfl, e, hn, by omega, ?_, h9.1, h9.2⟩
  rw [e, show (3 : Int32) = nI 3 from rfl, pk_mul, nI_add]
theorem XOK.el28 {X : CX} (h : XOK X) {x y : Int32} (hx : lI X 1 x) (hp : P_num y (nS X 28 x)) : lI X 7 (3 * x + y) := by
  obtain ⟨n, j, -, -, -, -, e, h1, h2⟩ := h.ex28 hx hp
  exact ⟨_, h1, e, h2⟩
theorem XOK.ei28 {X : CX} (h : XOK X) {x y : Int32} (hx : lI X 1 x) (hp : P_num y (nS X 28 x)) : eI 28 x.toNatClampNeg y.toNatClampNeg = (3 * x + y).toNatClampNeg := by
  obtain ⟨n, j, e1, e2, hn, hj, e, h1, h2⟩ := h.ex28 hx hp
  rw [e, e1, e2, nI_clamp (by omega), nI_clamp (by omega), nI_clamp (by omega)]
  rfl
theorem XOK.ex29 {X : CX} (h : XOK X) {x y : Int32} (hx : lI X 8 x) (hp : P_num y (nS X 29 x)) : ∃ n j : Nat, x = nI n ∧ y = nI j ∧ n < 2 ^ 30 ∧ j < 2 ^ 30 ∧ 4 * x + y = nI (4 * n + j) ∧ 4 * n + j < 2 ^ 30 ∧ lv X 4 (4 * n + j) := by
  have hL := h.lw29 hx
  obtain ⟨j, hj, e⟩ := P_num_nI hp (by have := hL.2.2.1; have := hL.2.2.2.1; omega)
  have h9 := h.2.2.2.2.1 29 x.toNatClampNeg j hL hj
  obtain ⟨n, hn, rfl, -⟩ := hx
  rw [nI_clamp (by omega)] at h9
  rw [show eI 29 n j = 4 * n + j from rfl] at h9
  refine ⟨n, j, rfl, e, hn, by omega, ?_, h9.1, h9.2⟩
  rw [e, show (4 : Int32) = nI 4 from rfl, pk_mul, nI_add]
theorem XOK.el29 {X : CX} (h : XOK X) {x y : Int32} (hx : lI X 8 x) (hp : P_num y (nS X 29 x)) : lI X 4 (4 * x + y) := by
  obtain ⟨n, j, -, -, -, -, e, h1, h2⟩ := h.ex29 hx hp
  exact ⟨_, h1, e, h2⟩
theorem XOK.ei29 {X : CX} (h : XOK X) {x y : Int32} (hx : lI X 8 x) (hp : P_num y (nS X 29 x)) : eI 29 x.toNatClampNeg y.toNatClampNeg = (4 * x + y).toNatClampNeg := by
  obtain ⟨n, j, e1, e2, hn, hj, e, h1, h2⟩ := h.ex29 hx hp
  rw [e, e1, e2, nI_clamp (by omega), nI_clamp (by omega), nI_clamp (by omega)]
  rfl
theorem lp_c2_vr {X : CX} {kd : Nat} {x : Int32} : lp_c2 (some (vr X kd x)) = false := by
  rcases vr_r (X := X) (kd := kd) (x := x) with e | ⟨a, e⟩ <;> rw [e] <;> rfl
theorem vr_cat {X : CX} {kd : Nat} {x : Int32} : (vr X kd x).category = 1 := by
  rcases vr_r (X := X) (kd := kd) (x := x) with e | ⟨a, e⟩ <;> rw [e] <;> rfl
theorem lg_sl_vr {X : CX} {kd : Nat} {x : Int32} {t : List Value} : (lg_sl (vr X kd x :: t)).length = (lg_sl t).length + 1 := by simp [lg_sl, vr_cat]
theorem lg_sl_i {x : Int32} {t : List Value} : (lg_sl (.int x :: t)).length = (lg_sl t).length + 1 := by simp [lg_sl, Value.category]
theorem lg_sl_l {x : Int64} {t : List Value} : (lg_sl (.long x :: t)).length = (lg_sl t).length + 2 := by simp [lg_sl, Value.category]
theorem lg_sl_0 : (lg_sl []).length = 0 := rfl
theorem lp_args_vr {X : CX} {kd : Nat} {x : Int32} {t : List Value} : lp_args (vr X kd x :: t) = some (vr X kd x) :: lp_args t := if_neg (by rw [vr_cat]; decide)
theorem lp_args_i {x : Int32} {t : List Value} : lp_args (.int x :: t) = some (.int x) :: lp_args t := if_neg (by decide : ¬ (1 = 2))
theorem lp_args_l {x : Int64} {t : List Value} : lp_args (.long x :: t) = some (.long x) :: none :: lp_args t := if_pos rfl
theorem lp_args_0 : lp_args [] = [] := rfl
/-- how a method ends that may throw -/
def pOi (k : KC) (X : CX) (S : CT) (r : (Int32 × CT) ⊕ String) : Out → Wd → Prop := fun o h' => match r with
  | .inl q => o = .inl (some (.int q.1)) ∧ h' = cW k X q.2
  | .inr E => o = .inr E ∧ h' = cW k X S
def pOl (k : KC) (X : CX) (S : CT) (r : (Int64 × CT) ⊕ String) : Out → Wd → Prop := fun o h' => match r with
  | .inl q => o = .inl (some (.long q.1)) ∧ h' = cW k X q.2
  | .inr E => o = .inr E ∧ h' = cW k X S
def pOv (k : KC) (X : CX) (S : CT) (r : CT ⊕ String) : Out → Wd → Prop := fun o h' => match r with
  | .inl q => o = .inl none ∧ h' = cW k X q
  | .inr E => o = .inr E ∧ h' = cW k X S
theorem sw_out0_3 {x : Int32} (h0 : ¬ x = 0) (h1 : ¬ x = 1) (h2 : ¬ x = 2) (h3 : ¬ x = 3) : x.toInt < 0 ∨ 3 < x.toInt := by
  rcases Int.lt_or_le x.toInt 0 with z | z
  · exact Or.inl z
  · rcases Int.lt_or_le 3 x.toInt with y | y
    · exact Or.inr y
    · exfalso
      obtain ⟨n, hn⟩ := Int.eq_ofNat_of_zero_le z
      have e : x = nI n := by
        rw [← Int32.toInt_inj, nI_toInt (by omega), hn]
      have h9 : n = 0 ∨ n = 1 ∨ n = 2 ∨ n = 3 := by omega
      rcases h9 with r | r | r | r
      · exact h0 (by rw [e, r]; rfl)
      · exact h1 (by rw [e, r]; rfl)
      · exact h2 (by rw [e, r]; rfl)
      · exact h3 (by rw [e, r]; rfl)
theorem sw_out0_5 {x : Int32} (h0 : ¬ x = 0) (h1 : ¬ x = 1) (h2 : ¬ x = 2) (h3 : ¬ x = 3) (h4 : ¬ x = 4) (h5 : ¬ x = 5) : x.toInt < 0 ∨ 5 < x.toInt := by
  rcases Int.lt_or_le x.toInt 0 with z | z
  · exact Or.inl z
  · rcases Int.lt_or_le 5 x.toInt with y | y
    · exact Or.inr y
    · exfalso
      obtain ⟨n, hn⟩ := Int.eq_ofNat_of_zero_le z
      have e : x = nI n := by
        rw [← Int32.toInt_inj, nI_toInt (by omega), hn]
      have h9 : n = 0 ∨ n = 1 ∨ n = 2 ∨ n = 3 ∨ n = 4 ∨ n = 5 := by omega
      rcases h9 with r | r | r | r | r | r
      · exact h0 (by rw [e, r]; rfl)
      · exact h1 (by rw [e, r]; rfl)
      · exact h2 (by rw [e, r]; rfl)
      · exact h3 (by rw [e, r]; rfl)
      · exact h4 (by rw [e, r]; rfl)
      · exact h5 (by rw [e, r]; rfl)
theorem sw_out0_4 {x : Int32} (h0 : ¬ x = 0) (h1 : ¬ x = 1) (h2 : ¬ x = 2) (h3 : ¬ x = 3) (h4 : ¬ x = 4) : x.toInt < 0 ∨ 4 < x.toInt := by
  rcases Int.lt_or_le x.toInt 0 with z | z
  · exact Or.inl z
  · rcases Int.lt_or_le 4 x.toInt with y | y
    · exact Or.inr y
    · exfalso
      obtain ⟨n, hn⟩ := Int.eq_ofNat_of_zero_le z
      have e : x = nI n := by
        rw [← Int32.toInt_inj, nI_toInt (by omega), hn]
      have h9 : n = 0 ∨ n = 1 ∨ n = 2 ∨ n = 3 ∨ n = 4 := by omega
      rcases h9 with r | r | r | r | r
      · exact h0 (by rw [e, r]; rfl)
      · exact h1 (by rw [e, r]; rfl)
      · exact h2 (by rw [e, r]; rfl)
      · exact h3 (by rw [e, r]; rfl)
      · exact h4 (by rw [e, r]; rfl)
theorem sw_out0_7 {x : Int32} (h0 : ¬ x = 0) (h1 : ¬ x = 1) (h2 : ¬ x = 2) (h3 : ¬ x = 3) (h4 : ¬ x = 4) (h5 : ¬ x = 5) (h6 : ¬ x = 6) (h7 : ¬ x = 7) : x.toInt < 0 ∨ 7 < x.toInt := by
  rcases Int.lt_or_le x.toInt 0 with z | z
  · exact Or.inl z
  · rcases Int.lt_or_le 7 x.toInt with y | y
    · exact Or.inr y
    · exfalso
      obtain ⟨n, hn⟩ := Int.eq_ofNat_of_zero_le z
      have e : x = nI n := by
        rw [← Int32.toInt_inj, nI_toInt (by omega), hn]
      have h9 : n = 0 ∨ n = 1 ∨ n = 2 ∨ n = 3 ∨ n = 4 ∨ n = 5 ∨ n = 6 ∨ n = 7 := by omega
      rcases h9 with r | r | r | r | r | r | r | r
      · exact h0 (by rw [e, r]; rfl)
      · exact h1 (by rw [e, r]; rfl)
      · exact h2 (by rw [e, r]; rfl)
      · exact h3 (by rw [e, r]; rfl)
      · exact h4 (by rw [e, r]; rfl)
      · exact h5 (by rw [e, r]; rfl)
      · exact h6 (by rw [e, r]; rfl)
      · exact h7 (by rw [e, r]; rfl)
