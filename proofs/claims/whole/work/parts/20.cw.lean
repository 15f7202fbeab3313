section CW
/-- the class's objects: addresses, their roles, the places of the roles, what else lies there; what never changes; lists' sizes, rooms and counters -/
abbrev CX : Type := List Nat × (Nat → Option (Nat × Nat)) × (Nat → Nat → Nat) × (Nat → va_E) × (Nat → Nat → Int32) × (Nat → Nat → Int64) × (Nat → Nat → Nat) × (Nat → Nat → Nat) × (Nat → Nat → Int32)
/-- the class's numbers: field and object -/
abbrev CT : Type := (Nat → Nat → Int32) × (Nat → Nat → Int64)
abbrev xAs (X : CX) : List Nat := X.1
abbrev xTg (X : CX) : Nat → Option (Nat × Nat) := X.2.1
abbrev xAd (X : CX) : Nat → Nat → Nat := X.2.2.1
abbrev xGb (X : CX) : Nat → va_E := X.2.2.2.1
abbrev xFi (X : CX) : Nat → Nat → Int32 := X.2.2.2.2.1
abbrev xFj (X : CX) : Nat → Nat → Int64 := X.2.2.2.2.2.1
abbrev xSz (X : CX) : Nat → Nat → Nat := X.2.2.2.2.2.2.1
abbrev xCp (X : CX) : Nat → Nat → Nat := X.2.2.2.2.2.2.2.1
abbrev xMc (X : CX) : Nat → Nat → Int32 := X.2.2.2.2.2.2.2.2
def ci (S : CT) (f : Nat) (x : Int32) : Int32 := S.1 f x.toNatClampNeg
def cj (S : CT) (f : Nat) (x : Int32) : Int64 := S.2 f x.toNatClampNeg
def si (S : CT) (f : Nat) (x v : Int32) : CT := (fun q => if q = f then upd (S.1 f) x.toNatClampNeg v else S.1 q, S.2)
def sj (S : CT) (f : Nat) (x : Int32) (v : Int64) : CT := (S.1, fun q => if q = f then vp_updL (S.2 f) x.toNatClampNeg v else S.2 q)
def xi (X : CX) (f : Nat) (x : Int32) : Int32 := xFi X f x.toNatClampNeg
def xj (X : CX) (f : Nat) (x : Int32) : Int64 := xFj X f x.toNatClampNeg
def nS (X : CX) (L : Nat) (x : Int32) : Int32 := nI (xSz X L x.toNatClampNeg)
def vr (X : CX) (kd : Nat) (x : Int32) : Value := if x = -1 then .null else .ref (xAd X kd x.toNatClampNeg)
abbrev aR (X : CX) (kd : Nat) (x : Int32) : Value := .ref (xAd X kd x.toNatClampNeg)
def ct (f : Nat) : Nat × Nat := match f with
  | 32 => (8, 28)
  | 33 => (2, 0)
  | 64 => (7, 6)
  | 65 => (4, 0)
  | 66 => (2, 0)
  | 96 => (7, 8)
  | 97 => (7, 4)
  | 98 => (7, 9)
  | 99 => (4, 0)
  | 100 => (4, 0)
  | 101 => (5, 0)
  | 102 => (0, 0)
  | 103 => (2, 0)
  | 104 => (2, 0)
  | 105 => (0, 0)
  | 106 => (1, 0)
  | 107 => (1, 0)
  | 108 => (1, 0)
  | 109 => (0, 0)
  | 110 => (0, 0)
  | 111 => (2, 0)
  | 112 => (1, 0)
  | 113 => (1, 0)
  | 128 => (6, 0)
  | 129 => (4, 0)
  | 130 => (0, 0)
  | 131 => (0, 0)
  | 132 => (0, 0)
  | 133 => (0, 0)
  | 160 => (0, 0)
  | 192 => (4, 0)
  | 193 => (7, 6)
  | 194 => (4, 0)
  | 195 => (0, 0)
  | 196 => (3, 6)
  | 197 => (1, 0)
  | 198 => (1, 0)
  | 224 => (1, 0)
  | 225 => (1, 0)
  | 226 => (1, 0)
  | 256 => (7, 6)
  | 257 => (7, 1)
  | 258 => (8, 29)
  | 259 => (0, 0)
  | 260 => (0, 0)
  | 261 => (1, 0)
  | 262 => (3, 6)
  | 263 => (3, 6)
  | 264 => (3, 9)
  | 265 => (1, 0)
  | 288 => (4, 0)
  | 289 => (3, 5)
  | 290 => (0, 0)
  | 291 => (0, 0)
  | 292 => (0, 0)
  | 293 => (0, 0)
  | 320 => (5, 0)
  | 352 => (8, 20)
  | 353 => (8, 21)
  | 354 => (8, 22)
  | 355 => (8, 23)
  | 356 => (8, 24)
  | 357 => (8, 25)
  | 358 => (8, 26)
  | 359 => (8, 27)
  | 360 => (8, 40)
  | 361 => (8, 41)
  | 362 => (3, 6)
  | 363 => (0, 0)
  | 364 => (0, 0)
  | 365 => (0, 0)
  | 366 => (0, 0)
  | 367 => (1, 0)
  | 368 => (0, 0)
  | 369 => (0, 0)
  | _ => (9, 0)
def nF (kd : Nat) : Nat := match kd with
  | 1 => 2
  | 2 => 3
  | 3 => 18
  | 4 => 6
  | 5 => 1
  | 6 => 7
  | 7 => 3
  | 8 => 10
  | 9 => 6
  | 10 => 1
  | 11 => 18
  | _ => 0
def eK (L : Nat) : Nat := match L with
  | 20 => 6
  | 21 => 1
  | 22 => 5
  | 23 => 9
  | 24 => 8
  | 25 => 3
  | 26 => 10
  | 27 => 2
  | 28 => 7
  | 29 => 4
  | _ => 0
def eI (L i q : Nat) : Nat := if L < 28 then q else if L = 28 then 3 * i + q else 4 * i + q
def cR (X : CX) (S : CT) (f i : Nat) : Value := match (ct f).1 with
  | 0 => .int (S.1 f i)
  | 1 => .long (S.2 f i)
  | 2 => .int (S.1 f i)
  | 3 => vr X (ct f).2 (S.1 f i)
  | 4 => .int (xFi X f i)
  | 5 => .long (xFj X f i)
  | 6 => .int (xFi X f i)
  | 7 => vr X (ct f).2 (xFi X f i)
  | _ => .ref (xAd X (ct f).2 i)
def cF (X : CX) (S : CT) (kd i : Nat) : List Value := (List.range (nF kd)).map fun j => cR X S (32 * kd + j) i
def cE (k : KC) (X : CX) (S : CT) (kd i : Nat) : va_E :=
  if kd < 20 then .inr (kd, cF X S kd i)
  else if kd < 30 then .inr (0, [.int (xMc X kd i), .ref (if xCp X kd i = 0 then k.2.2.2.2.2.1 else xAd X (kd + 10) i), .int (nI (xSz X kd i))])
  else if kd < 40 then .inl (k.2.2.2.2.1, xCp X (kd - 10) i, .inr (.inr (.inr (.inr (fun q => if q < xSz X (kd - 10) i then some (xAd X (eK (kd - 10)) (eI (kd - 10) i q)) else none)))))
  else if kd = 40 then .inl (k.2.1, 4, .inl (S.1 (1280 + i)))
  else if kd = 41 then .inl (k.2.2.1, 9, .inr (.inl (S.2 (1312 + i))))
  else .inr (0, [])
/-- the class's world -/
def cW (k : KC) (X : CX) (S : CT) : Wd := (xAs X, fun a => match xTg X a with | some r => cE k X S r.1 r.2 | none => xGb X a)
def HX (X : CX) : Prop := ∀ (a kd i : Nat), xTg X a = some (kd, i) → a = xAd X kd i ∧ a ∈ xAs X
def lv (X : CX) (kd n : Nat) : Prop := xTg X (xAd X kd n) = some (kd, n)
def lI (X : CX) (kd : Nat) (x : Int32) : Prop := ∃ n : Nat, n < 2 ^ 30 ∧ x = nI n ∧ lv X kd n
def oI (X : CX) (kd : Nat) (x : Int32) : Prop := x = -1 ∨ lI X kd x
theorem nI_neg {n : Nat} (h : n < 2 ^ 30) : ¬ nI n = -1 := fun e => by
  have h1 := congrArg Int32.toInt e
  rw [nI_toInt (by omega), show (-1 : Int32).toInt = -1 from by decide] at h1
  omega
theorem lI.neg {X : CX} {kd : Nat} {x : Int32} (h : lI X kd x) : ¬ x = -1 := by
  obtain ⟨n, hn, rfl, -⟩ := h
  exact nI_neg hn
theorem lI.lv {X : CX} {kd : Nat} {x : Int32} (h : lI X kd x) : lv X kd x.toNatClampNeg := by
  obtain ⟨n, hn, rfl, h⟩ := h
  rwa [nI_clamp (by omega)]
theorem lI.vr {X : CX} {kd : Nat} {x : Int32} (h : lI X kd x) : vr X kd x = .ref (xAd X kd x.toNatClampNeg) := if_neg h.neg
theorem lI.of {X : CX} {kd n : Nat} (hn : n < 2 ^ 30) (h : xTg X (xAd X kd n) = some (kd, n)) : lI X kd (nI n) := ⟨n, hn, rfl, h⟩
theorem oI.lI {X : CX} {kd : Nat} {x : Int32} (h : oI X kd x) (hx : ¬ x = -1) : lI X kd x := h.resolve_left hx
theorem vr_inj {X : CX} {kd : Nat} {x y : Int32} (hx : oI X kd x) (hy : oI X kd y) (h : vr X kd x = vr X kd y) : x = y := by
  rcases hx with hx | hx <;> rcases hy with hy | hy
  · rw [hx, hy]
  · rw [hy.vr, hx] at h; unfold vr at h; rw [if_pos rfl] at h; cases h
  · rw [hx.vr, hy] at h; unfold vr at h; rw [if_pos rfl] at h; cases h
  · rw [hx.vr, hy.vr] at h
    injection h with h
    obtain ⟨n, hn, rfl, h1⟩ := hx
    obtain ⟨m, hm, rfl, h2⟩ := hy
    rw [nI_clamp (by omega), nI_clamp (by omega)] at h
    unfold lv at h1 h2
    rw [h, h2] at h1
    injection h1 with h1
    injection h1 with _ h1
    rw [h1]
theorem vr_r {X : CX} {kd : Nat} {x : Int32} : vr X kd x = .null ∨ ∃ a, vr X kd x = .ref a := by
  unfold vr
  split
  · exact Or.inl rfl
  · exact Or.inr ⟨_, rfl⟩
theorem cW_in {k : KC} {X : CX} {S : CT} {kd n : Nat} (hX : HX X) (h : lv X kd n) : xAd X kd n ∈ (cW k X S).1 ∧ (cW k X S).2 (xAd X kd n) = cE k X S kd n := by
  refine ⟨(hX _ _ _ h).2, ?_⟩
  show (match xTg X (xAd X kd n) with | some r => cE k X S r.1 r.2 | none => xGb X _) = _
  unfold lv at h
  rw [h]
theorem cW_up {k : KC} {X : CX} {S S' : CT} {kd n : Nat} {e : va_E} (hX : HX X) (h : lv X kd n) (he : e = cE k X S' kd n) (ho : ∀ kd' n', ¬ (kd' = kd ∧ n' = n) → cE k X S' kd' n' = cE k X S kd' n') : ((cW k X S).1, va_up (cW k X S).2 (xAd X kd n) e) = cW k X S' := by
  refine Prod.ext rfl (funext fun a => ?_)
  show (if a = xAd X kd n then e else match xTg X a with | some r => cE k X S r.1 r.2 | none => xGb X a) = (match xTg X a with | some r => cE k X S' r.1 r.2 | none => xGb X a)
  by_cases ha : a = xAd X kd n
  · rw [if_pos ha, ha]
    unfold lv at h
    rw [h]
    exact he
  · rw [if_neg ha]
    cases ht : xTg X a with
    | none => rfl
    | some r =>
      refine (ho r.1 r.2 fun q => ha ?_).symm
      have h9 := (hX a r.1 r.2 ht).1
      rw [h9, q.1, q.2]
theorem upd_ne {f : Nat → Int32} {i j : Nat} {v : Int32} (h : ¬ j = i) : upd f i v j = f j := by simp [upd, h]
theorem upl_ne {f : Nat → Int64} {i j : Nat} {v : Int64} (h : ¬ j = i) : vp_updL f i v j = f j := by simp [vp_updL, h]
theorem si_ne {S : CT} {f : Nat} {x v : Int32} {g n : Nat} (h : ¬ (g = f ∧ n = x.toNatClampNeg)) : (si S f x v).1 g n = S.1 g n := by
  show (if g = f then upd (S.1 f) x.toNatClampNeg v else S.1 g) n = _
  by_cases e : g = f
  · rw [if_pos e, upd_ne (fun q => h ⟨e, q⟩), e]
  · rw [if_neg e]
theorem sj_ne {S : CT} {f : Nat} {x : Int32} {v : Int64} {g n : Nat} (h : ¬ (g = f ∧ n = x.toNatClampNeg)) : (sj S f x v).2 g n = S.2 g n := by
  show (if g = f then vp_updL (S.2 f) x.toNatClampNeg v else S.2 g) n = _
  by_cases e : g = f
  · rw [if_pos e, upl_ne (fun q => h ⟨e, q⟩), e]
  · rw [if_neg e]
theorem cR_si {X : CX} {S : CT} {f : Nat} {x v : Int32} {g n : Nat} (h : ¬ (g = f ∧ n = x.toNatClampNeg)) : cR X (si S f x v) g n = cR X S g n := by
  unfold cR
  rw [si_ne h]
  rfl
theorem cR_sj {X : CX} {S : CT} {f : Nat} {x : Int32} {v : Int64} {g n : Nat} (h : ¬ (g = f ∧ n = x.toNatClampNeg)) : cR X (sj S f x v) g n = cR X S g n := by
  unfold cR
  rw [sj_ne h]
  rfl
theorem nF_le (kd : Nat) : nF kd ≤ 18 := by unfold nF; split <;> decide
theorem cE_of {k : KC} {X : CX} {S S' : CT} {kd n : Nat} (h1 : kd < 20 → ∀ j, j < nF kd → cR X S' (32 * kd + j) n = cR X S (32 * kd + j) n) (h2 : kd = 40 → S'.1 (1280 + n) = S.1 (1280 + n)) (h3 : kd = 41 → S'.2 (1312 + n) = S.2 (1312 + n)) : cE k X S' kd n = cE k X S kd n := by
  unfold cE
  split
  · rename_i hk
    congr 2
    exact List.map_congr_left fun j hj => h1 hk j (List.mem_range.mp hj)
  · split
    · rfl
    · split
      · rfl
      · split
        · rename_i h9
          rw [h2 h9]
        · split
          · rename_i h9
            rw [h3 h9]
          · rfl
theorem si_row {S : CT} {f : Nat} {x v : Int32} {g : Nat} (h : ¬ g = f) : (si S f x v).1 g = S.1 g := if_neg h
theorem sj_row {S : CT} {f : Nat} {x : Int32} {v : Int64} {g : Nat} (h : ¬ g = f) : (sj S f x v).2 g = S.2 g := if_neg h
theorem cE_si {k : KC} {X : CX} {S : CT} {kd j n : Nat} {x v : Int32} (hk : kd < 20) (hj : j < 32) (hx : x.toNatClampNeg = n) (kd' n' : Nat) (h : ¬ (kd' = kd ∧ n' = n)) : cE k X (si S (32 * kd + j) x v) kd' n' = cE k X S kd' n' := by
  refine cE_of (fun h20 j' hj' => cR_si fun q => h ?_) (fun _ => si_row (by omega)) (fun _ => rfl)
  have := nF_le kd'
  exact ⟨by omega, by rw [q.2, hx]⟩
theorem cE_sj {k : KC} {X : CX} {S : CT} {kd j n : Nat} {x : Int32} {v : Int64} (hk : kd < 20) (hj : j < 32) (hx : x.toNatClampNeg = n) (kd' n' : Nat) (h : ¬ (kd' = kd ∧ n' = n)) : cE k X (sj S (32 * kd + j) x v) kd' n' = cE k X S kd' n' := by
  refine cE_of (fun h20 j' hj' => cR_sj fun q => h ?_) (fun _ => rfl) (fun e => sj_row (by omega))
  have := nF_le kd'
  exact ⟨by omega, by rw [q.2, hx]⟩
theorem cF_get {X : CX} {S : CT} {kd n j : Nat} (hj : j < nF kd) : (cF X S kd n)[j]? = some (cR X S (32 * kd + j) n) := by
  simp [cF, hj]
theorem cF_set {X : CX} {S S' : CT} {kd n j : Nat} {v : Value} (hv : cR X S' (32 * kd + j) n = v) (ho : ∀ j', ¬ j' = j → cR X S' (32 * kd + j') n = cR X S (32 * kd + j') n) : (cF X S kd n).set j v = cF X S' kd n := by
  refine List.ext_getElem (by simp [cF]) fun q h1 h2 => ?_
  rw [List.getElem_set]
  split
  · rename_i e
    subst e
    simp [cF, hv]
  · rename_i e
    simp [cF, ho q (fun h => e h.symm)]
theorem cW_pi {k : KC} {X : CX} {S : CT} {kd j : Nat} {x v : Int32} {vl : Value} (hX : HX X) (hk : kd < 20) (hj : j < 32) (h : lv X kd x.toNatClampNeg) (hv : cR X (si S (32 * kd + j) x v) (32 * kd + j) x.toNatClampNeg = vl) : ((cW k X S).1, va_up (cW k X S).2 (xAd X kd x.toNatClampNeg) (.inr (kd, (cF X S kd x.toNatClampNeg).set j vl))) = cW k X (si S (32 * kd + j) x v) :=
  cW_up hX h (by rw [cF_set hv (fun j' hj' => cR_si (by omega))]; unfold cE; rw [if_pos hk]) (fun kd' n' h9 => cE_si hk hj rfl kd' n' h9)
theorem cW_pj {k : KC} {X : CX} {S : CT} {kd j : Nat} {x : Int32} {v : Int64} {vl : Value} (hX : HX X) (hk : kd < 20) (hj : j < 32) (h : lv X kd x.toNatClampNeg) (hv : cR X (sj S (32 * kd + j) x v) (32 * kd + j) x.toNatClampNeg = vl) : ((cW k X S).1, va_up (cW k X S).2 (xAd X kd x.toNatClampNeg) (.inr (kd, (cF X S kd x.toNatClampNeg).set j vl))) = cW k X (sj S (32 * kd + j) x v) :=
  cW_up hX h (by rw [cF_set hv (fun j' hj' => cR_sj (by omega))]; unfold cE; rw [if_pos hk]) (fun kd' n' h9 => cE_sj hk hj rfl kd' n' h9)
theorem si_self {S : CT} {f : Nat} {x v : Int32} : (si S f x v).1 f = upd (S.1 f) x.toNatClampNeg v := if_pos rfl
theorem sj_self {S : CT} {f : Nat} {x : Int32} {v : Int64} : (sj S f x v).2 f = vp_updL (S.2 f) x.toNatClampNeg v := if_pos rfl
theorem cW_ai {k : KC} {X : CX} {S : CT} {i v : Int32} (hX : HX X) (h : lv X 40 0) : ((cW k X S).1, va_up (cW k X S).2 (xAd X 40 0) (.inl (k.2.1, 4, .inl (upd (S.1 1280) i.toNatClampNeg v)))) = cW k X (si S 1280 i v) :=
  cW_up hX h (by rw [← si_self]; rfl) (fun kd' n' h9 => by
    refine cE_of (fun h20 j' hj' => cR_si fun q => ?_) (fun e => si_row fun q => h9 ⟨e, by omega⟩) (fun _ => rfl)
    have := nF_le kd'
    omega)
theorem cW_aj {k : KC} {X : CX} {S : CT} {i : Int32} {v : Int64} (hX : HX X) (h : lv X 41 0) : ((cW k X S).1, va_up (cW k X S).2 (xAd X 41 0) (.inl (k.2.2.1, 9, .inr (.inl (vp_updL (S.2 1312) i.toNatClampNeg v))))) = cW k X (sj S 1312 i v) :=
  cW_up hX h (by rw [← sj_self]; rfl) (fun kd' n' h9 => by
    refine cE_of (fun h20 j' hj' => cR_sj fun q => ?_) (fun e => rfl) (fun e => sj_row fun q => h9 ⟨e, by omega⟩)
    have := nF_le kd'
    omega)
end CW
