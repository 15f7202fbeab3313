/-- a place gets a role -/
def adX (X : CX) (kd n a : Nat) : CX := (xAs X, va_up (xTg X) a (some (kd, n)), fun kd' i => if kd' = kd ∧ i = n then a else xAd X kd' i, xGb X, xFi X, xFj X, xSz X, xCp X, xMc X)
def gbX (X : CX) (a : Nat) (e : va_E) : CX := (xAs X, xTg X, xAd X, va_up (xGb X) a e, xFi X, xFj X, xSz X, xCp X, xMc X)
def nwX (X : CX) (q : Nat) (e : va_E) : CX := (xAs X ++ [q], xTg X, xAd X, va_up (xGb X) q e, xFi X, xFj X, xSz X, xCp X, xMc X)
def fiX (X : CX) (f n : Nat) (v : Int32) : CX := (xAs X, xTg X, xAd X, xGb X, (fun f' => if f' = f then upd (xFi X f) n v else xFi X f'), xFj X, xSz X, xCp X, xMc X)
def fjX (X : CX) (f n : Nat) (v : Int64) : CX := (xAs X, xTg X, xAd X, xGb X, xFi X, (fun f' => if f' = f then vp_updL (xFj X f) n v else xFj X f'), xSz X, xCp X, xMc X)
def lsX (X : CX) (Li n s cp : Nat) (mc : Int32) : CX := (xAs X, xTg X, xAd X, xGb X, xFi X, xFj X, (fun L i => if L = Li ∧ i = n then s else xSz X L i), (fun L i => if L = Li ∧ i = n then cp else xCp X L i), (fun L i => if L = Li ∧ i = n then mc else xMc X L i))
theorem cE_gb {k : KC} {X : CX} {S : CT} {a : Nat} {e : va_E} {kd i : Nat} : cE k (gbX X a e) S kd i = cE k X S kd i := rfl
theorem cE_nw {k : KC} {X : CX} {S : CT} {a : Nat} {e : va_E} {kd i : Nat} : cE k (nwX X a e) S kd i = cE k X S kd i := rfl
theorem cW_gb {k : KC} {X : CX} {S : CT} {a : Nat} {e : va_E} (h : xTg X a = none) : ((cW k X S).1, va_up (cW k X S).2 a e) = cW k (gbX X a e) S := by
  refine Prod.ext rfl (funext fun b => ?_)
  show (if b = a then e else match xTg X b with | some r => cE k X S r.1 r.2 | none => xGb X b) = match xTg X b with | some r => cE k (gbX X a e) S r.1 r.2 | none => va_up (xGb X) a e b
  by_cases hb : b = a
  · subst hb
    rw [if_pos rfl, h]
    exact (va_up_self _ _ _).symm
  · rw [if_neg hb]
    cases xTg X b with
    | none => exact (va_up_ne _ _ hb).symm
    | some r => rfl
theorem HX.tg {X : CX} (hX : HX X) {q : Nat} (hq : q ∉ xAs X) : xTg X q = none := by
  cases h : xTg X q with
  | none => rfl
  | some r => exact absurd (hX q r.1 r.2 h).2 hq
theorem cW_nw {k : KC} {X : CX} {S : CT} {q : Nat} {e : va_E} (hX : HX X) (hq : q ∉ xAs X) : ((cW k X S).1 ++ [q], va_up (cW k X S).2 q e) = cW k (nwX X q e) S := by
  refine Prod.ext rfl (funext fun b => ?_)
  show (if b = q then e else match xTg X b with | some r => cE k X S r.1 r.2 | none => xGb X b) = match xTg X b with | some r => cE k (nwX X q e) S r.1 r.2 | none => va_up (xGb X) q e b
  by_cases hb : b = q
  · subst hb
    rw [if_pos rfl, hX.tg hq]
    exact (va_up_self _ _ _).symm
  · rw [if_neg hb]
    cases xTg X b with
    | none => exact (va_up_ne _ _ hb).symm
    | some r => rfl
theorem HX.nw {X : CX} (hX : HX X) {q : Nat} {e : va_E} : HX (nwX X q e) := fun a kd i h => ⟨(hX a kd i h).1, List.mem_append_left _ (hX a kd i h).2⟩
theorem HX.gb {X : CX} (hX : HX X) {q : Nat} {e : va_E} : HX (gbX X q e) := hX
/-- a role that nothing has -/
def dead (X : CX) (kd n : Nat) : Prop := ∀ b, xTg X b = some (kd, n) → False
theorem dead.of {X : CX} (hX : HX X) {kd n : Nat} (h : ¬ lv X kd n) : dead X kd n := fun b hb => h (by
  unfold lv
  rw [← (hX b kd n hb).1]
  exact hb)
theorem dead.lv {X : CX} {kd n : Nat} (h : dead X kd n) : ¬ lv X kd n := fun q => h _ q
theorem HX.ad {X : CX} (hX : HX X) {kd n a : Nat} (ha : a ∈ xAs X) (hd : dead X kd n) : HX (adX X kd n a) := by
  intro b kd' i h
  show b = (if kd' = kd ∧ i = n then a else xAd X kd' i) ∧ b ∈ xAs X
  by_cases hb : b = a
  · subst hb
    have h1 : va_up (xTg X) b (some (kd, n)) b = some (kd', i) := h
    rw [va_up_self] at h1
    injection h1 with h1
    injection h1 with e1 e2
    rw [if_pos ⟨e1.symm, e2.symm⟩]
    exact ⟨rfl, ha⟩
  · have h1 : va_up (xTg X) a (some (kd, n)) b = some (kd', i) := h
    rw [va_up_ne _ _ hb] at h1
    rw [if_neg (fun q => hd b (by rw [h1, q.1, q.2]))]
    exact hX b kd' i h1
theorem lv_ad {X : CX} {kd n a kd' i : Nat} (ht : xTg X a = none) : lv (adX X kd n a) kd' i ↔ lv X kd' i ∨ (kd' = kd ∧ i = n) := by
  show va_up (xTg X) a (some (kd, n)) (if kd' = kd ∧ i = n then a else xAd X kd' i) = some (kd', i) ↔ _
  by_cases h : kd' = kd ∧ i = n
  · rw [if_pos h, va_up_self, h.1, h.2]
    exact ⟨fun _ => Or.inr ⟨rfl, rfl⟩, fun _ => rfl⟩
  · rw [if_neg h]
    unfold lv
    by_cases hb : xAd X kd' i = a
    · rw [hb, va_up_self, ht]
      refine ⟨fun e => ?_, fun e => ?_⟩
      · injection e with e
        injection e with e1 e2
        exact absurd ⟨e1.symm, e2.symm⟩ h
      · rcases e with e | e
        · cases e
        · exact absurd e h
    · rw [va_up_ne _ _ hb]
      exact ⟨Or.inl, fun e => e.resolve_right h⟩
theorem cW_ad {k : KC} {X : CX} {S : CT} {a kd n : Nat} (ht : xTg X a = none) (he : xGb X a = cE k (adX X kd n a) S kd n) (ho : ∀ b r, xTg X b = some r → cE k (adX X kd n a) S r.1 r.2 = cE k X S r.1 r.2) : cW k X S = cW k (adX X kd n a) S := by
  refine Prod.ext rfl (funext fun b => ?_)
  show (match xTg X b with | some r => cE k X S r.1 r.2 | none => xGb X b) = (match va_up (xTg X) a (some (kd, n)) b with | some r => cE k (adX X kd n a) S r.1 r.2 | none => xGb X b)
  by_cases hb : b = a
  · subst hb
    rw [va_up_self, ht]
    exact he
  · rw [va_up_ne _ _ hb]
    cases h9 : xTg X b with
    | none => rfl
    | some r => exact (ho b r h9).symm
/-- the same addresses and roles, other numbers where nobody lives -/
def SA (X X1 : CX) : Prop := xAs X1 = xAs X ∧ xTg X1 = xTg X ∧ xAd X1 = xAd X ∧ xGb X1 = xGb X
theorem cW_eq {k : KC} {X X1 : CX} {S S1 : CT} (h : SA X X1) (ho : ∀ b r, xTg X b = some r → cE k X1 S1 r.1 r.2 = cE k X S r.1 r.2) : cW k X1 S1 = cW k X S := by
  refine Prod.ext h.1 (funext fun b => ?_)
  show (match xTg X1 b with | some r => cE k X1 S1 r.1 r.2 | none => xGb X1 b) = (match xTg X b with | some r => cE k X S r.1 r.2 | none => xGb X b)
  rw [h.2.1, h.2.2.2]
  cases h9 : xTg X b with
  | none => rfl
  | some r => exact ho b r h9
theorem cR_ext {X X1 : CX} {S S1 : CT} {f i : Nat} (h1 : S1.1 f i = S.1 f i) (h2 : S1.2 f i = S.2 f i) (h3 : xFi X1 f i = xFi X f i) (h4 : xFj X1 f i = xFj X f i) (h5 : (ct f).1 = 3 → vr X1 (ct f).2 (S.1 f i) = vr X (ct f).2 (S.1 f i)) (h6 : (ct f).1 = 7 → vr X1 (ct f).2 (xFi X f i) = vr X (ct f).2 (xFi X f i)) (h7 : 8 ≤ (ct f).1 → xAd X1 (ct f).2 i = xAd X (ct f).2 i) : cR X1 S1 f i = cR X S f i := by
  unfold cR
  rw [h1, h2, h3, h4]
  split
  · rfl
  · rfl
  · rfl
  · rename_i q
    rw [h5 q]
  · rfl
  · rfl
  · rfl
  · rename_i q
    rw [h6 q]
  · rename_i q1 q2 q3 q4 q5 q6 q7 q8
    rw [h7 ?_]
    rcases Nat.lt_or_ge (ct f).1 8 with z | z
    · have h9 : (ct f).1 = 0 ∨ (ct f).1 = 1 ∨ (ct f).1 = 2 ∨ (ct f).1 = 3 ∨ (ct f).1 = 4 ∨ (ct f).1 = 5 ∨ (ct f).1 = 6 ∨ (ct f).1 = 7 := by omega
      rcases h9 with e | e | e | e | e | e | e | e
      · exact absurd e q1
      · exact absurd e q2
      · exact absurd e q3
      · exact absurd e q4
      · exact absurd e q5
      · exact absurd e q6
      · exact absurd e q7
      · exact absurd e q8
    · exact z
theorem cE_ext {k : KC} {X X1 : CX} {S S1 : CT} {kd i : Nat} (h1 : kd < 20 → ∀ j, j < nF kd → cR X1 S1 (32 * kd + j) i = cR X S (32 * kd + j) i) (h2 : 20 ≤ kd → kd < 30 → xMc X1 kd i = xMc X kd i ∧ xCp X1 kd i = xCp X kd i ∧ xSz X1 kd i = xSz X kd i ∧ (xCp X kd i ≠ 0 → xAd X1 (kd + 10) i = xAd X (kd + 10) i)) (h3 : 30 ≤ kd → kd < 40 → xCp X1 (kd - 10) i = xCp X (kd - 10) i ∧ xSz X1 (kd - 10) i = xSz X (kd - 10) i ∧ ∀ q, q < xSz X (kd - 10) i → xAd X1 (eK (kd - 10)) (eI (kd - 10) i q) = xAd X (eK (kd - 10)) (eI (kd - 10) i q)) (h4 : kd = 40 → S1.1 (1280 + i) = S.1 (1280 + i)) (h5 : kd = 41 → S1.2 (1312 + i) = S.2 (1312 + i)) : cE k X1 S1 kd i = cE k X S kd i := by
  unfold cE
  by_cases g1 : kd < 20
  · rw [if_pos g1, if_pos g1]
    congr 2
    exact List.map_congr_left fun j hj => h1 g1 j (List.mem_range.mp hj)
  · rw [if_neg g1, if_neg g1]
    by_cases g2 : kd < 30
    · obtain ⟨e1, e2, e3, e4⟩ := h2 (by omega) g2
      rw [if_pos g2, if_pos g2, e1, e2, e3]
      by_cases g3 : xCp X kd i = 0
      · rw [if_pos g3, if_pos g3]
      · rw [if_neg g3, if_neg g3, e4 g3]
    · rw [if_neg g2, if_neg g2]
      by_cases g3 : kd < 40
      · obtain ⟨e1, e2, e3⟩ := h3 (by omega) g3
        rw [if_pos g3, if_pos g3, e1, e2]
        congr 7
        funext q
        by_cases g4 : q < xSz X (kd - 10) i
        · rw [if_pos g4, if_pos g4, e3 q g4]
        · rw [if_neg g4, if_neg g4]
      · rw [if_neg g3, if_neg g3]
        by_cases g4 : kd = 40
        · rw [if_pos g4, if_pos g4, h4 g4]
        · rw [if_neg g4, if_neg g4]
          by_cases g5 : kd = 41
          · rw [if_pos g5, if_pos g5, h5 g5]
          · rw [if_neg g5, if_neg g5]
/-- what stands in fields is there -/
def RO (X : CX) (S : CT) : Prop := ∀ kd i j, lv X kd i → kd < 20 → j < nF kd → ((ct (32 * kd + j)).1 = 3 → oI X (ct (32 * kd + j)).2 (S.1 (32 * kd + j) i)) ∧ ((ct (32 * kd + j)).1 = 7 → oI X (ct (32 * kd + j)).2 (xFi X (32 * kd + j) i))
/-- what stands in lists is there -/
def EA (X : CX) : Prop := ∀ L i, 30 ≤ L → L < 40 → lv X L i → ∀ q, q < xSz X (L - 10) i → lv X (eK (L - 10)) (eI (L - 10) i q)
theorem vr_ad {X : CX} {kd n a t : Nat} {x : Int32} (hd : dead X kd n) (h : oI X t x) : vr (adX X kd n a) t x = vr X t x := by
  unfold vr
  by_cases e : x = -1
  · rw [if_pos e, if_pos e]
  · rw [if_neg e, if_neg e]
    congr 1
    refine if_neg fun q => hd.lv ?_
    have h9 := (h.lI e).lv
    rwa [q.1, q.2] at h9
theorem ct8 : ∀ kd, kd < 20 → ∀ j, j < 18 → j < nF kd → 8 ≤ (ct (32 * kd + j)).1 → 20 ≤ (ct (32 * kd + j)).2 ∧ ((ct (32 * kd + j)).2 < 30 ∨ 40 ≤ (ct (32 * kd + j)).2) := by decide +kernel
theorem ct37 : ∀ kd, kd < 20 → ∀ j, j < 18 → j < nF kd → (ct (32 * kd + j)).1 = 3 ∨ (ct (32 * kd + j)).1 = 7 → (ct (32 * kd + j)).2 < 20 := by decide +kernel
theorem eK_lt (L : Nat) : eK L < 20 := by unfold eK; split <;> decide
theorem oI_SA {X X1 : CX} (h : SA X X1) {t : Nat} {x : Int32} : oI X1 t x ↔ oI X t x := by
  unfold oI lI lv
  rw [h.2.1, h.2.2.1]
theorem vr_SA {X X1 : CX} (h : SA X X1) {t : Nat} {x : Int32} : vr X1 t x = vr X t x := by
  unfold vr
  rw [h.2.2.1]
theorem lv_SA {X X1 : CX} (h : SA X X1) {t n : Nat} : lv X1 t n ↔ lv X t n := by
  unfold lv
  rw [h.2.1, h.2.2.1]
/-- numbers differ at one role alone -/
def DE (X : CX) (S : CT) (X1 : CX) (S1 : CT) (kd n : Nat) : Prop := SA X X1 ∧ (xSz X1 = xSz X ∧ xCp X1 = xCp X ∧ xMc X1 = xMc X) ∧ ∀ f i, ¬ (f / 32 = kd ∧ i = n) → S1.1 f i = S.1 f i ∧ S1.2 f i = S.2 f i ∧ xFi X1 f i = xFi X f i ∧ xFj X1 f i = xFj X f i
abbrev obX (X : CX) (kd n q : Nat) (e : va_E) : CX := adX (nwX X q e) kd n q
theorem cW_obj {k : KC} {X X1 : CX} {S S1 : CT} {kd n q : Nat} {e : va_E} (hX : HX X) (hR : RO X S) (hE : EA X) (hk : kd < 20) (hq : q ∉ xAs X) (hd : dead X kd n) (hD : DE X S X1 S1 kd n) (he : e = cE k (adX X1 kd n q) S1 kd n) : ((cW k X S).1 ++ [q], va_up (cW k X S).2 q e) = cW k (obX X1 kd n q e) S1 ∧ HX (obX X1 kd n q e) := by
  obtain ⟨hs, hl, hde⟩ := hD
  have hne : ∀ b (r : Nat × Nat), xTg X b = some r → ¬ (r.1 = kd ∧ r.2 = n) := fun b r hb q => hd b (by rw [hb, ← q.1, ← q.2])
  have hX1 : HX X1 := by
    unfold HX
    rw [hs.2.1, hs.2.2.1, hs.1]
    exact hX
  have hd1 : dead (nwX X1 q e) kd n := by
    intro b hb
    have h9 : xTg X1 b = some (kd, n) := hb
    rw [hs.2.1] at h9
    exact hd b h9
  have htq : xTg (nwX X1 q e) q = none := by
    show xTg X1 q = none
    rw [hs.2.1]
    exact hX.tg hq
  refine ⟨?_, hX1.nw.ad (List.mem_append_right _ List.mem_cons_self) hd1⟩
  rw [cW_nw hX hq]
  have e1 : cW k (nwX X1 q e) S1 = cW k (nwX X q e) S := by
    refine cW_eq ⟨?_, hs.2.1, hs.2.2.1, ?_⟩ fun b r hb => ?_
    · show xAs X1 ++ [q] = xAs X ++ [q]
      rw [hs.1]
    · show va_up (xGb X1) q e = va_up (xGb X) q e
      rw [hs.2.2.2]
    have hb' : xTg X b = some r := hb
    have hn := hne b r hb'
    rw [cE_nw, cE_nw]
    refine cE_ext (fun h20 j hj => ?_) (fun g1 g2 => ⟨by rw [hl.2.2], by rw [hl.2.1], by rw [hl.1], fun _ => by rw [hs.2.2.1]⟩) (fun g1 g2 => ⟨by rw [hl.2.1], by rw [hl.1], fun _ _ => by rw [hs.2.2.1]⟩) (fun e4 => ?_) (fun e5 => ?_)
    · have := nF_le r.1
      obtain ⟨d1, d2, d3, d4⟩ := hde (32 * r.1 + j) r.2 (fun q => hn ⟨by omega, q.2⟩)
      exact cR_ext d1 d2 d3 d4 (fun _ => vr_SA hs) (fun _ => vr_SA hs) (fun _ => by rw [hs.2.2.1])
    · funext m
      exact (hde (1280 + r.2) m (fun q => by omega)).1
    · funext m
      exact (hde (1312 + r.2) m (fun q => by omega)).2.1
  rw [← e1]
  refine cW_ad htq ?_ fun b r hb => ?_
  · show va_up (xGb X1) q e q = _
    rw [va_up_self]
    exact he
  have hb' : xTg X b = some r := by
    have h9 : xTg X1 b = some r := hb
    rwa [hs.2.1] at h9
  have hn := hne b r hb'
  have hlv : lv X r.1 r.2 := by
    unfold lv
    rw [← (hX b r.1 r.2 hb').1]
    exact hb'
  refine cE_ext (fun h20 j hj => ?_) (fun g1 g2 => ⟨rfl, rfl, rfl, fun _ => if_neg (by omega)⟩) (fun g1 g2 => ⟨rfl, rfl, fun m hm => if_neg fun z => ?_⟩) (fun _ => rfl) (fun _ => rfl)
  · have hj18 := nF_le r.1
    obtain ⟨d1, d2, d3, d4⟩ := hde (32 * r.1 + j) r.2 (fun q => hn ⟨by omega, q.2⟩)
    obtain ⟨r1, r2⟩ := hR r.1 r.2 j hlv h20 hj
    refine cR_ext rfl rfl rfl rfl (fun h3 => vr_ad hd1 ?_) (fun h7 => vr_ad hd1 ?_) (fun h8 => if_neg ?_)
    · show oI X1 _ _
      rw [d1, oI_SA hs]
      exact r1 h3
    · show oI X1 _ (xFi X1 _ _)
      rw [d3, oI_SA hs]
      exact r2 h7
    · have := (ct8 r.1 h20 j (by omega) hj h8).1
      omega
  · refine hd.lv ?_
    have h9 := hE r.1 r.2 g1 g2 hlv m (by rw [← hl.1]; exact hm)
    rwa [z.1, z.2] at h9
theorem lv_ob {X X1 : CX} {kd n q kd' i : Nat} {e : va_E} (hX : HX X) (hq : q ∉ xAs X) (hs : SA X X1) : lv (obX X1 kd n q e) kd' i ↔ lv X kd' i ∨ (kd' = kd ∧ i = n) := by
  have h9 : xTg (nwX X1 q e) q = none := by
    show xTg X1 q = none
    rw [hs.2.1]
    exact hX.tg hq
  rw [lv_ad h9]
  exact or_congr (lv_SA (X := X) (X1 := X1) hs) Iff.rfl
