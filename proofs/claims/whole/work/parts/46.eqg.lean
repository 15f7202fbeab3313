def EQa (X : CX) (S : CT) (ex : String → Int32) (Y : CX) (Li i : Nat) (r : (Int32 × CT) ⊕ String) (m : Int32 × MS) : Prop := match r with
  | .inl q => mI m.2 0 = 0 ∧ q.1 = m.1 ∧ ∀ X2, NX Y X2 Li i → RR X2 q.2 m.2
  | .inr E => mI m.2 0 = ex E ∧ RR X S m.2
/-- of what the rows of the reference are -/
def rk (j : Nat) : Nat := if j = 4 ∨ j = 5 ∨ j = 6 ∨ j = 7 ∨ j = 8 ∨ j = 9 then 0 else if 15 ≤ j ∧ j ≤ 26 then 1 else if j = 58 then 3 else if j = 60 ∨ j = 61 ∨ j = 62 then 4 else 5
def kc (c : Nat) : Nat := if c = 0 then 6 else if c = 1 then 8 else if c = 3 then 10 else 2
theorem tab_of {T : List (Nat × Nat × Nat)} (h : (T.all fun t => [0, 1, 3, 4].all fun c => ((t.1 / 32 != kc c) || (t.2.2 == c)) && ((rk t.2.1 != c) || (t.2.2 == c))) = true) : ∀ t ∈ T, ∀ c, c < 5 → c ≠ 2 → (t.1 / 32 = kc c → t.2.2 = c) ∧ (rk t.2.1 = c → t.2.2 = c) := by
  intro t ht c h5 h2
  have h9 := List.all_eq_true.mp (List.all_eq_true.mp h t ht) c (by
    have : c = 0 ∨ c = 1 ∨ c = 3 ∨ c = 4 := by omega
    rcases this with rfl | rfl | rfl | rfl <;> decide)
  simp only [Bool.and_eq_true, Bool.or_eq_true, bne_iff_ne, beq_iff_eq] at h9
  exact ⟨fun e => h9.1.resolve_left (fun z => z e), fun e => h9.2.resolve_left (fun z => z e)⟩
theorem kc_1 {c : Nat} (hc : c < 5 ∧ c ≠ 2) (h : 262 / 32 = kc c) : c = 1 := by
  have : c = 0 ∨ c = 1 ∨ c = 3 ∨ c = 4 := by omega
  rcases this with rfl | rfl | rfl | rfl
  · exact absurd h (by decide)
  · rfl
  · exact absurd h (by decide)
  · exact absurd h (by decide)
theorem RR_new {X X2 : CX} {S S' : CT} {M M' : MS} {c n : Nat} (h : RR X S M) (hc : c < 5 ∧ c ≠ 2) (hd : ∀ c' i, dm M' c' i → dm M c' i ∨ (c' = c ∧ i = n)) (hnd : ¬ dm M c n)
    (hS1 : ∀ f i, f ≠ 362 → ¬ (f / 32 = kc c ∧ i = n) → S'.1 f i = S.1 f i) (hS2 : ∀ f i, ¬ (f / 32 = kc c ∧ i = n) → S'.2 f i = S.2 f i) (hX1 : ∀ f i, ¬ (f / 32 = kc c ∧ i = n) → xFi X2 f i = xFi X f i) (hX2 : ∀ f i, ¬ (f / 32 = kc c ∧ i = n) → xFj X2 f i = xFj X f i)
    (hg : ∀ j i, ¬ (rk j = c ∧ i = n) → gn M' j i = gn M j i) (hl : ∀ j i, ¬ (rk j = c ∧ i = n) → gl M' j i = gl M j i) (hm : ∀ j, j ≠ 0 → j ≠ 3 → j ≠ 14 → j ≠ 57 → j ≠ 59 → mI M' j = mI M j) (hmj : mJ M' 63 = mJ M 63)
    (nI' : ∀ t ∈ TI, t.2.2 = c → S'.1 t.1 n = gn M' t.2.1 n) (nJ : ∀ t ∈ TJ, t.2.2 = c → S'.2 t.1 n = gl M' t.2.1 n) (nF : ∀ t ∈ TF, t.2.2 = c → xFi X2 t.1 n = gn M' t.2.1 n) (nG : ∀ t ∈ TG, t.2.2 = c → xFj X2 t.1 n = gl M' t.2.1 n)
    (h192 : c = 0 → xFi X2 192 n = nI n) (hZ : RZ X2 M') (hC : RC S' M') (hU : c = 0 → (gn M' 6 n = 0 ∧ S'.1 196 n = -1) ∨ S'.1 196 n = gn M' 7 n) (hT : c = 1 → S'.1 262 n = if gn M' 24 n ≤ gn M' 25 n then -1 else gI M' 23 (12 * nI n + gn M' 25 n)) (h23 : ∀ i, gn M' 23 i = gn M 23 i) (h40 : ∀ i, dm M 2 i → (gn M 40 i).toNatClampNeg / 4 ≠ n ∨ c ≠ 1) : RR X2 S' M' := by
  have h362 : ∀ t ∈ TI, t.1 ≠ 362 := by decide
  have tI := tab_of (T := TI) (by decide +kernel)
  have tJ := tab_of (T := TJ) (by decide +kernel)
  have tF := tab_of (T := TF) (by decide +kernel)
  have tG := tab_of (T := TG) (by decide +kernel)
  have hne : ∀ i, dm M c i → i ≠ n := fun i z e => hnd (e ▸ z)
  obtain ⟨⟨r1, r2⟩, ⟨r3, r4, r5, r6, r7⟩, ⟨r8, r9⟩, ⟨r10, r11⟩, ⟨r12, r13⟩, r14, r15, r16, r17⟩ := h
  refine ⟨⟨fun t ht i hi => ?_, fun t ht i hi => ?_⟩, ⟨fun t ht i hi => ?_, fun t ht i hi => ?_, fun i hi => ?_, fun i hi => ?_, fun i hi => ?_⟩, ⟨fun t ht => ?_, ?_⟩, hZ, ⟨hC, fun i hi => ?_⟩, fun q hq => ?_, fun q hq => ?_, fun i hi => ?_, fun q u hq hu z hz => ?_⟩
  · rcases hd _ _ hi with z | ⟨z, rfl⟩
    · rw [hS1 _ _ (h362 t ht) (fun y => hne i ((tI t ht c hc.1 hc.2).1 y.1 ▸ z) y.2), hg _ _ (fun y => hne i ((tI t ht c hc.1 hc.2).2 y.1 ▸ z) y.2)]
      exact r1 t ht i z
    · exact nI' t ht z
  · rcases hd _ _ hi with z | ⟨z, rfl⟩
    · rw [hS2 _ _ (fun y => hne i ((tJ t ht c hc.1 hc.2).1 y.1 ▸ z) y.2), hl _ _ (fun y => hne i ((tJ t ht c hc.1 hc.2).2 y.1 ▸ z) y.2)]
      exact r2 t ht i z
    · exact nJ t ht z
  · rcases hd _ _ hi with z | ⟨z, rfl⟩
    · rw [hX1 _ _ (fun y => hne i ((tF t ht c hc.1 hc.2).1 y.1 ▸ z) y.2), hg _ _ (fun y => hne i ((tF t ht c hc.1 hc.2).2 y.1 ▸ z) y.2)]
      exact r3 t ht i z
    · exact nF t ht z
  · rcases hd _ _ hi with z | ⟨z, rfl⟩
    · rw [hX2 _ _ (fun y => hne i ((tG t ht c hc.1 hc.2).1 y.1 ▸ z) y.2), hl _ _ (fun y => hne i ((tG t ht c hc.1 hc.2).2 y.1 ▸ z) y.2)]
      exact r4 t ht i z
    · exact nG t ht z
  · rcases hd _ _ hi with z | ⟨z, rfl⟩
    · rw [hX1 _ _ (fun y => by
        have e : c = 0 := by
          have h9 := y.1
          unfold kc at h9
          by_cases c0 : c = 0
          · exact c0
          · exfalso
            rw [if_neg c0] at h9
            split at h9
            · omega
            · split at h9 <;> omega
        exact hne i (e ▸ z) y.2)]
      exact r5 i z
    · exact h192 z.symm
  · rw [hX1 _ _ (fun y => by
        have h9 := y.1
        unfold kc at h9
        split at h9
        · omega
        · split at h9
          · omega
          · split at h9 <;> omega)]
    exact r6 i hi
  · have z := (hd _ _ hi).resolve_right (fun y => hc.2 y.1.symm)
    have k3 : ¬ 96 / 32 = kc c ∧ ¬ 98 / 32 = kc c := by
      unfold kc
      constructor
      · split
        · decide
        · split
          · decide
          · split <;> decide
      · split
        · decide
        · split
          · decide
          · split <;> decide
    rw [hX1 _ _ (fun y => k3.1 y.1), hX1 _ _ (fun y => k3.2 y.1), hg 40 i (fun y => by have := y.1; unfold rk at this; simp at this; omega), hg 21 _ (fun y => by
      have e1 : c = 1 := by have := y.1; unfold rk at this; simp at this; omega
      exact ((h40 i z).elim (fun u => u y.2) (fun u => u e1)))]
    exact r7 i z
  · have h9 : ∀ t ∈ T0, t.1 / 32 = 11 ∧ t.1 ≠ 362 ∧ t.2 ≠ 0 ∧ t.2 ≠ 3 ∧ t.2 ≠ 14 ∧ t.2 ≠ 57 ∧ t.2 ≠ 59 := by decide
    obtain ⟨g0, g6, g1, g2, g3, g4, g5⟩ := h9 t ht
    rw [hS1 _ _ g6 (fun y => by
        have h8 := y.1
        rw [g0] at h8
        unfold kc at h8
        split at h8
        · omega
        · split at h8
          · omega
          · split at h8 <;> omega), hm _ g1 g2 g3 g4 g5]
    exact r8 t ht
  · rw [hS2 _ _ (fun y => by
        have h8 := y.1
        unfold kc at h8
        split at h8
        · omega
        · split at h8
          · omega
          · split at h8 <;> omega), hmj]
    exact r9
  · rcases hd _ _ hi with z | ⟨z, rfl⟩
    · by_cases e : i = n
      · subst e
        have hc0 : ¬ c = 0 := fun e => hnd (e ▸ z)
        rw [hg 6 i (fun y => hc0 (by have := y.1; unfold rk at this; simp at this; omega)), hg 7 i (fun y => hc0 (by have := y.1; unfold rk at this; simp at this; omega)), hS1 196 _ (by decide) (fun y => hc0 (by
          have h8 := y.1
          unfold kc at h8
          by_cases c0 : c = 0
          · exact c0
          · exfalso
            rw [if_neg c0] at h8
            split at h8
            · omega
            · split at h8 <;> omega))]
        exact r13 i z
      · rw [hg _ _ (fun y => e y.2), hg _ _ (fun y => e y.2), hS1 _ _ (by decide) (fun y => e y.2)]
        exact r13 i z
    · exact hU z.symm
  · rcases hd _ _ hq with z | ⟨z, rfl⟩
    · by_cases e : q = n
      · subst e
        have hc0 : ¬ c = 1 := fun e => hnd (e ▸ z)
        rw [hg 24 q (fun y => hc0 (by have := y.1; unfold rk at this; simp at this; omega)), hg 25 q (fun y => hc0 (by have := y.1; unfold rk at this; simp at this; omega)), gI_n, h23, hS1 262 _ (by decide) (fun y => hc0 (kc_1 hc y.1))]
        exact r14 q z
      · rw [hg _ _ (fun y => e y.2), hg _ _ (fun y => e y.2), gI_n, h23, hS1 _ _ (by decide) (fun y => e y.2)]
        exact r14 q z
    · exact hT z.symm
  · have z := (hd _ _ hq).resolve_right (fun y => by omega)
    have h9 := fb_cg (M := M) (M' := M') (q := nI q) (hm 39 (by decide) (by decide) (by decide) (by decide) (by decide)) (fun i => hg 40 i (fun y => by have := y.1; unfold rk at this; simp at this; omega)) (fun i => hg 41 i (fun y => by have := y.1; unfold rk at this; simp at this; omega)) (fun i => hg 44 i (fun y => by have := y.1; unfold rk at this; simp at this; omega))
    have k4 : ¬ 132 / 32 = kc c ∧ ¬ 133 / 32 = kc c := by
      unfold kc
      constructor
      · split
        · decide
        · split
          · decide
          · split <;> decide
      · split
        · decide
        · split
          · decide
          · split <;> decide
    rw [hS1 _ _ (by decide) (fun y => k4.1 y.1), hS1 _ _ (by decide) (fun y => k4.2 y.1), h9.1, h9.2]
    exact r15 q z
  · have z := (hd _ _ hi).resolve_right (fun y => hc.2 y.1.symm)
    have k3 : ∀ f, f / 32 = 3 → ¬ f / 32 = kc c := fun f hf y => by
      rw [hf] at y
      unfold kc at y
      split at y
      · omega
      · split at y
        · omega
        · split at y <;> omega
    have gk : ∀ j, (j = 44 ∨ j = 52 ∨ j = 49 ∨ j = 50 ∨ j = 48) → ¬ rk j = c := fun j hj y => by
      rcases hj with rfl | rfl | rfl | rfl | rfl <;> (unfold rk at y; simp at y; omega)
    rw [hS1 104 i (by decide) (fun y => k3 104 rfl y.1), hS1 109 i (by decide) (fun y => k3 109 rfl y.1), hS1 110 i (by decide) (fun y => k3 110 rfl y.1), hS2 108 i (fun y => k3 108 rfl y.1), hg 44 i (fun y => gk 44 (by decide) y.1), hg 52 i (fun y => gk 52 (by decide) y.1), hg 49 i (fun y => gk 49 (by decide) y.1), hg 50 i (fun y => gk 50 (by decide) y.1), hl 48 i (fun y => gk 48 (by decide) y.1)]
    exact r16 i z
  · rw [hS2 _ _ (fun y => by
        have h8 := y.1
        have h7 : (224 + z) / 32 = 7 := by omega
        rw [h7] at h8
        unfold kc at h8
        split at h8
        · omega
        · split at h8
          · omega
          · split at h8 <;> omega), hl 11 _ (fun y => by have := y.1; unfold rk at this; simp at this; omega)]
    exact r17 q u hq hu z hz
theorem fi_o {X : CX} {f n g m : Nat} {v : Int32} (h : ¬ (g = f ∧ m = n)) : xFi (fiX X f n v) g m = xFi X g m := by
  by_cases e : g = f
  · exact fi_nn (fun z => h ⟨e, z⟩)
  · exact fi_sn (beq_eq_false_iff_ne.mpr e)
theorem fj_o {X : CX} {f n g m : Nat} {v : Int64} (h : ¬ (g = f ∧ m = n)) : xFj (fjX X f n v) g m = xFj X g m := by
  by_cases e : g = f
  · exact fj_nn (fun z => h ⟨e, z⟩)
  · exact fj_sn (beq_eq_false_iff_ne.mpr e)
theorem dm_s59 {M : MS} {c i : Nat} {v : Int32} (h : c ≠ 4) : dm (sI M 59 v) c i ↔ dm M c i := by
  unfold dm cnt
  split <;> first | exact Iff.rfl | exact absurd rfl h
theorem dm_s3 {M : MS} {c i : Nat} {v : Int32} (h : c ≠ 0) : dm (sI M 3 v) c i ↔ dm M c i := by
  unfold dm cnt
  split <;> first | exact Iff.rfl | exact absurd rfl h
theorem dm_s57 {M : MS} {c i : Nat} {v : Int32} (h : c ≠ 3) : dm (sI M 57 v) c i ↔ dm M c i := by
  unfold dm cnt
  split <;> first | exact Iff.rfl | exact absurd rfl h
theorem dm_0 {M : MS} {c i : Nat} {v : Int32} : dm (sI M 0 v) c i ↔ dm M c i := dm_sI (by decide)
theorem lt_ne {n N : Nat} {x z : Int32} (ex : x = nI n) (ez : z = nI N) (h : n ≤ N) (hN : N < 2 ^ 30) : x < z ↔ ¬ x = z := by
  rw [ex, ez, nI_ltI (by omega) (by omega), nI_eq (by omega) (by omega)]
  omega
theorem RR.l3 {X : CX} {S : CT} {M : MS} (h : RR X S M) (hL : LVX X) : nS X 20 0 < 12 ↔ ¬ mI M 3 = 12 := by
  rw [← h.z3]
  exact lt_ne (n := xSz X 20 0) (N := 12) rfl rfl (by have := hL.2.2.1; omega) (by decide)
theorem RR.l14 {X : CX} {S : CT} {M : MS} (h : RR X S M) (hL : LVX X) : nS X 24 0 < 40 ↔ ¬ mI M 14 = 40 := by
  rw [← h.z14]
  exact lt_ne (n := xSz X 24 0) (N := 40) rfl rfl (by have := hL.2.2.1; omega) (by decide)
theorem RR.l39 {X : CX} {S : CT} {M : MS} (h : RR X S M) (hL : LVX X) : nS X 25 0 < 60 ↔ ¬ mI M 39 = 60 := by
  rw [← h.z39]
  exact lt_ne (n := xSz X 25 0) (N := 60) rfl rfl (by have := hL.2.2.1; omega) (by decide)
theorem RR.l57 {X : CX} {S : CT} {M : MS} (h : RR X S M) (hL : LVX X) : nS X 26 0 < 30 ↔ ¬ mI M 57 = 30 := by
  rw [← h.z57]
  exact lt_ne (n := xSz X 26 0) (N := 30) rfl rfl (by have := hL.2.2.1; omega) (by decide)
theorem RR.l59 {X : CX} {S : CT} {M : MS} (h : RR X S M) (hL : LVX X) : nS X 27 0 < 40 ↔ ¬ mI M 59 = 40 := by
  rw [← h.z59]
  exact lt_ne (n := xSz X 27 0) (N := 40) rfl rfl (by have := hL.2.2.1; omega) (by decide)
theorem eq_card {X : CX} {S : CT} {M : MS} {p1 : Int32} {p2 : Int32} (hX : XOK X) (hL : LVX X) (h : RR X S M) (hz : gn M 62 (xSz X 27 0) = 0) : EQa X S xcIAS (y_card X p1 p2) 27 0 (k_card p1 p2 X S) (f_card p1 p2 M) := by
  unfold k_card f_card
  by_cases c1 : P_isPerson p1 M
  · by_cases c2 : P_in p2 1 1000000
    · by_cases c3 : (mI M 59) = 40
      · rw [if_pos ((h.n3 hL).mpr c1), if_pos c2, if_neg (fun z => ((h.l59 hL).mp z) c3), if_pos c1, if_pos c2, if_pos c3]
        exact ⟨mI_sIs.trans xIAS_S.symm, h.thr⟩
      · rw [if_pos ((h.n3 hL).mpr c1), if_pos c2, if_pos ((h.l59 hL).mpr c3), if_pos c1, if_pos c2, if_neg c3]
        have en : mI M 59 = nI (xSz X 27 0) := h.z59.symm
        have hb := hL.2.2.1
        have cl : (mI M 59).toNatClampNeg = (xSz X 27 0) := by rw [en, nI_clamp (by omega)]
        refine ⟨rfl, ?_, fun X2 hN => ?_⟩
        · rw [en, nI_1]
        have hg0 : ∀ j i, ¬ (rk j = 4 ∧ i = (xSz X 27 0)) → gn (sI (rI (rI (sI M 0 0) 60 (mI M 59) p1) 61 (mI M 59) p2) 59 ((mI M 59) + 1)) j i = gn M j i := fun j i y => by
          show gn (rI (rI (sI M 0 0) 60 (mI M 59) p1) 61 (mI M 59) p2) j i = gn M j i
          rw [gn_rI, if_neg (fun z => y ⟨by rw [z.1]; decide, by rw [z.2, cl]⟩), gn_rI, if_neg (fun z => y ⟨by rw [z.1]; decide, by rw [z.2, cl]⟩)]
          rfl
        have ho : ∀ j i, j ≠ 60 ∧ j ≠ 61 → gn (sI (rI (rI (sI M 0 0) 60 (mI M 59) p1) 61 (mI M 59) p2) 59 ((mI M 59) + 1)) j i = gn M j i := fun j i y => by
          show gn (rI (rI (sI M 0 0) 60 (mI M 59) p1) 61 (mI M 59) p2) j i = gn M j i
          rw [gn_rIn y.2, gn_rIn y.1]
          rfl
        have g60 : gn (sI (rI (rI (sI M 0 0) 60 (mI M 59) p1) 61 (mI M 59) p2) 59 ((mI M 59) + 1)) 60 (xSz X 27 0) = p1 := by
          show gn (rI (rI (sI M 0 0) 60 (mI M 59) p1) 61 (mI M 59) p2) 60 (xSz X 27 0) = p1
          rw [gn_rIn (by decide), gn_rI, if_pos ⟨rfl, cl.symm⟩]
        have g61 : gn (sI (rI (rI (sI M 0 0) 60 (mI M 59) p1) 61 (mI M 59) p2) 59 ((mI M 59) + 1)) 61 (xSz X 27 0) = p2 := by
          show gn (rI (rI (sI M 0 0) 60 (mI M 59) p1) 61 (mI M 59) p2) 61 (xSz X 27 0) = p2
          rw [gn_rI, if_pos ⟨rfl, cl.symm⟩]
        have hY : xFi X2 = xFi (y_card X p1 p2) := hN.2.2.1
        have hYj : xFj X2 = xFj (y_card X p1 p2) := hN.2.2.2.1
        refine RR_new (c := 4) (n := (xSz X 27 0)) h ⟨by decide, by decide⟩ (fun c9 i hi => ?_) ?_ (fun f i f362 y => ?_) (fun f i y => ?_) (fun f i y => ?_) (fun f i y => ?_) hg0 (fun _ _ _ => rfl) (fun j _ _ _ _ _ => ?_) rfl (fun t ht e9 => ?_) (fun t ht e9 => ?_) (fun t ht e9 => ?_) (fun t ht e9 => ?_) (fun z => absurd z (by decide)) ?_ ?_ (fun z => absurd z (by decide)) (fun z => absurd z (by decide)) (fun i => ?_) (fun i _ => Or.inr (by decide))
        · by_cases e9 : c9 = 4
          · subst e9
            have h8 : i < ((mI M 59) + 1).toNatClampNeg := hi
            rw [en, nI_1, nI_clamp (by omega)] at h8
            by_cases e8 : i = (xSz X 27 0)
            · exact Or.inr ⟨rfl, e8⟩
            · refine Or.inl ?_
              show i < cnt M 59
              rw [h.c59 hL]
              omega
          · exact Or.inl (dm_0.mp (((dm_rI (by decide)).mp ((dm_rI (by decide)).mp ((dm_s59 e9).mp hi)))))
        · show ¬ (xSz X 27 0) < cnt M 59
          rw [h.c59 hL]
          omega
        · show (si S 66 (nI (xSz X 27 0)) 0).1 f i = S.1 f i
          rw [s1_si, if_neg (fun z => y ⟨by rw [z.1]; decide, by rw [z.2, nI_clamp (by omega)]⟩)]
        · show (si S 66 (nI (xSz X 27 0)) 0).2 f i = S.2 f i
          rfl
        · rw [hY]
          show xFi (fiX (fiX X 64 (xSz X 27 0) p1) 65 (xSz X 27 0) p2) f i = xFi X f i
          rw [fi_o (fun z => y ⟨by rw [z.1]; decide, z.2⟩), fi_o (fun z => y ⟨by rw [z.1]; decide, z.2⟩)]
        · rw [hYj]
          show xFj (fiX (fiX X 64 (xSz X 27 0) p1) 65 (xSz X 27 0) p2) f i = xFj X f i
          rfl
        · show (if j = 59 then _ else if j = 0 then _ else _) = _
          rw [if_neg (by assumption), if_neg (by assumption)]
          rfl
        · have h9 : ∀ t ∈ TI, t.2.2 = 4 → t = (66, 62, 4) := by decide
          rcases h9 t ht e9 with rfl
          · show (si S 66 (nI (xSz X 27 0)) 0).1 66 (xSz X 27 0) = gn (sI (rI (rI (sI M 0 0) 60 (mI M 59) p1) 61 (mI M 59) p2) 59 ((mI M 59) + 1)) 62 (xSz X 27 0); rw [si_at (by omega), ho 62 _ ⟨by decide, by decide⟩]; exact (hz).symm
        · have h9 : ∀ t ∈ TJ, t.2.2 ≠ 4 := by decide
          exact absurd e9 (h9 t ht)
        · have h9 : ∀ t ∈ TF, t.2.2 = 4 → t = (64, 60, 4) ∨ t = (65, 61, 4) := by decide
          rcases h9 t ht e9 with rfl | rfl
          · rw [hY, g60]; show xFi (fiX (fiX X 64 (xSz X 27 0) p1) 65 (xSz X 27 0) p2) 64 (xSz X 27 0) = _; rw [fi_sn rfl, fi_ss]
          · rw [hY, g61]; show xFi (fiX (fiX X 64 (xSz X 27 0) p1) 65 (xSz X 27 0) p2) 65 (xSz X 27 0) = _; rw [fi_ss]
        · have h9 : ∀ t ∈ TG, t.2.2 ≠ 4 := by decide
          exact absurd e9 (h9 t ht)
        · have hs : ∀ L j, ¬ (L = 27 ∧ j = 0) → xSz X2 L j = xSz X L j := fun L j y => by
            rw [hN.2.2.2.2.1]
            exact if_neg y
          have hs1 : xSz X2 27 0 = (xSz X 27 0) + 1 := by rw [hN.2.2.2.2.1]; exact if_pos ⟨rfl, rfl⟩
          refine ⟨⟨by rw [hs 20 0 (by omega)]; exact h.z3.symm, by rw [hs 24 0 (by omega)]; exact h.z14.symm, by rw [hs 25 0 (by omega)]; exact h.z39.symm, by rw [hs 26 0 (by omega)]; exact h.z57.symm, by rw [hs1]; show mI M 59 + 1 = _; rw [en, nI_1]⟩, fun r hr => ?_⟩
          rw [hs 24 0 (by omega)] at hr
          rw [hs 29 r (by omega), ho 18 r ⟨by decide, by decide⟩]
          exact h.2.2.2.1.2 r hr
        · show (si S 66 (nI (xSz X 27 0)) 0).1 362 0 = if mI M 3 = 0 then -1 else mI M 10
          rw [si_an rfl]
          exact h.2.2.2.2.1.1
        · exact ho 23 i ⟨by decide, by decide⟩
    · rw [if_pos ((h.n3 hL).mpr c1), if_neg c2, if_pos c1, if_neg c2]
      exact ⟨mI_sIs.trans xIAS_A.symm, h.thr⟩
  · rw [if_neg (fun z => c1 ((h.n3 hL).mp z)), if_neg c1]
    exact ⟨mI_sIs.trans xIAS_I.symm, h.thr⟩
set_option maxRecDepth 100000 in
theorem eq_person {X : CX} {S : CT} {M : MS} {p1 : Int32} {p2 : Int32} (hX : XOK X) (hL : LVX X) (h : RR X S M) (hc : ¬ mI M 3 = 0 → P_isPerson (mI M 10) M) (hk : mI M 3 = 0 → mI M 10 = 0) (hz6 : gn M 6 (xSz X 20 0) = 0) (hz8 : gl M 8 (xSz X 20 0) = 0) (hz9 : gl M 9 (xSz X 20 0) = 0) : EQa X S xcIAS (y_person X p1 p2) 20 0 (k_person p1 p2 X S) (f_person p1 p2 M) := by
  unfold k_person f_person
  by_cases c1 : p1 = (-1)
  · by_cases c2 : P_in p2 0 10000000
    · by_cases c3 : (mI M 3) = 12
      · rw [if_pos c1, if_pos c2, if_neg (fun z => ((h.l3 hL).mp z) c3), if_pos c1, if_pos c2, if_pos c3]
        exact ⟨mI_sIs.trans xIAS_S.symm, h.thr⟩
      · by_cases c4 : (ci (s_person X S (-1) p2) 362 0) = -1
        · rw [if_pos c1, if_pos c2, if_pos ((h.l3 hL).mpr c3), if_pos c4, if_pos c1, if_pos c2, if_neg c3]
          have hp9 : p1 = -1 := c1
          subst hp9
          have hrc : ci S 362 0 = if mI M 3 = 0 then -1 else mI M 10 := h.2.2.2.2.1.1
          have h3 : mI M 3 = 0 := by
            by_cases z : mI M 3 = 0
            · exact z
            · exfalso
              have h8 : ci S 362 0 = -1 := c4
              rw [hrc, if_neg z] at h8
              have h7 := (hc z).1
              rw [h8] at h7
              exact absurd h7 (by decide)
          have en : mI M 3 = nI (xSz X 20 0) := h.z3.symm
          have hb := hL.2.2.1
          have cl : (mI M 3).toNatClampNeg = (xSz X 20 0) := by rw [en, nI_clamp (by omega)]
          refine ⟨rfl, ?_, fun X2 hN => ?_⟩
          · rw [en, nI_1, nI_pred]
          have hg0 : ∀ j i, ¬ (rk j = 0 ∧ i = (xSz X 20 0)) → gn (sI (rI (rI (sI M 0 0) 4 (mI M 3) (-1)) 5 (mI M 3) p2) 3 ((mI M 3) + 1)) j i = gn M j i := fun j i y => by
            show gn (rI (rI (sI M 0 0) 4 (mI M 3) (-1)) 5 (mI M 3) p2) j i = gn M j i
            rw [gn_rI, if_neg (fun z => y ⟨by rw [z.1]; decide, by rw [z.2, cl]⟩), gn_rI, if_neg (fun z => y ⟨by rw [z.1]; decide, by rw [z.2, cl]⟩)]
            rfl
          have ho : ∀ j i, j ≠ 4 ∧ j ≠ 5 → gn (sI (rI (rI (sI M 0 0) 4 (mI M 3) (-1)) 5 (mI M 3) p2) 3 ((mI M 3) + 1)) j i = gn M j i := fun j i y => by
            show gn (rI (rI (sI M 0 0) 4 (mI M 3) (-1)) 5 (mI M 3) p2) j i = gn M j i
            rw [gn_rIn y.2, gn_rIn y.1]
            rfl
          have g4 : gn (sI (rI (rI (sI M 0 0) 4 (mI M 3) (-1)) 5 (mI M 3) p2) 3 ((mI M 3) + 1)) 4 (xSz X 20 0) = (-1) := by
            show gn (rI (rI (sI M 0 0) 4 (mI M 3) (-1)) 5 (mI M 3) p2) 4 (xSz X 20 0) = (-1)
            rw [gn_rIn (by decide), gn_rI, if_pos ⟨rfl, cl.symm⟩]
          have g5 : gn (sI (rI (rI (sI M 0 0) 4 (mI M 3) (-1)) 5 (mI M 3) p2) 3 ((mI M 3) + 1)) 5 (xSz X 20 0) = p2 := by
            show gn (rI (rI (sI M 0 0) 4 (mI M 3) (-1)) 5 (mI M 3) p2) 5 (xSz X 20 0) = p2
            rw [gn_rI, if_pos ⟨rfl, cl.symm⟩]
          have hY : xFi X2 = xFi (y_person X (-1) p2) := hN.2.2.1
          have hYj : xFj X2 = xFj (y_person X (-1) p2) := hN.2.2.2.1
          refine RR_new (c := 0) (n := (xSz X 20 0)) h ⟨by decide, by decide⟩ (fun c9 i hi => ?_) ?_ (fun f i f362 y => ?_) (fun f i y => ?_) (fun f i y => ?_) (fun f i y => ?_) hg0 (fun _ _ _ => rfl) (fun j _ _ _ _ _ => ?_) rfl (fun t ht e9 => ?_) (fun t ht e9 => ?_) (fun t ht e9 => ?_) (fun t ht e9 => ?_) (fun _ => by rw [hY]; exact (fi_sn rfl).trans ((fi_sn rfl).trans fi_ss)) ?_ ?_ (fun _ => Or.inl ⟨(ho 6 _ ⟨by decide, by decide⟩).trans hz6, by show (si (si (si S 195 (nI (xSz X 20 0)) 0) 196 (nI (xSz X 20 0)) (-1)) 362 0 (nI (xSz X 20 0))).1 196 (xSz X 20 0) = -1; rw [s1_sn (by decide), s1_si, if_pos ⟨rfl, (nI_clamp (by omega)).symm⟩]⟩) (fun z => absurd z (by decide)) (fun i => ?_) (fun i _ => Or.inr (by decide))
          · by_cases e9 : c9 = 0
            · subst e9
              have h8 : i < ((mI M 3) + 1).toNatClampNeg := hi
              rw [en, nI_1, nI_clamp (by omega)] at h8
              by_cases e8 : i = (xSz X 20 0)
              · exact Or.inr ⟨rfl, e8⟩
              · refine Or.inl ?_
                show i < cnt M 3
                rw [h.c3 hL]
                omega
            · exact Or.inl (dm_0.mp (((dm_rI (by decide)).mp ((dm_rI (by decide)).mp ((dm_s3 e9).mp hi)))))
          · show ¬ (xSz X 20 0) < cnt M 3
            rw [h.c3 hL]
            omega
          · show (si (sj (sj (si (si S 195 (nI (xSz X 20 0)) 0) 196 (nI (xSz X 20 0)) (-1)) 197 (nI (xSz X 20 0)) 0) 198 (nI (xSz X 20 0)) 0) 362 0 (nI (xSz X 20 0))).1 f i = S.1 f i
            rw [s1_sn f362, sj_i, sj_i, s1_si, if_neg (fun z => y ⟨by rw [z.1]; decide, by rw [z.2, nI_clamp (by omega)]⟩), s1_si, if_neg (fun z => y ⟨by rw [z.1]; decide, by rw [z.2, nI_clamp (by omega)]⟩)]
          · show (si (sj (sj (si (si S 195 (nI (xSz X 20 0)) 0) 196 (nI (xSz X 20 0)) (-1)) 197 (nI (xSz X 20 0)) 0) 198 (nI (xSz X 20 0)) 0) 362 0 (nI (xSz X 20 0))).2 f i = S.2 f i
            rw [si_j, s2_sj, if_neg (fun z => y ⟨by rw [z.1]; decide, by rw [z.2, nI_clamp (by omega)]⟩), s2_sj, if_neg (fun z => y ⟨by rw [z.1]; decide, by rw [z.2, nI_clamp (by omega)]⟩), si_j, si_j]
          · rw [hY]
            show xFi (fiX (fiX (fiX X 192 (xSz X 20 0) (nI (xSz X 20 0))) 193 (xSz X 20 0) (-1)) 194 (xSz X 20 0) p2) f i = xFi X f i
            rw [fi_o (fun z => y ⟨by rw [z.1]; decide, z.2⟩), fi_o (fun z => y ⟨by rw [z.1]; decide, z.2⟩), fi_o (fun z => y ⟨by rw [z.1]; decide, z.2⟩)]
          · rw [hYj]
            show xFj (fiX (fiX (fiX X 192 (xSz X 20 0) (nI (xSz X 20 0))) 193 (xSz X 20 0) (-1)) 194 (xSz X 20 0) p2) f i = xFj X f i
            rfl
          · show (if j = 3 then _ else if j = 0 then _ else _) = _
            rw [if_neg (by assumption), if_neg (by assumption)]
            rfl
          · have h9 : ∀ t ∈ TI, t.2.2 = 0 → t = (195, 6, 0) := by decide
            rcases h9 t ht e9 with rfl
            · show (si (sj (sj (si (si S 195 (nI (xSz X 20 0)) 0) 196 (nI (xSz X 20 0)) (-1)) 197 (nI (xSz X 20 0)) 0) 198 (nI (xSz X 20 0)) 0) 362 0 (nI (xSz X 20 0))).1 195 (xSz X 20 0) = gn (sI (rI (rI (sI M 0 0) 4 (mI M 3) (-1)) 5 (mI M 3) p2) 3 ((mI M 3) + 1)) 6 (xSz X 20 0); rw [si_an rfl, sj_i, sj_i, si_an rfl, si_at (by omega), ho 6 _ ⟨by decide, by decide⟩]; exact (hz6).symm
          · have h9 : ∀ t ∈ TJ, t.2.2 = 0 → t = (197, 8, 0) ∨ t = (198, 9, 0) := by decide
            rcases h9 t ht e9 with rfl | rfl
            · show (si (sj (sj (si (si S 195 (nI (xSz X 20 0)) 0) 196 (nI (xSz X 20 0)) (-1)) 197 (nI (xSz X 20 0)) 0) 198 (nI (xSz X 20 0)) 0) 362 0 (nI (xSz X 20 0))).2 197 (xSz X 20 0) = gl M 8 (xSz X 20 0); rw [si_j, sj_an rfl, sj_at (by omega)]; exact (hz8).symm
            · show (si (sj (sj (si (si S 195 (nI (xSz X 20 0)) 0) 196 (nI (xSz X 20 0)) (-1)) 197 (nI (xSz X 20 0)) 0) 198 (nI (xSz X 20 0)) 0) 362 0 (nI (xSz X 20 0))).2 198 (xSz X 20 0) = gl M 9 (xSz X 20 0); rw [si_j, sj_at (by omega)]; exact (hz9).symm
          · have h9 : ∀ t ∈ TF, t.2.2 = 0 → t = (193, 4, 0) ∨ t = (194, 5, 0) := by decide
            rcases h9 t ht e9 with rfl | rfl
            · rw [hY, g4]; show xFi (fiX (fiX (fiX X 192 (xSz X 20 0) (nI (xSz X 20 0))) 193 (xSz X 20 0) (-1)) 194 (xSz X 20 0) p2) 193 (xSz X 20 0) = _; rw [fi_sn rfl, fi_ss]
            · rw [hY, g5]; show xFi (fiX (fiX (fiX X 192 (xSz X 20 0) (nI (xSz X 20 0))) 193 (xSz X 20 0) (-1)) 194 (xSz X 20 0) p2) 194 (xSz X 20 0) = _; rw [fi_ss]
          · have h9 : ∀ t ∈ TG, t.2.2 ≠ 0 := by decide
            exact absurd e9 (h9 t ht)
          · have hs : ∀ L j, ¬ (L = 20 ∧ j = 0) → xSz X2 L j = xSz X L j := fun L j y => by
              rw [hN.2.2.2.2.1]
              exact if_neg y
            have hs1 : xSz X2 20 0 = (xSz X 20 0) + 1 := by rw [hN.2.2.2.2.1]; exact if_pos ⟨rfl, rfl⟩
            refine ⟨⟨by rw [hs1]; show mI M 3 + 1 = _; rw [en, nI_1], by rw [hs 24 0 (by omega)]; exact h.z14.symm, by rw [hs 25 0 (by omega)]; exact h.z39.symm, by rw [hs 26 0 (by omega)]; exact h.z57.symm, by rw [hs 27 0 (by omega)]; exact h.z59.symm⟩, fun r hr => ?_⟩
            rw [hs 24 0 (by omega)] at hr
            rw [hs 29 r (by omega), ho 18 r ⟨by decide, by decide⟩]
            exact h.2.2.2.1.2 r hr
          · have e0 : (xSz X 20 0) = 0 := by
              have h8 := h3
              rw [en] at h8
              have h7 := (nI_eq (a := (xSz X 20 0)) (b := 0) (by omega) (by omega)).mp (h8.trans nI_0.symm)
              exact h7
            show (si _ 362 0 (nI (xSz X 20 0))).1 362 0 = if mI M 3 + 1 = 0 then -1 else mI M 10
            rw [s1_si, if_pos ⟨rfl, by decide⟩, h3, hk h3, e0]
            decide
          · exact ho 23 i ⟨by decide, by decide⟩
        · rw [if_pos c1, if_pos c2, if_pos ((h.l3 hL).mpr c3), if_neg c4, if_pos c1, if_pos c2, if_neg c3]
          have hp9 : p1 = -1 := c1
          subst hp9
          have hrc : ci S 362 0 = if mI M 3 = 0 then -1 else mI M 10 := h.2.2.2.2.1.1
          have h3 : ¬ mI M 3 = 0 := fun z => c4 (hrc.trans (if_pos z))
          have en : mI M 3 = nI (xSz X 20 0) := h.z3.symm
          have hb := hL.2.2.1
          have cl : (mI M 3).toNatClampNeg = (xSz X 20 0) := by rw [en, nI_clamp (by omega)]
          refine ⟨rfl, ?_, fun X2 hN => ?_⟩
          · rw [en, nI_1, nI_pred]
          have hg0 : ∀ j i, ¬ (rk j = 0 ∧ i = (xSz X 20 0)) → gn (sI (rI (rI (sI M 0 0) 4 (mI M 3) (-1)) 5 (mI M 3) p2) 3 ((mI M 3) + 1)) j i = gn M j i := fun j i y => by
            show gn (rI (rI (sI M 0 0) 4 (mI M 3) (-1)) 5 (mI M 3) p2) j i = gn M j i
            rw [gn_rI, if_neg (fun z => y ⟨by rw [z.1]; decide, by rw [z.2, cl]⟩), gn_rI, if_neg (fun z => y ⟨by rw [z.1]; decide, by rw [z.2, cl]⟩)]
            rfl
          have ho : ∀ j i, j ≠ 4 ∧ j ≠ 5 → gn (sI (rI (rI (sI M 0 0) 4 (mI M 3) (-1)) 5 (mI M 3) p2) 3 ((mI M 3) + 1)) j i = gn M j i := fun j i y => by
            show gn (rI (rI (sI M 0 0) 4 (mI M 3) (-1)) 5 (mI M 3) p2) j i = gn M j i
            rw [gn_rIn y.2, gn_rIn y.1]
            rfl
          have g4 : gn (sI (rI (rI (sI M 0 0) 4 (mI M 3) (-1)) 5 (mI M 3) p2) 3 ((mI M 3) + 1)) 4 (xSz X 20 0) = (-1) := by
            show gn (rI (rI (sI M 0 0) 4 (mI M 3) (-1)) 5 (mI M 3) p2) 4 (xSz X 20 0) = (-1)
            rw [gn_rIn (by decide), gn_rI, if_pos ⟨rfl, cl.symm⟩]
          have g5 : gn (sI (rI (rI (sI M 0 0) 4 (mI M 3) (-1)) 5 (mI M 3) p2) 3 ((mI M 3) + 1)) 5 (xSz X 20 0) = p2 := by
            show gn (rI (rI (sI M 0 0) 4 (mI M 3) (-1)) 5 (mI M 3) p2) 5 (xSz X 20 0) = p2
            rw [gn_rI, if_pos ⟨rfl, cl.symm⟩]
          have hY : xFi X2 = xFi (y_person X (-1) p2) := hN.2.2.1
          have hYj : xFj X2 = xFj (y_person X (-1) p2) := hN.2.2.2.1
          refine RR_new (c := 0) (n := (xSz X 20 0)) h ⟨by decide, by decide⟩ (fun c9 i hi => ?_) ?_ (fun f i f362 y => ?_) (fun f i y => ?_) (fun f i y => ?_) (fun f i y => ?_) hg0 (fun _ _ _ => rfl) (fun j _ _ _ _ _ => ?_) rfl (fun t ht e9 => ?_) (fun t ht e9 => ?_) (fun t ht e9 => ?_) (fun t ht e9 => ?_) (fun _ => by rw [hY]; exact (fi_sn rfl).trans ((fi_sn rfl).trans fi_ss)) ?_ ?_ (fun _ => Or.inl ⟨(ho 6 _ ⟨by decide, by decide⟩).trans hz6, by show ((si (si S 195 (nI (xSz X 20 0)) 0) 196 (nI (xSz X 20 0)) (-1))).1 196 (xSz X 20 0) = -1; rw [s1_si, if_pos ⟨rfl, (nI_clamp (by omega)).symm⟩]⟩) (fun z => absurd z (by decide)) (fun i => ?_) (fun i _ => Or.inr (by decide))
          · by_cases e9 : c9 = 0
            · subst e9
              have h8 : i < ((mI M 3) + 1).toNatClampNeg := hi
              rw [en, nI_1, nI_clamp (by omega)] at h8
              by_cases e8 : i = (xSz X 20 0)
              · exact Or.inr ⟨rfl, e8⟩
              · refine Or.inl ?_
                show i < cnt M 3
                rw [h.c3 hL]
                omega
            · exact Or.inl (dm_0.mp (((dm_rI (by decide)).mp ((dm_rI (by decide)).mp ((dm_s3 e9).mp hi)))))
          · show ¬ (xSz X 20 0) < cnt M 3
            rw [h.c3 hL]
            omega
          · show (sj (sj (si (si S 195 (nI (xSz X 20 0)) 0) 196 (nI (xSz X 20 0)) (-1)) 197 (nI (xSz X 20 0)) 0) 198 (nI (xSz X 20 0)) 0).1 f i = S.1 f i
            rw [sj_i, sj_i, s1_si, if_neg (fun z => y ⟨by rw [z.1]; decide, by rw [z.2, nI_clamp (by omega)]⟩), s1_si, if_neg (fun z => y ⟨by rw [z.1]; decide, by rw [z.2, nI_clamp (by omega)]⟩)]
          · show (sj (sj (si (si S 195 (nI (xSz X 20 0)) 0) 196 (nI (xSz X 20 0)) (-1)) 197 (nI (xSz X 20 0)) 0) 198 (nI (xSz X 20 0)) 0).2 f i = S.2 f i
            rw [s2_sj, if_neg (fun z => y ⟨by rw [z.1]; decide, by rw [z.2, nI_clamp (by omega)]⟩), s2_sj, if_neg (fun z => y ⟨by rw [z.1]; decide, by rw [z.2, nI_clamp (by omega)]⟩), si_j, si_j]
          · rw [hY]
            show xFi (fiX (fiX (fiX X 192 (xSz X 20 0) (nI (xSz X 20 0))) 193 (xSz X 20 0) (-1)) 194 (xSz X 20 0) p2) f i = xFi X f i
            rw [fi_o (fun z => y ⟨by rw [z.1]; decide, z.2⟩), fi_o (fun z => y ⟨by rw [z.1]; decide, z.2⟩), fi_o (fun z => y ⟨by rw [z.1]; decide, z.2⟩)]
          · rw [hYj]
            show xFj (fiX (fiX (fiX X 192 (xSz X 20 0) (nI (xSz X 20 0))) 193 (xSz X 20 0) (-1)) 194 (xSz X 20 0) p2) f i = xFj X f i
            rfl
          · show (if j = 3 then _ else if j = 0 then _ else _) = _
            rw [if_neg (by assumption), if_neg (by assumption)]
            rfl
          · have h9 : ∀ t ∈ TI, t.2.2 = 0 → t = (195, 6, 0) := by decide
            rcases h9 t ht e9 with rfl
            · show (sj (sj (si (si S 195 (nI (xSz X 20 0)) 0) 196 (nI (xSz X 20 0)) (-1)) 197 (nI (xSz X 20 0)) 0) 198 (nI (xSz X 20 0)) 0).1 195 (xSz X 20 0) = gn (sI (rI (rI (sI M 0 0) 4 (mI M 3) (-1)) 5 (mI M 3) p2) 3 ((mI M 3) + 1)) 6 (xSz X 20 0); rw [sj_i, sj_i, si_an rfl, si_at (by omega), ho 6 _ ⟨by decide, by decide⟩]; exact (hz6).symm
          · have h9 : ∀ t ∈ TJ, t.2.2 = 0 → t = (197, 8, 0) ∨ t = (198, 9, 0) := by decide
            rcases h9 t ht e9 with rfl | rfl
            · show (sj (sj (si (si S 195 (nI (xSz X 20 0)) 0) 196 (nI (xSz X 20 0)) (-1)) 197 (nI (xSz X 20 0)) 0) 198 (nI (xSz X 20 0)) 0).2 197 (xSz X 20 0) = gl M 8 (xSz X 20 0); rw [sj_an rfl, sj_at (by omega)]; exact (hz8).symm
            · show (sj (sj (si (si S 195 (nI (xSz X 20 0)) 0) 196 (nI (xSz X 20 0)) (-1)) 197 (nI (xSz X 20 0)) 0) 198 (nI (xSz X 20 0)) 0).2 198 (xSz X 20 0) = gl M 9 (xSz X 20 0); rw [sj_at (by omega)]; exact (hz9).symm
          · have h9 : ∀ t ∈ TF, t.2.2 = 0 → t = (193, 4, 0) ∨ t = (194, 5, 0) := by decide
            rcases h9 t ht e9 with rfl | rfl
            · rw [hY, g4]; show xFi (fiX (fiX (fiX X 192 (xSz X 20 0) (nI (xSz X 20 0))) 193 (xSz X 20 0) (-1)) 194 (xSz X 20 0) p2) 193 (xSz X 20 0) = _; rw [fi_sn rfl, fi_ss]
            · rw [hY, g5]; show xFi (fiX (fiX (fiX X 192 (xSz X 20 0) (nI (xSz X 20 0))) 193 (xSz X 20 0) (-1)) 194 (xSz X 20 0) p2) 194 (xSz X 20 0) = _; rw [fi_ss]
          · have h9 : ∀ t ∈ TG, t.2.2 ≠ 0 := by decide
            exact absurd e9 (h9 t ht)
          · have hs : ∀ L j, ¬ (L = 20 ∧ j = 0) → xSz X2 L j = xSz X L j := fun L j y => by
              rw [hN.2.2.2.2.1]
              exact if_neg y
            have hs1 : xSz X2 20 0 = (xSz X 20 0) + 1 := by rw [hN.2.2.2.2.1]; exact if_pos ⟨rfl, rfl⟩
            refine ⟨⟨by rw [hs1]; show mI M 3 + 1 = _; rw [en, nI_1], by rw [hs 24 0 (by omega)]; exact h.z14.symm, by rw [hs 25 0 (by omega)]; exact h.z39.symm, by rw [hs 26 0 (by omega)]; exact h.z57.symm, by rw [hs 27 0 (by omega)]; exact h.z59.symm⟩, fun r hr => ?_⟩
            rw [hs 24 0 (by omega)] at hr
            rw [hs 29 r (by omega), ho 18 r ⟨by decide, by decide⟩]
            exact h.2.2.2.1.2 r hr
          · show S.1 362 0 = if mI M 3 + 1 = 0 then -1 else mI M 10
            rw [if_neg (by rw [en, nI_1]; exact nI_ne0 (by omega) (by omega))]
            exact hrc.trans (if_neg h3)
          · exact ho 23 i ⟨by decide, by decide⟩
    · rw [if_pos c1, if_neg c2, if_pos c1, if_neg c2]
      exact ⟨mI_sIs.trans xIAS_A.symm, h.thr⟩
  · by_cases c5 : P_isPerson p1 M
    · by_cases c6 : P_in p2 0 10000000
      · by_cases c7 : (mI M 3) = 12
        · rw [if_neg c1, if_pos ((h.n3 hL).mpr c5), if_pos c6, if_neg (fun z => ((h.l3 hL).mp z) c7), if_neg c1, if_pos c5, if_pos c6, if_pos c7]
          exact ⟨mI_sIs.trans xIAS_S.symm, h.thr⟩
        · by_cases c8 : (ci (s_person X S p1 p2) 362 0) = -1
          · rw [if_neg c1, if_pos ((h.n3 hL).mpr c5), if_pos c6, if_pos ((h.l3 hL).mpr c7), if_pos c8, if_neg c1, if_pos c5, if_pos c6, if_neg c7]
            have hrc : ci S 362 0 = if mI M 3 = 0 then -1 else mI M 10 := h.2.2.2.2.1.1
            have h3 : mI M 3 = 0 := by
              by_cases z : mI M 3 = 0
              · exact z
              · exfalso
                have h8 : ci S 362 0 = -1 := c8
                rw [hrc, if_neg z] at h8
                have h7 := (hc z).1
                rw [h8] at h7
                exact absurd h7 (by decide)
            have en : mI M 3 = nI (xSz X 20 0) := h.z3.symm
            have hb := hL.2.2.1
            have cl : (mI M 3).toNatClampNeg = (xSz X 20 0) := by rw [en, nI_clamp (by omega)]
            refine ⟨rfl, ?_, fun X2 hN => ?_⟩
            · rw [en, nI_1, nI_pred]
            have hg0 : ∀ j i, ¬ (rk j = 0 ∧ i = (xSz X 20 0)) → gn (sI (rI (rI (sI M 0 0) 4 (mI M 3) p1) 5 (mI M 3) p2) 3 ((mI M 3) + 1)) j i = gn M j i := fun j i y => by
              show gn (rI (rI (sI M 0 0) 4 (mI M 3) p1) 5 (mI M 3) p2) j i = gn M j i
              rw [gn_rI, if_neg (fun z => y ⟨by rw [z.1]; decide, by rw [z.2, cl]⟩), gn_rI, if_neg (fun z => y ⟨by rw [z.1]; decide, by rw [z.2, cl]⟩)]
              rfl
            have ho : ∀ j i, j ≠ 4 ∧ j ≠ 5 → gn (sI (rI (rI (sI M 0 0) 4 (mI M 3) p1) 5 (mI M 3) p2) 3 ((mI M 3) + 1)) j i = gn M j i := fun j i y => by
              show gn (rI (rI (sI M 0 0) 4 (mI M 3) p1) 5 (mI M 3) p2) j i = gn M j i
              rw [gn_rIn y.2, gn_rIn y.1]
              rfl
            have g4 : gn (sI (rI (rI (sI M 0 0) 4 (mI M 3) p1) 5 (mI M 3) p2) 3 ((mI M 3) + 1)) 4 (xSz X 20 0) = p1 := by
              show gn (rI (rI (sI M 0 0) 4 (mI M 3) p1) 5 (mI M 3) p2) 4 (xSz X 20 0) = p1
              rw [gn_rIn (by decide), gn_rI, if_pos ⟨rfl, cl.symm⟩]
            have g5 : gn (sI (rI (rI (sI M 0 0) 4 (mI M 3) p1) 5 (mI M 3) p2) 3 ((mI M 3) + 1)) 5 (xSz X 20 0) = p2 := by
              show gn (rI (rI (sI M 0 0) 4 (mI M 3) p1) 5 (mI M 3) p2) 5 (xSz X 20 0) = p2
              rw [gn_rI, if_pos ⟨rfl, cl.symm⟩]
            have hY : xFi X2 = xFi (y_person X p1 p2) := hN.2.2.1
            have hYj : xFj X2 = xFj (y_person X p1 p2) := hN.2.2.2.1
            refine RR_new (c := 0) (n := (xSz X 20 0)) h ⟨by decide, by decide⟩ (fun c9 i hi => ?_) ?_ (fun f i f362 y => ?_) (fun f i y => ?_) (fun f i y => ?_) (fun f i y => ?_) hg0 (fun _ _ _ => rfl) (fun j _ _ _ _ _ => ?_) rfl (fun t ht e9 => ?_) (fun t ht e9 => ?_) (fun t ht e9 => ?_) (fun t ht e9 => ?_) (fun _ => by rw [hY]; exact (fi_sn rfl).trans ((fi_sn rfl).trans fi_ss)) ?_ ?_ (fun _ => Or.inl ⟨(ho 6 _ ⟨by decide, by decide⟩).trans hz6, by show (si (si (si S 195 (nI (xSz X 20 0)) 0) 196 (nI (xSz X 20 0)) (-1)) 362 0 (nI (xSz X 20 0))).1 196 (xSz X 20 0) = -1; rw [s1_sn (by decide), s1_si, if_pos ⟨rfl, (nI_clamp (by omega)).symm⟩]⟩) (fun z => absurd z (by decide)) (fun i => ?_) (fun i _ => Or.inr (by decide))
            · by_cases e9 : c9 = 0
              · subst e9
                have h8 : i < ((mI M 3) + 1).toNatClampNeg := hi
                rw [en, nI_1, nI_clamp (by omega)] at h8
                by_cases e8 : i = (xSz X 20 0)
                · exact Or.inr ⟨rfl, e8⟩
                · refine Or.inl ?_
                  show i < cnt M 3
                  rw [h.c3 hL]
                  omega
              · exact Or.inl (dm_0.mp (((dm_rI (by decide)).mp ((dm_rI (by decide)).mp ((dm_s3 e9).mp hi)))))
            · show ¬ (xSz X 20 0) < cnt M 3
              rw [h.c3 hL]
              omega
            · show (si (sj (sj (si (si S 195 (nI (xSz X 20 0)) 0) 196 (nI (xSz X 20 0)) (-1)) 197 (nI (xSz X 20 0)) 0) 198 (nI (xSz X 20 0)) 0) 362 0 (nI (xSz X 20 0))).1 f i = S.1 f i
              rw [s1_sn f362, sj_i, sj_i, s1_si, if_neg (fun z => y ⟨by rw [z.1]; decide, by rw [z.2, nI_clamp (by omega)]⟩), s1_si, if_neg (fun z => y ⟨by rw [z.1]; decide, by rw [z.2, nI_clamp (by omega)]⟩)]
            · show (si (sj (sj (si (si S 195 (nI (xSz X 20 0)) 0) 196 (nI (xSz X 20 0)) (-1)) 197 (nI (xSz X 20 0)) 0) 198 (nI (xSz X 20 0)) 0) 362 0 (nI (xSz X 20 0))).2 f i = S.2 f i
              rw [si_j, s2_sj, if_neg (fun z => y ⟨by rw [z.1]; decide, by rw [z.2, nI_clamp (by omega)]⟩), s2_sj, if_neg (fun z => y ⟨by rw [z.1]; decide, by rw [z.2, nI_clamp (by omega)]⟩), si_j, si_j]
            · rw [hY]
              show xFi (fiX (fiX (fiX X 192 (xSz X 20 0) (nI (xSz X 20 0))) 193 (xSz X 20 0) p1) 194 (xSz X 20 0) p2) f i = xFi X f i
              rw [fi_o (fun z => y ⟨by rw [z.1]; decide, z.2⟩), fi_o (fun z => y ⟨by rw [z.1]; decide, z.2⟩), fi_o (fun z => y ⟨by rw [z.1]; decide, z.2⟩)]
            · rw [hYj]
              show xFj (fiX (fiX (fiX X 192 (xSz X 20 0) (nI (xSz X 20 0))) 193 (xSz X 20 0) p1) 194 (xSz X 20 0) p2) f i = xFj X f i
              rfl
            · show (if j = 3 then _ else if j = 0 then _ else _) = _
              rw [if_neg (by assumption), if_neg (by assumption)]
              rfl
            · have h9 : ∀ t ∈ TI, t.2.2 = 0 → t = (195, 6, 0) := by decide
              rcases h9 t ht e9 with rfl
              · show (si (sj (sj (si (si S 195 (nI (xSz X 20 0)) 0) 196 (nI (xSz X 20 0)) (-1)) 197 (nI (xSz X 20 0)) 0) 198 (nI (xSz X 20 0)) 0) 362 0 (nI (xSz X 20 0))).1 195 (xSz X 20 0) = gn (sI (rI (rI (sI M 0 0) 4 (mI M 3) p1) 5 (mI M 3) p2) 3 ((mI M 3) + 1)) 6 (xSz X 20 0); rw [si_an rfl, sj_i, sj_i, si_an rfl, si_at (by omega), ho 6 _ ⟨by decide, by decide⟩]; exact (hz6).symm
            · have h9 : ∀ t ∈ TJ, t.2.2 = 0 → t = (197, 8, 0) ∨ t = (198, 9, 0) := by decide
              rcases h9 t ht e9 with rfl | rfl
              · show (si (sj (sj (si (si S 195 (nI (xSz X 20 0)) 0) 196 (nI (xSz X 20 0)) (-1)) 197 (nI (xSz X 20 0)) 0) 198 (nI (xSz X 20 0)) 0) 362 0 (nI (xSz X 20 0))).2 197 (xSz X 20 0) = gl M 8 (xSz X 20 0); rw [si_j, sj_an rfl, sj_at (by omega)]; exact (hz8).symm
              · show (si (sj (sj (si (si S 195 (nI (xSz X 20 0)) 0) 196 (nI (xSz X 20 0)) (-1)) 197 (nI (xSz X 20 0)) 0) 198 (nI (xSz X 20 0)) 0) 362 0 (nI (xSz X 20 0))).2 198 (xSz X 20 0) = gl M 9 (xSz X 20 0); rw [si_j, sj_at (by omega)]; exact (hz9).symm
            · have h9 : ∀ t ∈ TF, t.2.2 = 0 → t = (193, 4, 0) ∨ t = (194, 5, 0) := by decide
              rcases h9 t ht e9 with rfl | rfl
              · rw [hY, g4]; show xFi (fiX (fiX (fiX X 192 (xSz X 20 0) (nI (xSz X 20 0))) 193 (xSz X 20 0) p1) 194 (xSz X 20 0) p2) 193 (xSz X 20 0) = _; rw [fi_sn rfl, fi_ss]
              · rw [hY, g5]; show xFi (fiX (fiX (fiX X 192 (xSz X 20 0) (nI (xSz X 20 0))) 193 (xSz X 20 0) p1) 194 (xSz X 20 0) p2) 194 (xSz X 20 0) = _; rw [fi_ss]
            · have h9 : ∀ t ∈ TG, t.2.2 ≠ 0 := by decide
              exact absurd e9 (h9 t ht)
            · have hs : ∀ L j, ¬ (L = 20 ∧ j = 0) → xSz X2 L j = xSz X L j := fun L j y => by
                rw [hN.2.2.2.2.1]
                exact if_neg y
              have hs1 : xSz X2 20 0 = (xSz X 20 0) + 1 := by rw [hN.2.2.2.2.1]; exact if_pos ⟨rfl, rfl⟩
              refine ⟨⟨by rw [hs1]; show mI M 3 + 1 = _; rw [en, nI_1], by rw [hs 24 0 (by omega)]; exact h.z14.symm, by rw [hs 25 0 (by omega)]; exact h.z39.symm, by rw [hs 26 0 (by omega)]; exact h.z57.symm, by rw [hs 27 0 (by omega)]; exact h.z59.symm⟩, fun r hr => ?_⟩
              rw [hs 24 0 (by omega)] at hr
              rw [hs 29 r (by omega), ho 18 r ⟨by decide, by decide⟩]
              exact h.2.2.2.1.2 r hr
            · have e0 : (xSz X 20 0) = 0 := by
                have h8 := h3
                rw [en] at h8
                have h7 := (nI_eq (a := (xSz X 20 0)) (b := 0) (by omega) (by omega)).mp (h8.trans nI_0.symm)
                exact h7
              show (si _ 362 0 (nI (xSz X 20 0))).1 362 0 = if mI M 3 + 1 = 0 then -1 else mI M 10
              rw [s1_si, if_pos ⟨rfl, by decide⟩, h3, hk h3, e0]
              decide
            · exact ho 23 i ⟨by decide, by decide⟩
          · rw [if_neg c1, if_pos ((h.n3 hL).mpr c5), if_pos c6, if_pos ((h.l3 hL).mpr c7), if_neg c8, if_neg c1, if_pos c5, if_pos c6, if_neg c7]
            have hrc : ci S 362 0 = if mI M 3 = 0 then -1 else mI M 10 := h.2.2.2.2.1.1
            have h3 : ¬ mI M 3 = 0 := fun z => c8 (hrc.trans (if_pos z))
            have en : mI M 3 = nI (xSz X 20 0) := h.z3.symm
            have hb := hL.2.2.1
            have cl : (mI M 3).toNatClampNeg = (xSz X 20 0) := by rw [en, nI_clamp (by omega)]
            refine ⟨rfl, ?_, fun X2 hN => ?_⟩
            · rw [en, nI_1, nI_pred]
            have hg0 : ∀ j i, ¬ (rk j = 0 ∧ i = (xSz X 20 0)) → gn (sI (rI (rI (sI M 0 0) 4 (mI M 3) p1) 5 (mI M 3) p2) 3 ((mI M 3) + 1)) j i = gn M j i := fun j i y => by
              show gn (rI (rI (sI M 0 0) 4 (mI M 3) p1) 5 (mI M 3) p2) j i = gn M j i
              rw [gn_rI, if_neg (fun z => y ⟨by rw [z.1]; decide, by rw [z.2, cl]⟩), gn_rI, if_neg (fun z => y ⟨by rw [z.1]; decide, by rw [z.2, cl]⟩)]
              rfl
            have ho : ∀ j i, j ≠ 4 ∧ j ≠ 5 → gn (sI (rI (rI (sI M 0 0) 4 (mI M 3) p1) 5 (mI M 3) p2) 3 ((mI M 3) + 1)) j i = gn M j i := fun j i y => by
              show gn (rI (rI (sI M 0 0) 4 (mI M 3) p1) 5 (mI M 3) p2) j i = gn M j i
              rw [gn_rIn y.2, gn_rIn y.1]
              rfl
            have g4 : gn (sI (rI (rI (sI M 0 0) 4 (mI M 3) p1) 5 (mI M 3) p2) 3 ((mI M 3) + 1)) 4 (xSz X 20 0) = p1 := by
              show gn (rI (rI (sI M 0 0) 4 (mI M 3) p1) 5 (mI M 3) p2) 4 (xSz X 20 0) = p1
              rw [gn_rIn (by decide), gn_rI, if_pos ⟨rfl, cl.symm⟩]
            have g5 : gn (sI (rI (rI (sI M 0 0) 4 (mI M 3) p1) 5 (mI M 3) p2) 3 ((mI M 3) + 1)) 5 (xSz X 20 0) = p2 := by
              show gn (rI (rI (sI M 0 0) 4 (mI M 3) p1) 5 (mI M 3) p2) 5 (xSz X 20 0) = p2
              rw [gn_rI, if_pos ⟨rfl, cl.symm⟩]
            have hY : xFi X2 = xFi (y_person X p1 p2) := hN.2.2.1
            have hYj : xFj X2 = xFj (y_person X p1 p2) := hN.2.2.2.1
            refine RR_new (c := 0) (n := (xSz X 20 0)) h ⟨by decide, by decide⟩ (fun c9 i hi => ?_) ?_ (fun f i f362 y => ?_) (fun f i y => ?_) (fun f i y => ?_) (fun f i y => ?_) hg0 (fun _ _ _ => rfl) (fun j _ _ _ _ _ => ?_) rfl (fun t ht e9 => ?_) (fun t ht e9 => ?_) (fun t ht e9 => ?_) (fun t ht e9 => ?_) (fun _ => by rw [hY]; exact (fi_sn rfl).trans ((fi_sn rfl).trans fi_ss)) ?_ ?_ (fun _ => Or.inl ⟨(ho 6 _ ⟨by decide, by decide⟩).trans hz6, by show ((si (si S 195 (nI (xSz X 20 0)) 0) 196 (nI (xSz X 20 0)) (-1))).1 196 (xSz X 20 0) = -1; rw [s1_si, if_pos ⟨rfl, (nI_clamp (by omega)).symm⟩]⟩) (fun z => absurd z (by decide)) (fun i => ?_) (fun i _ => Or.inr (by decide))
            · by_cases e9 : c9 = 0
              · subst e9
                have h8 : i < ((mI M 3) + 1).toNatClampNeg := hi
                rw [en, nI_1, nI_clamp (by omega)] at h8
                by_cases e8 : i = (xSz X 20 0)
                · exact Or.inr ⟨rfl, e8⟩
                · refine Or.inl ?_
                  show i < cnt M 3
                  rw [h.c3 hL]
                  omega
              · exact Or.inl (dm_0.mp (((dm_rI (by decide)).mp ((dm_rI (by decide)).mp ((dm_s3 e9).mp hi)))))
            · show ¬ (xSz X 20 0) < cnt M 3
              rw [h.c3 hL]
              omega
            · show (sj (sj (si (si S 195 (nI (xSz X 20 0)) 0) 196 (nI (xSz X 20 0)) (-1)) 197 (nI (xSz X 20 0)) 0) 198 (nI (xSz X 20 0)) 0).1 f i = S.1 f i
              rw [sj_i, sj_i, s1_si, if_neg (fun z => y ⟨by rw [z.1]; decide, by rw [z.2, nI_clamp (by omega)]⟩), s1_si, if_neg (fun z => y ⟨by rw [z.1]; decide, by rw [z.2, nI_clamp (by omega)]⟩)]
            · show (sj (sj (si (si S 195 (nI (xSz X 20 0)) 0) 196 (nI (xSz X 20 0)) (-1)) 197 (nI (xSz X 20 0)) 0) 198 (nI (xSz X 20 0)) 0).2 f i = S.2 f i
              rw [s2_sj, if_neg (fun z => y ⟨by rw [z.1]; decide, by rw [z.2, nI_clamp (by omega)]⟩), s2_sj, if_neg (fun z => y ⟨by rw [z.1]; decide, by rw [z.2, nI_clamp (by omega)]⟩), si_j, si_j]
            · rw [hY]
              show xFi (fiX (fiX (fiX X 192 (xSz X 20 0) (nI (xSz X 20 0))) 193 (xSz X 20 0) p1) 194 (xSz X 20 0) p2) f i = xFi X f i
              rw [fi_o (fun z => y ⟨by rw [z.1]; decide, z.2⟩), fi_o (fun z => y ⟨by rw [z.1]; decide, z.2⟩), fi_o (fun z => y ⟨by rw [z.1]; decide, z.2⟩)]
            · rw [hYj]
              show xFj (fiX (fiX (fiX X 192 (xSz X 20 0) (nI (xSz X 20 0))) 193 (xSz X 20 0) p1) 194 (xSz X 20 0) p2) f i = xFj X f i
              rfl
            · show (if j = 3 then _ else if j = 0 then _ else _) = _
              rw [if_neg (by assumption), if_neg (by assumption)]
              rfl
            · have h9 : ∀ t ∈ TI, t.2.2 = 0 → t = (195, 6, 0) := by decide
              rcases h9 t ht e9 with rfl
              · show (sj (sj (si (si S 195 (nI (xSz X 20 0)) 0) 196 (nI (xSz X 20 0)) (-1)) 197 (nI (xSz X 20 0)) 0) 198 (nI (xSz X 20 0)) 0).1 195 (xSz X 20 0) = gn (sI (rI (rI (sI M 0 0) 4 (mI M 3) p1) 5 (mI M 3) p2) 3 ((mI M 3) + 1)) 6 (xSz X 20 0); rw [sj_i, sj_i, si_an rfl, si_at (by omega), ho 6 _ ⟨by decide, by decide⟩]; exact (hz6).symm
            · have h9 : ∀ t ∈ TJ, t.2.2 = 0 → t = (197, 8, 0) ∨ t = (198, 9, 0) := by decide
              rcases h9 t ht e9 with rfl | rfl
              · show (sj (sj (si (si S 195 (nI (xSz X 20 0)) 0) 196 (nI (xSz X 20 0)) (-1)) 197 (nI (xSz X 20 0)) 0) 198 (nI (xSz X 20 0)) 0).2 197 (xSz X 20 0) = gl M 8 (xSz X 20 0); rw [sj_an rfl, sj_at (by omega)]; exact (hz8).symm
              · show (sj (sj (si (si S 195 (nI (xSz X 20 0)) 0) 196 (nI (xSz X 20 0)) (-1)) 197 (nI (xSz X 20 0)) 0) 198 (nI (xSz X 20 0)) 0).2 198 (xSz X 20 0) = gl M 9 (xSz X 20 0); rw [sj_at (by omega)]; exact (hz9).symm
            · have h9 : ∀ t ∈ TF, t.2.2 = 0 → t = (193, 4, 0) ∨ t = (194, 5, 0) := by decide
              rcases h9 t ht e9 with rfl | rfl
              · rw [hY, g4]; show xFi (fiX (fiX (fiX X 192 (xSz X 20 0) (nI (xSz X 20 0))) 193 (xSz X 20 0) p1) 194 (xSz X 20 0) p2) 193 (xSz X 20 0) = _; rw [fi_sn rfl, fi_ss]
              · rw [hY, g5]; show xFi (fiX (fiX (fiX X 192 (xSz X 20 0) (nI (xSz X 20 0))) 193 (xSz X 20 0) p1) 194 (xSz X 20 0) p2) 194 (xSz X 20 0) = _; rw [fi_ss]
            · have h9 : ∀ t ∈ TG, t.2.2 ≠ 0 := by decide
              exact absurd e9 (h9 t ht)
            · have hs : ∀ L j, ¬ (L = 20 ∧ j = 0) → xSz X2 L j = xSz X L j := fun L j y => by
                rw [hN.2.2.2.2.1]
                exact if_neg y
              have hs1 : xSz X2 20 0 = (xSz X 20 0) + 1 := by rw [hN.2.2.2.2.1]; exact if_pos ⟨rfl, rfl⟩
              refine ⟨⟨by rw [hs1]; show mI M 3 + 1 = _; rw [en, nI_1], by rw [hs 24 0 (by omega)]; exact h.z14.symm, by rw [hs 25 0 (by omega)]; exact h.z39.symm, by rw [hs 26 0 (by omega)]; exact h.z57.symm, by rw [hs 27 0 (by omega)]; exact h.z59.symm⟩, fun r hr => ?_⟩
              rw [hs 24 0 (by omega)] at hr
              rw [hs 29 r (by omega), ho 18 r ⟨by decide, by decide⟩]
              exact h.2.2.2.1.2 r hr
            · show S.1 362 0 = if mI M 3 + 1 = 0 then -1 else mI M 10
              rw [if_neg (by rw [en, nI_1]; exact nI_ne0 (by omega) (by omega))]
              exact hrc.trans (if_neg h3)
            · exact ho 23 i ⟨by decide, by decide⟩
      · rw [if_neg c1, if_pos ((h.n3 hL).mpr c5), if_neg c6, if_neg c1, if_pos c5, if_neg c6]
        exact ⟨mI_sIs.trans xIAS_A.symm, h.thr⟩
    · rw [if_neg c1, if_neg (fun z => c5 ((h.n3 hL).mp z)), if_neg c1, if_neg c5]
      exact ⟨mI_sIs.trans xIAS_I.symm, h.thr⟩
theorem dm_s14 {M : MS} {c i : Nat} {v : Int32} (h : c ≠ 1) (h9 : c ≠ 9) : dm (sI M 14 v) c i ↔ dm M c i := by
  unfold dm cnt
  split <;> first | exact Iff.rfl | exact absurd rfl h | exact absurd rfl h9
set_option maxRecDepth 100000 in
theorem eq_request {X : CX} {S : CT} {M : MS} {p1 : Int32} {p2 : Int32} (hX : XOK X) (hL : LVX X) (h : RR X S M) (hI : ∀ i, dm M 2 i → (gn M 40 i).toNatClampNeg / 4 < xSz X 24 0) (hz17 : gn M 17 (xSz X 24 0) = 0) (hz18 : gn M 18 (xSz X 24 0) = 0) (hz24 : gn M 24 (xSz X 24 0) = 0) (hz25 : gn M 25 (xSz X 24 0) = 0) (hz19 : gl M 19 (xSz X 24 0) = 0) (hz22 : gl M 22 (xSz X 24 0) = 0) : EQa X S xcIS (y_request X p1 p2) 24 0 (k_request p1 p2 X S) (f_request p1 p2 M) := by
  unfold k_request f_request
  by_cases c1 : P_isPerson p1 M
  · by_cases c2 : P_isCentre p2
    · by_cases c3 : (mI M 14) = 40
      · rw [if_pos ((h.n3 hL).mpr c1), if_pos ((num_cent hL).mpr c2), if_neg (fun z => ((h.l14 hL).mp z) c3), if_pos c1, if_pos c2, if_pos c3]
        exact ⟨mI_sIs.trans xIS_S.symm, h.thr⟩
      · rw [if_pos ((h.n3 hL).mpr c1), if_pos ((num_cent hL).mpr c2), if_pos ((h.l14 hL).mpr c3), if_pos c1, if_pos c2, if_neg c3]
        have en : mI M 14 = nI (xSz X 24 0) := h.z14.symm
        have hb := hL.2.2.1
        have cl : (mI M 14).toNatClampNeg = (xSz X 24 0) := by rw [en, nI_clamp (by omega)]
        refine ⟨rfl, ?_, fun X2 hN => ?_⟩
        · rw [en, nI_1]
        have hg0 : ∀ j i, ¬ (rk j = 1 ∧ i = (xSz X 24 0)) → gn (sI (rI (rI (rI (rI (rI (sI M 0 0) 15 (mI M 14) p1) 16 (mI M 14) p2) 20 (mI M 14) (-1)) 21 (mI M 14) (-1)) 26 (mI M 14) (-1)) 14 ((mI M 14) + 1)) j i = gn M j i := fun j i y => by
          show gn (rI (rI (rI (rI (rI (sI M 0 0) 15 (mI M 14) p1) 16 (mI M 14) p2) 20 (mI M 14) (-1)) 21 (mI M 14) (-1)) 26 (mI M 14) (-1)) j i = gn M j i
          rw [gn_rI, if_neg (fun z => y ⟨by rw [z.1]; decide, by rw [z.2, cl]⟩), gn_rI, if_neg (fun z => y ⟨by rw [z.1]; decide, by rw [z.2, cl]⟩), gn_rI, if_neg (fun z => y ⟨by rw [z.1]; decide, by rw [z.2, cl]⟩), gn_rI, if_neg (fun z => y ⟨by rw [z.1]; decide, by rw [z.2, cl]⟩), gn_rI, if_neg (fun z => y ⟨by rw [z.1]; decide, by rw [z.2, cl]⟩)]
          rfl
        have ho : ∀ j i, j ≠ 15 ∧ j ≠ 16 ∧ j ≠ 20 ∧ j ≠ 21 ∧ j ≠ 26 → gn (sI (rI (rI (rI (rI (rI (sI M 0 0) 15 (mI M 14) p1) 16 (mI M 14) p2) 20 (mI M 14) (-1)) 21 (mI M 14) (-1)) 26 (mI M 14) (-1)) 14 ((mI M 14) + 1)) j i = gn M j i := fun j i y => by
          show gn (rI (rI (rI (rI (rI (sI M 0 0) 15 (mI M 14) p1) 16 (mI M 14) p2) 20 (mI M 14) (-1)) 21 (mI M 14) (-1)) 26 (mI M 14) (-1)) j i = gn M j i
          rw [gn_rIn y.2.2.2.2, gn_rIn y.2.2.2.1, gn_rIn y.2.2.1, gn_rIn y.2.1, gn_rIn y.1]
          rfl
        have g15 : gn (sI (rI (rI (rI (rI (rI (sI M 0 0) 15 (mI M 14) p1) 16 (mI M 14) p2) 20 (mI M 14) (-1)) 21 (mI M 14) (-1)) 26 (mI M 14) (-1)) 14 ((mI M 14) + 1)) 15 (xSz X 24 0) = p1 := by
          show gn (rI (rI (rI (rI (rI (sI M 0 0) 15 (mI M 14) p1) 16 (mI M 14) p2) 20 (mI M 14) (-1)) 21 (mI M 14) (-1)) 26 (mI M 14) (-1)) 15 (xSz X 24 0) = p1
          rw [gn_rIn (by decide), gn_rIn (by decide), gn_rIn (by decide), gn_rIn (by decide), gn_rI, if_pos ⟨rfl, cl.symm⟩]
        have g16 : gn (sI (rI (rI (rI (rI (rI (sI M 0 0) 15 (mI M 14) p1) 16 (mI M 14) p2) 20 (mI M 14) (-1)) 21 (mI M 14) (-1)) 26 (mI M 14) (-1)) 14 ((mI M 14) + 1)) 16 (xSz X 24 0) = p2 := by
          show gn (rI (rI (rI (rI (rI (sI M 0 0) 15 (mI M 14) p1) 16 (mI M 14) p2) 20 (mI M 14) (-1)) 21 (mI M 14) (-1)) 26 (mI M 14) (-1)) 16 (xSz X 24 0) = p2
          rw [gn_rIn (by decide), gn_rIn (by decide), gn_rIn (by decide), gn_rI, if_pos ⟨rfl, cl.symm⟩]
        have g20 : gn (sI (rI (rI (rI (rI (rI (sI M 0 0) 15 (mI M 14) p1) 16 (mI M 14) p2) 20 (mI M 14) (-1)) 21 (mI M 14) (-1)) 26 (mI M 14) (-1)) 14 ((mI M 14) + 1)) 20 (xSz X 24 0) = (-1) := by
          show gn (rI (rI (rI (rI (rI (sI M 0 0) 15 (mI M 14) p1) 16 (mI M 14) p2) 20 (mI M 14) (-1)) 21 (mI M 14) (-1)) 26 (mI M 14) (-1)) 20 (xSz X 24 0) = (-1)
          rw [gn_rIn (by decide), gn_rIn (by decide), gn_rI, if_pos ⟨rfl, cl.symm⟩]
        have g21 : gn (sI (rI (rI (rI (rI (rI (sI M 0 0) 15 (mI M 14) p1) 16 (mI M 14) p2) 20 (mI M 14) (-1)) 21 (mI M 14) (-1)) 26 (mI M 14) (-1)) 14 ((mI M 14) + 1)) 21 (xSz X 24 0) = (-1) := by
          show gn (rI (rI (rI (rI (rI (sI M 0 0) 15 (mI M 14) p1) 16 (mI M 14) p2) 20 (mI M 14) (-1)) 21 (mI M 14) (-1)) 26 (mI M 14) (-1)) 21 (xSz X 24 0) = (-1)
          rw [gn_rIn (by decide), gn_rI, if_pos ⟨rfl, cl.symm⟩]
        have g26 : gn (sI (rI (rI (rI (rI (rI (sI M 0 0) 15 (mI M 14) p1) 16 (mI M 14) p2) 20 (mI M 14) (-1)) 21 (mI M 14) (-1)) 26 (mI M 14) (-1)) 14 ((mI M 14) + 1)) 26 (xSz X 24 0) = (-1) := by
          show gn (rI (rI (rI (rI (rI (sI M 0 0) 15 (mI M 14) p1) 16 (mI M 14) p2) 20 (mI M 14) (-1)) 21 (mI M 14) (-1)) 26 (mI M 14) (-1)) 26 (xSz X 24 0) = (-1)
          rw [gn_rI, if_pos ⟨rfl, cl.symm⟩]
        have hY : xFi X2 = xFi (y_request X p1 p2) := hN.2.2.1
        have hYj : xFj X2 = xFj (y_request X p1 p2) := hN.2.2.2.1
        refine RR_new (c := 1) (n := (xSz X 24 0)) h ⟨by decide, by decide⟩ (fun c9 i hi => ?_) ?_ (fun f i f362 y => ?_) (fun f i y => ?_) (fun f i y => ?_) (fun f i y => ?_) hg0 (fun _ _ _ => rfl) (fun j _ _ _ _ _ => ?_) rfl (fun t ht e9 => ?_) (fun t ht e9 => ?_) (fun t ht e9 => ?_) (fun t ht e9 => ?_) (fun z => absurd z (by decide)) ?_ ?_ (fun z => absurd z (by decide)) (fun _ => by
              rw [ho 24 _ ⟨by decide, by decide, by decide, by decide, by decide⟩, ho 25 _ ⟨by decide, by decide, by decide, by decide, by decide⟩, hz24, hz25, if_pos (by decide)]
              show (sj (si (si (si (sj (si (si S 259 (nI (xSz X 24 0)) 0) 260 (nI (xSz X 24 0)) (-1)) 261 (nI (xSz X 24 0)) 0) 262 (nI (xSz X 24 0)) (-1)) 263 (nI (xSz X 24 0)) (-1)) 264 (nI (xSz X 24 0)) (-1)) 265 (nI (xSz X 24 0)) 0).1 262 (xSz X 24 0) = -1
              rw [sj_i, si_an rfl, si_an rfl, si_at (by omega)]) (fun i => ?_) (fun i hi => Or.inl (by have := hI i hi; omega))
        · by_cases e9 : c9 = 1
          · subst e9
            have h8 : i < ((mI M 14) + 1).toNatClampNeg := hi
            rw [en, nI_1, nI_clamp (by omega)] at h8
            by_cases e8 : i = (xSz X 24 0)
            · exact Or.inr ⟨rfl, e8⟩
            · refine Or.inl ?_
              show i < cnt M 14
              rw [h.c14 hL]
              omega
          · by_cases e7 : c9 = 9
            · subst e7
              obtain ⟨h8a, h8b⟩ : i / 4 < ((mI M 14) + 1).toNatClampNeg ∧ i % 4 < (gn (sI (rI (rI (rI (rI (rI (sI M 0 0) 15 (mI M 14) p1) 16 (mI M 14) p2) 20 (mI M 14) (-1)) 21 (mI M 14) (-1)) 26 (mI M 14) (-1)) 14 ((mI M 14) + 1)) 18 (i / 4)).toNatClampNeg := hi
              rw [en, nI_1, nI_clamp (by omega)] at h8a
              rw [ho 18 _ ⟨by decide, by decide, by decide, by decide, by decide⟩] at h8b
              refine Or.inl ?_
              show i / 4 < cnt M 14 ∧ i % 4 < (gn M 18 (i / 4)).toNatClampNeg
              rw [h.c14 hL]
              refine ⟨?_, h8b⟩
              by_cases e6 : i / 4 = (xSz X 24 0)
              · exfalso
                have h7 := h8b
                rw [e6, hz18] at h7
                exact absurd h7 (by rw [show (0 : Int32).toNatClampNeg = 0 by decide]; omega)
              · omega
            · exact Or.inl (dm_0.mp ((dm_rI (by decide)).mp ((dm_rI (by decide)).mp ((dm_rI (by decide)).mp ((dm_rI (by decide)).mp ((dm_rI (by decide)).mp ((dm_s14 e9 e7).mp hi)))))))
        · show ¬ (xSz X 24 0) < cnt M 14
          rw [h.c14 hL]
          omega
        · show (sj (si (si (si (sj (si (si S 259 (nI (xSz X 24 0)) 0) 260 (nI (xSz X 24 0)) (-1)) 261 (nI (xSz X 24 0)) 0) 262 (nI (xSz X 24 0)) (-1)) 263 (nI (xSz X 24 0)) (-1)) 264 (nI (xSz X 24 0)) (-1)) 265 (nI (xSz X 24 0)) 0).1 f i = S.1 f i
          rw [sj_i, s1_si, if_neg (fun z => y ⟨by rw [z.1]; decide, by rw [z.2, nI_clamp (by omega)]⟩), s1_si, if_neg (fun z => y ⟨by rw [z.1]; decide, by rw [z.2, nI_clamp (by omega)]⟩), s1_si, if_neg (fun z => y ⟨by rw [z.1]; decide, by rw [z.2, nI_clamp (by omega)]⟩), sj_i, s1_si, if_neg (fun z => y ⟨by rw [z.1]; decide, by rw [z.2, nI_clamp (by omega)]⟩), s1_si, if_neg (fun z => y ⟨by rw [z.1]; decide, by rw [z.2, nI_clamp (by omega)]⟩)]
        · show (sj (si (si (si (sj (si (si S 259 (nI (xSz X 24 0)) 0) 260 (nI (xSz X 24 0)) (-1)) 261 (nI (xSz X 24 0)) 0) 262 (nI (xSz X 24 0)) (-1)) 263 (nI (xSz X 24 0)) (-1)) 264 (nI (xSz X 24 0)) (-1)) 265 (nI (xSz X 24 0)) 0).2 f i = S.2 f i
          rw [s2_sj, if_neg (fun z => y ⟨by rw [z.1]; decide, by rw [z.2, nI_clamp (by omega)]⟩), si_j, si_j, si_j, s2_sj, if_neg (fun z => y ⟨by rw [z.1]; decide, by rw [z.2, nI_clamp (by omega)]⟩), si_j, si_j]
        · rw [hY]
          show xFi (fiX (fiX (lsX X 29 (xSz X 24 0) 0 0 0) 256 (xSz X 24 0) p1) 257 (xSz X 24 0) p2) f i = xFi X f i
          rw [fi_o (fun z => y ⟨by rw [z.1]; decide, z.2⟩), fi_o (fun z => y ⟨by rw [z.1]; decide, z.2⟩)]
          rfl
        · rw [hYj]
          show xFj (fiX (fiX (lsX X 29 (xSz X 24 0) 0 0 0) 256 (xSz X 24 0) p1) 257 (xSz X 24 0) p2) f i = xFj X f i
          rfl
        · show (if j = 14 then _ else if j = 0 then _ else _) = _
          rw [if_neg (by assumption), if_neg (by assumption)]
          rfl
        · have h9 : ∀ t ∈ TI, t.2.2 = 1 → t = (259, 17, 1) ∨ t = (260, 20, 1) ∨ t = (263, 26, 1) ∨ t = (264, 21, 1) := by decide
          rcases h9 t ht e9 with rfl | rfl | rfl | rfl
          · show (sj (si (si (si (sj (si (si S 259 (nI (xSz X 24 0)) 0) 260 (nI (xSz X 24 0)) (-1)) 261 (nI (xSz X 24 0)) 0) 262 (nI (xSz X 24 0)) (-1)) 263 (nI (xSz X 24 0)) (-1)) 264 (nI (xSz X 24 0)) (-1)) 265 (nI (xSz X 24 0)) 0).1 259 (xSz X 24 0) = gn (sI (rI (rI (rI (rI (rI (sI M 0 0) 15 (mI M 14) p1) 16 (mI M 14) p2) 20 (mI M 14) (-1)) 21 (mI M 14) (-1)) 26 (mI M 14) (-1)) 14 ((mI M 14) + 1)) 17 (xSz X 24 0); rw [sj_i, si_an rfl, si_an rfl, si_an rfl, sj_i, si_an rfl, si_at (by omega), ho 17 _ ⟨by decide, by decide, by decide, by decide, by decide⟩]; exact (hz17).symm
          · show (sj (si (si (si (sj (si (si S 259 (nI (xSz X 24 0)) 0) 260 (nI (xSz X 24 0)) (-1)) 261 (nI (xSz X 24 0)) 0) 262 (nI (xSz X 24 0)) (-1)) 263 (nI (xSz X 24 0)) (-1)) 264 (nI (xSz X 24 0)) (-1)) 265 (nI (xSz X 24 0)) 0).1 260 (xSz X 24 0) = gn (sI (rI (rI (rI (rI (rI (sI M 0 0) 15 (mI M 14) p1) 16 (mI M 14) p2) 20 (mI M 14) (-1)) 21 (mI M 14) (-1)) 26 (mI M 14) (-1)) 14 ((mI M 14) + 1)) 20 (xSz X 24 0); rw [sj_i, si_an rfl, si_an rfl, si_an rfl, sj_i, si_at (by omega), g20]
          · show (sj (si (si (si (sj (si (si S 259 (nI (xSz X 24 0)) 0) 260 (nI (xSz X 24 0)) (-1)) 261 (nI (xSz X 24 0)) 0) 262 (nI (xSz X 24 0)) (-1)) 263 (nI (xSz X 24 0)) (-1)) 264 (nI (xSz X 24 0)) (-1)) 265 (nI (xSz X 24 0)) 0).1 263 (xSz X 24 0) = gn (sI (rI (rI (rI (rI (rI (sI M 0 0) 15 (mI M 14) p1) 16 (mI M 14) p2) 20 (mI M 14) (-1)) 21 (mI M 14) (-1)) 26 (mI M 14) (-1)) 14 ((mI M 14) + 1)) 26 (xSz X 24 0); rw [sj_i, si_an rfl, si_at (by omega), g26]
          · show (sj (si (si (si (sj (si (si S 259 (nI (xSz X 24 0)) 0) 260 (nI (xSz X 24 0)) (-1)) 261 (nI (xSz X 24 0)) 0) 262 (nI (xSz X 24 0)) (-1)) 263 (nI (xSz X 24 0)) (-1)) 264 (nI (xSz X 24 0)) (-1)) 265 (nI (xSz X 24 0)) 0).1 264 (xSz X 24 0) = gn (sI (rI (rI (rI (rI (rI (sI M 0 0) 15 (mI M 14) p1) 16 (mI M 14) p2) 20 (mI M 14) (-1)) 21 (mI M 14) (-1)) 26 (mI M 14) (-1)) 14 ((mI M 14) + 1)) 21 (xSz X 24 0); rw [sj_i, si_at (by omega), g21]
        · have h9 : ∀ t ∈ TJ, t.2.2 = 1 → t = (261, 19, 1) ∨ t = (265, 22, 1) := by decide
          rcases h9 t ht e9 with rfl | rfl
          · show (sj (si (si (si (sj (si (si S 259 (nI (xSz X 24 0)) 0) 260 (nI (xSz X 24 0)) (-1)) 261 (nI (xSz X 24 0)) 0) 262 (nI (xSz X 24 0)) (-1)) 263 (nI (xSz X 24 0)) (-1)) 264 (nI (xSz X 24 0)) (-1)) 265 (nI (xSz X 24 0)) 0).2 261 (xSz X 24 0) = gl M 19 (xSz X 24 0); rw [sj_an rfl, si_j, si_j, si_j, sj_at (by omega)]; exact (hz19).symm
          · show (sj (si (si (si (sj (si (si S 259 (nI (xSz X 24 0)) 0) 260 (nI (xSz X 24 0)) (-1)) 261 (nI (xSz X 24 0)) 0) 262 (nI (xSz X 24 0)) (-1)) 263 (nI (xSz X 24 0)) (-1)) 264 (nI (xSz X 24 0)) (-1)) 265 (nI (xSz X 24 0)) 0).2 265 (xSz X 24 0) = gl M 22 (xSz X 24 0); rw [sj_at (by omega)]; exact (hz22).symm
        · have h9 : ∀ t ∈ TF, t.2.2 = 1 → t = (256, 15, 1) ∨ t = (257, 16, 1) := by decide
          rcases h9 t ht e9 with rfl | rfl
          · rw [hY, g15]; show xFi (fiX (fiX (lsX X 29 (xSz X 24 0) 0 0 0) 256 (xSz X 24 0) p1) 257 (xSz X 24 0) p2) 256 (xSz X 24 0) = _; rw [fi_sn rfl, fi_ss]
          · rw [hY, g16]; show xFi (fiX (fiX (lsX X 29 (xSz X 24 0) 0 0 0) 256 (xSz X 24 0) p1) 257 (xSz X 24 0) p2) 257 (xSz X 24 0) = _; rw [fi_ss]
        · have h9 : ∀ t ∈ TG, t.2.2 ≠ 1 := by decide
          exact absurd e9 (h9 t ht)
        · have hs : ∀ L j, ¬ (L = 24 ∧ j = 0) ∧ ¬ (L = 29 ∧ j = (xSz X 24 0)) → xSz X2 L j = xSz X L j := fun L j y => by
            rw [hN.2.2.2.2.1]
            exact (if_neg y.1).trans (if_neg y.2)
          have hs1 : xSz X2 24 0 = (xSz X 24 0) + 1 := by rw [hN.2.2.2.2.1]; exact if_pos ⟨rfl, rfl⟩
          refine ⟨⟨by rw [hs 20 0 (by omega)]; exact h.z3.symm, by rw [hs1]; show mI M 14 + 1 = _; rw [en, nI_1], by rw [hs 25 0 (by omega)]; exact h.z39.symm, by rw [hs 26 0 (by omega)]; exact h.z57.symm, by rw [hs 27 0 (by omega)]; exact h.z59.symm⟩, fun r hr => ?_⟩
          rw [hs1] at hr
          by_cases e7 : r = (xSz X 24 0)
          · rw [e7, ho 18 _ ⟨by decide, by decide, by decide, by decide, by decide⟩, hz18, hN.2.2.2.2.1]
            exact nI_0.symm.trans (congrArg nI ((if_neg (by omega)).trans (if_pos ⟨rfl, rfl⟩)).symm)
          · rw [hs 29 r (by omega), ho 18 r ⟨by decide, by decide, by decide, by decide, by decide⟩]
            exact h.2.2.2.1.2 r (by omega)
        · show S.1 362 0 = if mI M 3 = 0 then -1 else mI M 10
          exact h.2.2.2.2.1.1
        · exact ho 23 i ⟨by decide, by decide, by decide, by decide, by decide⟩
    · rw [if_pos ((h.n3 hL).mpr c1), if_neg (fun z => c2 ((num_cent hL).mp z)), if_pos c1, if_neg c2]
      exact ⟨mI_sIs.trans xIS_I.symm, h.thr⟩
  · rw [if_neg (fun z => c1 ((h.n3 hL).mp z)), if_neg c1]
    exact ⟨mI_sIs.trans xIS_I.symm, h.thr⟩
