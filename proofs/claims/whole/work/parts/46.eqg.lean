def EQa (X : CX) (S : CT) (ex : String → Int32) (Y : CX) (Li i : Nat) (r : (Int32 × CT) ⊕ String) (m : Int32 × MS) : Prop := match r with
  | .inl q => mI m.2 0 = 0 ∧ q.1 = m.1 ∧ ∀ X2, NX Y X2 Li i → RR X2 q.2 m.2
  | .inr E => mI m.2 0 = ex E ∧ RR X S m.2
/-- of what the rows of the reference are -/
def rk (j : Nat) : Nat := if j = 4 ∨ j = 5 ∨ j = 6 ∨ j = 7 ∨ j = 8 ∨ j = 9 then 0 else if 15 ≤ j ∧ j ≤ 26 then 1 else if j = 58 then 3 else if j = 60 ∨ j = 61 ∨ j = 62 then 4 else 5
def kc (c : Nat) : Nat := if c = 0 then 6 else if c = 1 then 8 else if c = 3 then 10 else 2
theorem tab_of {T : List (Nat × Nat × Nat)} (h : (T.all fun t => [0, 1, 3, 4].all fun c => ((t.1 / 32 != kc c) || (t.2.2 == c)) && ((rk t.2.1 != c) || (t.2.2 == c))) = true) : ∀ t ∈ T, ∀ c, c < 5 → c ≠ 2 → (t.1 / 32 = kc c → t.2.2 = c) ∧ (rk t.2.1 = c → t.2.2 = c) := by
  intro t ht c h5 h2
  have h9 := List.all_eq_true.mp (List.all_eq_true.mp h t ht) c (by
    have : c = 0 ∨ c = 1 ∨ c = 3 ∨ c = 4 := by omega
    rcases this with rfl | rfl | rfl | rfl <;> decide)
  simp only [Bool.and_eq_true, Bool.or_eq_true, bne_iff_ne, beq_iff_eq] at h9
  exact ⟨fun e => h9.1.resolve_left (fun z => z e), fun e => h9.2.resolve_left (fun z => z e)⟩
theorem kc_1 {c : Nat} (hc : c < 5 ∧ c ≠ 2) (h : 262 / 32 = kc c) : c = 1 := by
  have : c = 0 ∨ c = 1 ∨ c = 3 ∨ c = 4 := by omega
  rcases this with rfl | rfl | rfl | rfl
  · exact absurd h (by decide)
  · rfl
  · exact absurd h (by decide)
  · exact absurd h (by decide)
theorem RR_new {X X2 : CX} {S S' : CT} {M M' : MS} {c n : Nat} (h : RR X S M) (hc : c < 5 ∧ c ≠ 2) (hd : ∀ c' i, dm M' c' i → dm M c' i ∨ (c' = c ∧ i = n)) (hnd : ¬ dm M c n)
    (hS1 : ∀ f i, ¬ (f / 32 = kc c ∧ i = n) → S'.1 f i = S.1 f i) (hS2 : ∀ f i, ¬ (f / 32 = kc c ∧ i = n) → S'.2 f i = S.2 f i) (hX1 : ∀ f i, ¬ (f / 32 = kc c ∧ i = n) → xFi X2 f i = xFi X f i) (hX2 : ∀ f i, ¬ (f / 32 = kc c ∧ i = n) → xFj X2 f i = xFj X f i)
    (hg : ∀ j i, ¬ (rk j = c ∧ i = n) → gn M' j i = gn M j i) (hl : ∀ j i, ¬ (rk j = c ∧ i = n) → gl M' j i = gl M j i) (hm : ∀ j, j ≠ 0 → j ≠ 3 → j ≠ 14 → j ≠ 57 → j ≠ 59 → mI M' j = mI M j) (hmj : mJ M' 63 = mJ M 63)
    (nI' : ∀ t ∈ TI, t.2.2 = c → S'.1 t.1 n = gn M' t.2.1 n) (nJ : ∀ t ∈ TJ, t.2.2 = c → S'.2 t.1 n = gl M' t.2.1 n) (nF : ∀ t ∈ TF, t.2.2 = c → xFi X2 t.1 n = gn M' t.2.1 n) (nG : ∀ t ∈ TG, t.2.2 = c → xFj X2 t.1 n = gl M' t.2.1 n)
    (h192 : c = 0 → xFi X2 192 n = nI n) (hZ : RZ X2 M') (hC : RC S' M') (hU : c = 0 → gn M' 6 n = 0 ∨ S'.1 196 n = gn M' 7 n) (hT : c = 1 → S'.1 262 n = if gn M' 24 n ≤ gn M' 25 n then -1 else gI M' 23 (12 * nI n + gn M' 25 n)) (h23 : ∀ i, gn M' 23 i = gn M 23 i) (h40 : ∀ i, dm M 2 i → (gn M 40 i).toNatClampNeg / 4 ≠ n ∨ c ≠ 1) : RR X2 S' M' := by
  have tI := tab_of (T := TI) (by decide +kernel)
  have tJ := tab_of (T := TJ) (by decide +kernel)
  have tF := tab_of (T := TF) (by decide +kernel)
  have tG := tab_of (T := TG) (by decide +kernel)
  have hne : ∀ i, dm M c i → i ≠ n := fun i z e => hnd (e ▸ z)
  obtain ⟨⟨r1, r2⟩, ⟨r3, r4, r5, r6, r7⟩, ⟨r8, r9⟩, ⟨r10, r11⟩, ⟨r12, r13⟩, r14, r15, r16, r17⟩ := h
  refine ⟨⟨fun t ht i hi => ?_, fun t ht i hi => ?_⟩, ⟨fun t ht i hi => ?_, fun t ht i hi => ?_, fun i hi => ?_, fun i hi => ?_, fun i hi => ?_⟩, ⟨fun t ht => ?_, ?_⟩, hZ, ⟨hC, fun i hi => ?_⟩, fun q hq => ?_, fun q hq => ?_, fun i hi => ?_, fun q u hq hu z hz => ?_⟩
  · rcases hd _ _ hi with z | ⟨z, rfl⟩
    · rw [hS1 _ _ (fun y => hne i ((tI t ht c hc.1 hc.2).1 y.1 ▸ z) y.2), hg _ _ (fun y => hne i ((tI t ht c hc.1 hc.2).2 y.1 ▸ z) y.2)]
      exact r1 t ht i z
    · exact nI' t ht z
  · rcases hd _ _ hi with z | ⟨z, rfl⟩
    · rw [hS2 _ _ (fun y => hne i ((tJ t ht c hc.1 hc.2).1 y.1 ▸ z) y.2), hl _ _ (fun y => hne i ((tJ t ht c hc.1 hc.2).2 y.1 ▸ z) y.2)]
      exact r2 t ht i z
    · exact nJ t ht z
  · rcases hd _ _ hi with z | ⟨z, rfl⟩
    · rw [hX1 _ _ (fun y => hne i ((tF t ht c hc.1 hc.2).1 y.1 ▸ z) y.2), hg _ _ (fun y => hne i ((tF t ht c hc.1 hc.2).2 y.1 ▸ z) y.2)]
      exact r3 t ht i z
    · exact nF t ht z
  · rcases hd _ _ hi with z | ⟨z, rfl⟩
    · rw [hX2 _ _ (fun y => hne i ((tG t ht c hc.1 hc.2).1 y.1 ▸ z) y.2), hl _ _ (fun y => hne i ((tG t ht c hc.1 hc.2).2 y.1 ▸ z) y.2)]
      exact r4 t ht i z
    · exact nG t ht z
  · rcases hd _ _ hi with z | ⟨z, rfl⟩
    · rw [hX1 _ _ (fun y => by
        have e : c = 0 := by
          have h9 := y.1
          unfold kc at h9
          by_cases c0 : c = 0
          · exact c0
          · exfalso
            rw [if_neg c0] at h9
            split at h9
            · omega
            · split at h9 <;> omega
        exact hne i (e ▸ z) y.2)]
      exact r5 i z
    · exact h192 z.symm
  · rw [hX1 _ _ (fun y => by
        have h9 := y.1
        unfold kc at h9
        split at h9
        · omega
        · split at h9
          · omega
          · split at h9 <;> omega)]
    exact r6 i hi
  · have z := (hd _ _ hi).resolve_right (fun y => hc.2 y.1.symm)
    have k3 : ¬ 96 / 32 = kc c ∧ ¬ 98 / 32 = kc c := by
      unfold kc
      constructor
      · split
        · decide
        · split
          · decide
          · split <;> decide
      · split
        · decide
        · split
          · decide
          · split <;> decide
    rw [hX1 _ _ (fun y => k3.1 y.1), hX1 _ _ (fun y => k3.2 y.1), hg 40 i (fun y => by have := y.1; unfold rk at this; simp at this; omega), hg 21 _ (fun y => by
      have e1 : c = 1 := by have := y.1; unfold rk at this; simp at this; omega
      exact ((h40 i z).elim (fun u => u y.2) (fun u => u e1)))]
    exact r7 i z
  · have h9 : ∀ t ∈ T0, t.1 / 32 = 11 ∧ t.2 ≠ 0 ∧ t.2 ≠ 3 ∧ t.2 ≠ 14 ∧ t.2 ≠ 57 ∧ t.2 ≠ 59 := by decide
    obtain ⟨g0, g1, g2, g3, g4, g5⟩ := h9 t ht
    rw [hS1 _ _ (fun y => by
        have h8 := y.1
        rw [g0] at h8
        unfold kc at h8
        split at h8
        · omega
        · split at h8
          · omega
          · split at h8 <;> omega), hm _ g1 g2 g3 g4 g5]
    exact r8 t ht
  · rw [hS2 _ _ (fun y => by
        have h8 := y.1
        unfold kc at h8
        split at h8
        · omega
        · split at h8
          · omega
          · split at h8 <;> omega), hmj]
    exact r9
  · rcases hd _ _ hi with z | ⟨z, rfl⟩
    · by_cases e : i = n
      · subst e
        have hc0 : ¬ c = 0 := fun e => hnd (e ▸ z)
        rw [hg 6 i (fun y => hc0 (by have := y.1; unfold rk at this; simp at this; omega)), hg 7 i (fun y => hc0 (by have := y.1; unfold rk at this; simp at this; omega)), hS1 _ _ (fun y => hc0 (by
          have h8 := y.1
          unfold kc at h8
          by_cases c0 : c = 0
          · exact c0
          · exfalso
            rw [if_neg c0] at h8
            split at h8
            · omega
            · split at h8 <;> omega))]
        exact r13 i z
      · rw [hg _ _ (fun y => e y.2), hg _ _ (fun y => e y.2), hS1 _ _ (fun y => e y.2)]
        exact r13 i z
    · exact hU z.symm
  · rcases hd _ _ hq with z | ⟨z, rfl⟩
    · by_cases e : q = n
      · subst e
        have hc0 : ¬ c = 1 := fun e => hnd (e ▸ z)
        rw [hg 24 q (fun y => hc0 (by have := y.1; unfold rk at this; simp at this; omega)), hg 25 q (fun y => hc0 (by have := y.1; unfold rk at this; simp at this; omega)), gI_n, h23, hS1 _ _ (fun y => hc0 (kc_1 hc y.1))]
        exact r14 q z
      · rw [hg _ _ (fun y => e y.2), hg _ _ (fun y => e y.2), gI_n, h23, hS1 _ _ (fun y => e y.2)]
        exact r14 q z
    · exact hT z.symm
  · have z := (hd _ _ hq).resolve_right (fun y => by omega)
    have h9 := fb_cg (M := M) (M' := M') (q := nI q) (hm 39 (by decide) (by decide) (by decide) (by decide) (by decide)) (fun i => hg 40 i (fun y => by have := y.1; unfold rk at this; simp at this; omega)) (fun i => hg 41 i (fun y => by have := y.1; unfold rk at this; simp at this; omega)) (fun i => hg 44 i (fun y => by have := y.1; unfold rk at this; simp at this; omega))
    have k4 : ¬ 132 / 32 = kc c ∧ ¬ 133 / 32 = kc c := by
      unfold kc
      constructor
      · split
        · decide
        · split
          · decide
          · split <;> decide
      · split
        · decide
        · split
          · decide
          · split <;> decide
    rw [hS1 _ _ (fun y => k4.1 y.1), hS1 _ _ (fun y => k4.2 y.1), h9.1, h9.2]
    exact r15 q z
  · have z := (hd _ _ hi).resolve_right (fun y => hc.2 y.1.symm)
    have k3 : ∀ f, f / 32 = 3 → ¬ f / 32 = kc c := fun f hf y => by
      rw [hf] at y
      unfold kc at y
      split at y
      · omega
      · split at y
        · omega
        · split at y <;> omega
    have gk : ∀ j, (j = 44 ∨ j = 52 ∨ j = 49 ∨ j = 50 ∨ j = 48) → ¬ rk j = c := fun j hj y => by
      rcases hj with rfl | rfl | rfl | rfl | rfl <;> (unfold rk at y; simp at y; omega)
    rw [hS1 104 i (fun y => k3 104 rfl y.1), hS1 109 i (fun y => k3 109 rfl y.1), hS1 110 i (fun y => k3 110 rfl y.1), hS2 108 i (fun y => k3 108 rfl y.1), hg 44 i (fun y => gk 44 (by decide) y.1), hg 52 i (fun y => gk 52 (by decide) y.1), hg 49 i (fun y => gk 49 (by decide) y.1), hg 50 i (fun y => gk 50 (by decide) y.1), hl 48 i (fun y => gk 48 (by decide) y.1)]
    exact r16 i z
  · rw [hS2 _ _ (fun y => by
        have h8 := y.1
        have h7 : (224 + z) / 32 = 7 := by omega
        rw [h7] at h8
        unfold kc at h8
        split at h8
        · omega
        · split at h8
          · omega
          · split at h8 <;> omega), hl 11 _ (fun y => by have := y.1; unfold rk at this; simp at this; omega)]
    exact r17 q u hq hu z hz
