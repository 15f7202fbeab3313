theorem fb_set {M M' : MS} {q : Int32} {p : Nat} (h39 : mI M' 39 = mI M 39) (h60 : cnt M 39 ≤ 60) (h1 : ∀ i, gn M' 40 i = gn M 40 i) (h2 : ∀ i, gn M' 41 i = gn M 41 i) (h3 : ∀ i, i ≠ p → gn M' 44 i = gn M 44 i) (h0 : gn M 44 p = 0) (h0' : ¬ gn M' 44 p = 0) (hp : p < cnt M 39) : f_bookedPieces q M' = f_bookedPieces q M + (if gn M 40 p = q then gn M 41 p else 0) ∧ f_heldPieces q M' = f_heldPieces q M - (if gn M 40 p = q then gn M 41 p else 0) := by
  have key : ∀ n, n ≤ cnt M 39 → it_bookedPieces q M' n = it_bookedPieces q M n + (if p < n ∧ gn M 40 p = q then gn M 41 p else 0) ∧ it_heldPieces q M' n = it_heldPieces q M n - (if p < n ∧ gn M 40 p = q then gn M 41 p else 0) := fun n => by
    induction n with
    | zero => exact fun _ => ⟨by rw [if_neg (by omega)]; rfl, by rw [if_neg (by omega)]; exact (Int32.sub_zero _).symm⟩
    | succ n ih =>
      intro hn
      obtain ⟨i1, i2⟩ := ih (by omega)
      have c40 : gI M' 40 (nI n) = gn M 40 n := by rw [gI_n, nI_clamp (by omega), h1]
      have c41 : gI M' 41 (nI n) = gn M 41 n := by rw [gI_n, nI_clamp (by omega), h2]
      have d40 : gI M 40 (nI n) = gn M 40 n := by rw [gI_n, nI_clamp (by omega)]
      have d41 : gI M 41 (nI n) = gn M 41 n := by rw [gI_n, nI_clamp (by omega)]
      have c44 : gI M' 44 (nI n) = gn M' 44 n := by rw [gI_n, nI_clamp (by omega)]
      have d44 : gI M 44 (nI n) = gn M 44 n := by rw [gI_n, nI_clamp (by omega)]
      unfold it_bookedPieces it_heldPieces st_bookedPieces st_heldPieces
      rw [c40, c41, d40, d41, c44, d44, i1, i2]
      by_cases e : n = p
      · subst e
        rw [if_neg (show ¬ (n < n ∧ gn M 40 n = q) by omega), if_neg h0', if_neg h0', if_pos h0, if_pos h0]
        by_cases e2 : gn M 40 n = q
        · rw [if_pos e2, if_pos e2, if_pos e2, if_pos e2, if_pos ⟨by omega, e2⟩]
          constructor
          · simp only [Int32.add_zero]
          · rw [Int32.sub_zero, Int32.add_zero, Int32.add_sub_cancel]
        · rw [if_neg e2, if_neg e2, if_neg e2, if_neg e2, if_neg (fun z => e2 z.2)]
          exact ⟨by simp only [Int32.add_zero], by simp only [Int32.add_zero, Int32.sub_zero]⟩
      · have hif : (if p < n + 1 ∧ gn M 40 p = q then gn M 41 p else 0) = (if p < n ∧ gn M 40 p = q then gn M 41 p else 0) := by
          by_cases c : p < n ∧ gn M 40 p = q
          · rw [if_pos c, if_pos ⟨by omega, c.2⟩]
          · rw [if_neg c, if_neg (fun z => c ⟨by omega, z.2⟩)]
        rw [hif, h3 n e]
        generalize (if p < n ∧ gn M 40 p = q then gn M 41 p else 0) = d
        by_cases e2 : gn M 40 n = q
        · rw [if_pos e2, if_pos e2, if_pos e2, if_pos e2]
          by_cases e3 : gn M 44 n = 0
          · rw [if_pos e3, if_pos e3, if_pos e3, if_pos e3]
            exact ⟨by rw [Int32.add_zero, Int32.add_zero], by rw [Int32.sub_eq_add_neg, Int32.sub_eq_add_neg, Int32.add_assoc, Int32.add_assoc, Int32.add_comm (-d)]⟩
          · rw [if_neg e3, if_neg e3, if_neg e3, if_neg e3]
            exact ⟨by rw [Int32.add_assoc, Int32.add_assoc, Int32.add_comm d], by rw [Int32.add_zero, Int32.add_zero]⟩
        · rw [if_neg e2, if_neg e2, if_neg e2, if_neg e2]
          exact ⟨by rw [Int32.add_zero, Int32.add_zero], by rw [Int32.add_zero, Int32.add_zero]⟩
  have h9 := key _ (Nat.le_refl _)
  have hif : (if p < cnt M 39 ∧ gn M 40 p = q then gn M 41 p else 0) = (if gn M 40 p = q then gn M 41 p else 0) := by
    by_cases c : gn M 40 p = q
    · rw [if_pos c, if_pos ⟨hp, c⟩]
    · rw [if_neg c, if_neg (fun z => c z.2)]
  rw [hif] at h9
  unfold f_bookedPieces f_heldPieces
  rw [h39]
  exact h9
section HB
variable {X : CX} {S : CT} {M : MS}
/-- the rows of an invoice as it is booked -/
def wbS (S : CT) (p q b t : Int32) (x c o : Int64) (dy du pc : Int32) : CT := si (si (si (si (si (sj (sj (sj (si (si S 104 p b) 105 p t) 106 p x) 107 p c) 108 p o) 109 p dy) 110 p du) 102 p 1) 133 q (ci S 133 q - pc)) 132 q (ci S 132 q + pc)
def wbM (M : MS) (p b t : Int32) (x c o : Int64) (dy du : Int32) : MS := rI (rI (rI (rJ (rJ (rJ (rI (rI M 52 p b) 51 p t) 46 p x) 47 p c) 48 p o) 49 p dy) 50 p du) 44 p 1
theorem RR.bookW (h : RR X S M) {p q b t : Int32} {x c o : Int64} {dy du : Int32} (h60 : cnt M 39 ≤ 60) (hp : p.toNatClampNeg < cnt M 39) (h0 : gI M 44 p = 0) (eq : q = gI M 40 p) (hqn : nI q.toNatClampNeg = q) (hn9 : ∀ i, dm M 9 i → i < 2 ^ 30) : RR X (wbS S p q b t x c o dy du (gI M 41 p)) (wbM M p b t x c o dy du) := by
  generalize eT : wbS S p q b t x c o dy du (gI M 41 p) = T
  generalize eN : wbM M p b t x c o dy du = N
  unfold wbS at eT
  unfold wbM at eN
  obtain ⟨P, eP⟩ : ∃ P, P = p.toNatClampNeg := ⟨_, rfl⟩
  obtain ⟨Q, eQ⟩ : ∃ Q, Q = q.toNatClampNeg := ⟨_, rfl⟩
  have hm : mI N = mI M := by rw [← eN]; rfl
  have hmj : mJ N = mJ M := by rw [← eN]; rfl
  have hg : ∀ j i, ¬ ((j = 52 ∨ j = 51 ∨ j = 49 ∨ j = 50 ∨ j = 44) ∧ i = P) → gn N j i = gn M j i := fun j i z => by
    rw [eP] at z
    rw [← eN, gn_rI, if_neg (fun y => z ⟨by omega, y.2⟩), gn_rI, if_neg (fun y => z ⟨by omega, y.2⟩), gn_rI, if_neg (fun y => z ⟨by omega, y.2⟩)]
    show gn (rI (rI M 52 p b) 51 p t) j i = _
    rw [gn_rI, if_neg (fun y => z ⟨by omega, y.2⟩), gn_rI, if_neg (fun y => z ⟨by omega, y.2⟩)]
  have hl : ∀ j i, ¬ ((j = 46 ∨ j = 47 ∨ j = 48) ∧ i = P) → gl N j i = gl M j i := fun j i z => by
    rw [eP] at z
    rw [← eN]
    show gl (rJ (rJ (rJ M 46 p x) 47 p c) 48 p o) j i = _
    rw [gl_rJ, if_neg (fun y => z ⟨by omega, y.2⟩), gl_rJ, if_neg (fun y => z ⟨by omega, y.2⟩), gl_rJ, if_neg (fun y => z ⟨by omega, y.2⟩)]
  have g44 : gn N 44 P = 1 := by rw [← eN, gn_rI, if_pos ⟨rfl, eP⟩]
  have g50 : gn N 50 P = du := by rw [← eN, gn_rIn (by decide), gn_rI, if_pos ⟨rfl, eP⟩]
  have g49 : gn N 49 P = dy := by rw [← eN, gn_rIn (by decide), gn_rIn (by decide), gn_rI, if_pos ⟨rfl, eP⟩]
  have g51 : gn N 51 P = t := by
    rw [← eN, gn_rIn (by decide), gn_rIn (by decide), gn_rIn (by decide)]
    show gn (rI (rI M 52 p b) 51 p t) 51 P = t
    rw [gn_rI, if_pos ⟨rfl, eP⟩]
  have g52 : gn N 52 P = b := by
    rw [← eN, gn_rIn (by decide), gn_rIn (by decide), gn_rIn (by decide)]
    show gn (rI (rI M 52 p b) 51 p t) 52 P = b
    rw [gn_rIn (by decide), gn_rI, if_pos ⟨rfl, eP⟩]
  have l48 : gl N 48 P = o := by
    rw [← eN]
    show gl (rJ (rJ (rJ M 46 p x) 47 p c) 48 p o) 48 P = o
    rw [gl_rJ, if_pos ⟨rfl, eP⟩]
  have l47 : gl N 47 P = c := by
    rw [← eN]
    show gl (rJ (rJ (rJ M 46 p x) 47 p c) 48 p o) 47 P = c
    rw [gl_rJn (by decide), gl_rJ, if_pos ⟨rfl, eP⟩]
  have l46 : gl N 46 P = x := by
    rw [← eN]
    show gl (rJ (rJ (rJ M 46 p x) 47 p c) 48 p o) 46 P = x
    rw [gl_rJn (by decide), gl_rJn (by decide), gl_rJ, if_pos ⟨rfl, eP⟩]
  have hS1 : ∀ f i, ¬ ((f = 104 ∨ f = 105 ∨ f = 109 ∨ f = 110 ∨ f = 102) ∧ i = P) → ¬ ((f = 132 ∨ f = 133) ∧ i = Q) → T.1 f i = S.1 f i := fun f i z1 z2 => by
    rw [eP] at z1
    rw [eQ] at z2
    rw [← eT, s1_si, if_neg (fun y => z2 ⟨by omega, y.2⟩), s1_si, if_neg (fun y => z2 ⟨by omega, y.2⟩), s1_si, if_neg (fun y => z1 ⟨by omega, y.2⟩), s1_si, if_neg (fun y => z1 ⟨by omega, y.2⟩), s1_si, if_neg (fun y => z1 ⟨by omega, y.2⟩)]
    show (si (si S 104 p b) 105 p t).1 f i = _
    rw [s1_si, if_neg (fun y => z1 ⟨by omega, y.2⟩), s1_si, if_neg (fun y => z1 ⟨by omega, y.2⟩)]
  have hS2 : ∀ f i, ¬ ((f = 106 ∨ f = 107 ∨ f = 108) ∧ i = P) → T.2 f i = S.2 f i := fun f i z1 => by
    rw [eP] at z1
    rw [← eT]
    show (sj (sj (sj S 106 p x) 107 p c) 108 p o).2 f i = _
    rw [s2_sj, if_neg (fun y => z1 ⟨by omega, y.2⟩), s2_sj, if_neg (fun y => z1 ⟨by omega, y.2⟩), s2_sj, if_neg (fun y => z1 ⟨by omega, y.2⟩)]
  have k132 : T.1 132 Q = ci S 132 q + gI M 41 p := by rw [← eT, s1_si, if_pos ⟨rfl, eQ⟩]
  have k133 : T.1 133 Q = ci S 133 q - gI M 41 p := by rw [← eT, s1_sn (by decide), s1_si, if_pos ⟨rfl, eQ⟩]
  have k102 : T.1 102 P = 1 := by rw [← eT, s1_sn (by decide), s1_sn (by decide), s1_si, if_pos ⟨rfl, eP⟩]
  have k110 : T.1 110 P = du := by rw [← eT, s1_sn (by decide), s1_sn (by decide), s1_sn (by decide), s1_si, if_pos ⟨rfl, eP⟩]
  have k109 : T.1 109 P = dy := by rw [← eT, s1_sn (by decide), s1_sn (by decide), s1_sn (by decide), s1_sn (by decide), s1_si, if_pos ⟨rfl, eP⟩]
  have k105 : T.1 105 P = t := by
    rw [← eT, s1_sn (by decide), s1_sn (by decide), s1_sn (by decide), s1_sn (by decide), s1_sn (by decide)]
    show (si (si S 104 p b) 105 p t).1 105 P = _
    rw [s1_si, if_pos ⟨rfl, eP⟩]
  have k104 : T.1 104 P = b := by
    rw [← eT, s1_sn (by decide), s1_sn (by decide), s1_sn (by decide), s1_sn (by decide), s1_sn (by decide)]
    show (si (si S 104 p b) 105 p t).1 104 P = _
    rw [s1_sn (by decide), s1_si, if_pos ⟨rfl, eP⟩]
  have k108 : T.2 108 P = o := by
    rw [← eT]
    show (sj (sj (sj S 106 p x) 107 p c) 108 p o).2 108 P = _
    rw [s2_sj, if_pos ⟨rfl, eP⟩]
  have k107 : T.2 107 P = c := by
    rw [← eT]
    show (sj (sj (sj S 106 p x) 107 p c) 108 p o).2 107 P = _
    rw [s2_sn (by decide), s2_sj, if_pos ⟨rfl, eP⟩]
  have k106 : T.2 106 P = x := by
    rw [← eT]
    show (sj (sj (sj S 106 p x) 107 p c) 108 p o).2 106 P = _
    rw [s2_sn (by decide), s2_sn (by decide), s2_sj, if_pos ⟨rfl, eP⟩]
  have hd : ∀ c i, dm N c i ↔ dm M c i := fun c i => dm_cg hm (fun i => hg 18 i (by omega))
  rw [← eP] at hp
  have h0n : gn M 44 P = 0 := by rw [eP]; exact h0
  have eqn : gn M 40 P = q := by rw [eP]; exact eq.symm
  have e41 : gn M 41 P = gI M 41 p := by rw [eP]; rfl
  obtain ⟨⟨r1, r2⟩, ⟨r3, r4, r5, r6, r7⟩, ⟨r8, r9⟩, ⟨r10, r11⟩, ⟨r12, r13⟩, r14, r15, r16, r17⟩ := h
  refine ⟨⟨fun t' ht i hi => ?_, fun t' ht i hi => ?_⟩, ⟨fun t' ht i hi => ?_, fun t' ht i hi => ?_, fun i hi => r5 i ((hd 0 i).mp hi), r6, fun i hi => ?_⟩, ⟨fun t' ht => ?_, ?_⟩, ⟨?_, fun q' hq => ?_⟩, ⟨?_, fun i hi => ?_⟩, fun q' hq => ?_, fun q' hq => ?_, fun i hi => ?_, fun q' u' hq hu z hz => ?_⟩
  · have h9 : ∀ t' ∈ TI, (t'.1 = 102 ↔ t'.2.1 = 44) ∧ (t'.1 = 105 ↔ t'.2.1 = 51) ∧ t'.1 ≠ 104 ∧ t'.1 ≠ 109 ∧ t'.1 ≠ 110 ∧ t'.1 ≠ 132 ∧ t'.1 ≠ 133 ∧ t'.2.1 ≠ 52 ∧ t'.2.1 ≠ 49 ∧ t'.2.1 ≠ 50 := by decide
    obtain ⟨a1, a2, a3⟩ := h9 t' ht
    by_cases z : i = P
    · by_cases z1 : t'.1 = 102
      · rw [z1, a1.mp z1, z, k102, g44]
      · by_cases z2 : t'.1 = 105
        · rw [z2, a2.mp z2, z, k105, g51]
        · rw [hS1 _ _ (by omega) (by omega), hg _ _ (by omega)]
          exact r1 t' ht i ((hd _ _).mp hi)
    · rw [hS1 _ _ (fun y => z y.2) (by omega), hg _ _ (fun y => z y.2)]
      exact r1 t' ht i ((hd _ _).mp hi)
  · have h9 : ∀ t' ∈ TJ, (t'.1 = 106 ↔ t'.2.1 = 46) ∧ (t'.1 = 107 ↔ t'.2.1 = 47) ∧ t'.1 ≠ 108 ∧ t'.2.1 ≠ 48 := by decide
    obtain ⟨a1, a2, a3⟩ := h9 t' ht
    by_cases z : i = P
    · by_cases z1 : t'.1 = 106
      · rw [z1, a1.mp z1, z, k106, l46]
      · by_cases z2 : t'.1 = 107
        · rw [z2, a2.mp z2, z, k107, l47]
        · rw [hS2 _ _ (by omega), hl _ _ (by omega)]
          exact r2 t' ht i ((hd _ _).mp hi)
    · rw [hS2 _ _ (fun y => z y.2), hl _ _ (fun y => z y.2)]
      exact r2 t' ht i ((hd _ _).mp hi)
  · have h9 : ∀ t' ∈ TF, t'.2.1 ≠ 52 ∧ t'.2.1 ≠ 51 ∧ t'.2.1 ≠ 49 ∧ t'.2.1 ≠ 50 ∧ t'.2.1 ≠ 44 := by decide
    have h8 := h9 t' ht
    rw [hg _ _ (by omega)]
    exact r3 t' ht i ((hd _ _).mp hi)
  · have h9 : ∀ t' ∈ TG, t'.2.1 ≠ 46 ∧ t'.2.1 ≠ 47 ∧ t'.2.1 ≠ 48 := by decide
    have h8 := h9 t' ht
    rw [hl _ _ (by omega)]
    exact r4 t' ht i ((hd _ _).mp hi)
  · rw [hg 40 _ (by omega), hg 21 _ (by omega)]
    exact r7 i ((hd 2 i).mp hi)
  · have h9 : ∀ t' ∈ T0, t'.1 ≠ 104 ∧ t'.1 ≠ 105 ∧ t'.1 ≠ 109 ∧ t'.1 ≠ 110 ∧ t'.1 ≠ 102 ∧ t'.1 ≠ 132 ∧ t'.1 ≠ 133 := by decide
    have h8 := h9 t' ht
    rw [hS1 _ _ (by omega) (by omega), hm]
    exact r8 t' ht
  · rw [hS2 _ _ (by omega), hmj]
    exact r9
  · rw [hm]
    exact r10
  · rw [hg 18 _ (by omega)]
    exact r11 q' hq
  · unfold RC
    rw [hS1 _ _ (by omega) (by omega), hm]
    exact r12
  · rw [hg 6 _ (by omega), hg 7 _ (by omega), hS1 _ _ (by omega) (by omega)]
    exact r13 i ((hd 0 i).mp hi)
  · rw [hS1 _ _ (by omega) (by omega), hg 24 _ (by omega), hg 25 _ (by omega), gI_n, hg 23 _ (by omega)]
    exact r14 q' ((hd 1 q').mp hq)
  · have h9 := fb_set (M := M) (M' := N) (q := nI q') (p := P) (congrFun hm 39) h60 (fun i => hg 40 _ (by omega)) (fun i => hg 41 _ (by omega)) (fun i z => hg 44 _ (by omega)) h0n (by rw [g44]; decide) hp
    have h8 := r15 q' ((hd 9 q').mp hq)
    rw [h9.1, h9.2, ← h8.1, ← h8.2, eqn, e41]
    by_cases z : q' = Q
    · have e : q = nI q' := by rw [z, eQ, hqn]
      rw [z, k132, k133, if_pos (by rw [← z]; exact e), eQ]
      exact ⟨rfl, rfl⟩
    · have e : ¬ q = nI q' := fun y => z (by
        rw [eQ, y, nI_clamp (by have := hn9 q' ((hd 9 q').mp hq); omega)])
      rw [hS1 _ _ (by omega) (fun y => z y.2), hS1 _ _ (by omega) (fun y => z y.2), if_neg e, Int32.add_zero, Int32.sub_zero]
      exact ⟨rfl, rfl⟩
  · by_cases z : i = P
    · rw [z, g44, k108, l48, k104, g52, k109, g49, k110, g50]
      exact ⟨rfl, fun y => absurd y (by decide), fun _ => ⟨rfl, rfl, rfl⟩⟩
    · rw [hg 44 _ (fun y => z y.2), hS2 _ _ (fun y => z y.2), hl 48 _ (fun y => z y.2), hS1 _ _ (fun y => z y.2) (by omega), hS1 _ _ (fun y => z y.2) (by omega), hS1 _ _ (fun y => z y.2) (by omega), hg 52 _ (fun y => z y.2), hg 49 _ (fun y => z y.2), hg 50 _ (fun y => z y.2)]
      exact r16 i ((hd 2 i).mp hi)
  · rw [hS2 _ _ (by omega), hl _ _ (by omega)]
    exact r17 q' u' hq hu z hz
end HB
theorem q4_nI {Q : Nat} (h : Q < 160) : nI Q / 4 = nI (Q / 4) := by
  have key : ∀ r : Fin 160, nI r.1 / 4 = nI (r.1 / 4) := by decide +kernel
  exact key ⟨Q, h⟩
theorem fr2 {p : Int32} {v : Int64} {M : MS} {a : Int32} : gJ (f_frees p v M).2 2 a = gJ M 2 a := by
  unfold f_frees f_commits
  split <;> split <;> rfl
section HB2
variable {X : CX} {S : CT} {M : MS}
/-- the line of an invoice, and its request -/
theorem RR.ivl (h : RR X S M) (hL : LVX X) {p : Int32} (hp : P_isInvoice p M) (hV : dm M 9 (gI M 40 p).toNatClampNeg ∧ nI (gI M 40 p).toNatClampNeg = gI M 40 p) : ∃ Q, gI M 40 p = nI Q ∧ Q < 160 ∧ gI M 40 p / 4 = nI (Q / 4) ∧ P_isRequest (gI M 40 p / 4) M ∧ xi X 96 p = gI M 40 p / 4 ∧ xi X 98 p = gI M 21 (gI M 40 p / 4) ∧ xi X 97 p = gI M 40 p ∧ xi X 99 p = gI M 41 p := by
  have hd := h.d39 hL hp
  have h14 := h.bo14 hL
  obtain ⟨Q, eQ⟩ : ∃ Q, Q = (gI M 40 p).toNatClampNeg := ⟨_, rfl⟩
  have e : gI M 40 p = nI Q := by rw [eQ]; exact hV.2.symm
  have hQ4 : Q / 4 < cnt M 14 := by rw [eQ]; exact hV.1.1
  have h160 : Q < 160 := by omega
  have e4 : gI M 40 p / 4 = nI (Q / 4) := by rw [e]; exact q4_nI h160
  have h7 := h.2.1.2.2.2.2 _ hd
  have e40 : (gn M 40 p.toNatClampNeg).toNatClampNeg = Q := eQ.symm
  rw [e40] at h7
  refine ⟨Q, e, h160, e4, by rw [e4]; exact req_n h14.1 h14.2 hQ4, by rw [e4]; exact h7.1, ?_, h.rdF (f := 97) (j := 40) (c := 2) rfl hd, h.rdF (f := 99) (j := 41) (c := 2) rfl hd⟩
  rw [e4, gI_n, nI_clamp (by omega)]
  exact h7.2
theorem RR.d9 (h : RR X S M) (hL : LVX X) {i : Nat} (hi : dm M 9 i) : i < 2 ^ 30 := by
  have h14 := h.bo14 hL
  have h9 : i / 4 < cnt M 14 := hi.1
  omega
theorem RR.bookG (h : RR X S M) (hL : LVX X) {p b t : Int32} {x c o y : Int64} {dy du : Int32} (hp : P_isInvoice p M) (h0 : gI M 44 p = 0) (hV : dm M 9 (gI M 40 p).toNatClampNeg ∧ nI (gI M 40 p).toNatClampNeg = gI M 40 p) (hQ : ∀ p, P_isRequest p M → QK M p) (hY : P_isYear (f_yearNow M)) : RR X (k_post 1 (-o) X (k_post 3 y X (k_post 0 c X (k_release (xi X 96 p) (k_orderedValue p X (k_spend (xi X 257 (xi X 96 p)) c X (wbS S p (xi X 97 p) b t x c o dy du (xi X 99 p)))) X (k_spend (xi X 257 (xi X 96 p)) c X (wbS S p (xi X 97 p) b t x c o dy du (xi X 99 p)))).2))) (rJ (rJ (rJ (f_frees (gI M 40 p / 4) ((gI M 41 p).toInt64 * (gI M 29 (gI M 40 p)).toInt64) (rJ (wbM M p b t x c o dy du) 11 (f_at (gI M 16 (gI M 40 p / 4)) (f_yearNow M) 2) (gJ M 11 (f_at (gI M 16 (gI M 40 p / 4)) (f_yearNow M) 2) + c))).2 2 0 (gJ M 2 0 + c)) 2 3 (gJ M 2 3 + y)) 2 1 (gJ M 2 1 - o)) := by
  obtain ⟨Q, e1, e2, e3, hr, e4, e5, e6, e7⟩ := h.ivl hL hp hV
  have hd := h.d39 hL hp
  have hq := hQ _ hr
  have h60 : cnt M 39 ≤ 60 := by rw [h.c39 hL]; exact hL.2.2.1.2.2.2.2.2.1
  have hov : k_orderedValue p X (k_spend (xi X 257 (xi X 96 p)) c X (wbS S p (xi X 97 p) b t x c o dy du (xi X 99 p))) = (gI M 41 p).toInt64 * (gI M 29 (gI M 40 p)).toInt64 := by
    unfold k_orderedValue
    rw [e7, e6, h.rdF (f := 129) (j := 29) (c := 9) (x := gI M 40 p) rfl hV.1]
  rw [hov, e4, e6, e7, show xi X 257 (gI M 40 p / 4) = gI M 16 (gI M 40 p / 4) from h.rdF (f := 257) (j := 16) (c := 1) rfl (h.d14 hL hr)]
  have r1 := h.bookW (p := p) (q := gI M 40 p) (b := b) (t := t) (x := x) (c := c) (o := o) (dy := dy) (du := du) h60 hd h0 rfl hV.2 (fun i hi => h.d9 hL hi)
  have r2 : RR X (k_spend (gI M 16 (gI M 40 p / 4)) c X (wbS S p (gI M 40 p) b t x c o dy du (gI M 41 p))) (rJ (wbM M p b t x c o dy du) 11 (f_at (gI M 16 (gI M 40 p / 4)) (f_yearNow M) 2) (gJ M 11 (f_at (gI M 16 (gI M 40 p / 4)) (f_yearNow M) 2) + c)) := r1.spend (c := gI M 16 (gI M 40 p / 4)) (v := c) hq.1 hY
  have r3 := (r2.frees hL (p := gI M 40 p / 4) (v := (gI M 41 p).toInt64 * (gI M 29 (gI M 40 p)).toInt64) hr hq.1 (fun z => hq.2.2.1.2 z)).1
  have e2' : ∀ a, gJ (rJ (wbM M p b t x c o dy du) 11 (f_at (gI M 16 (gI M 40 p / 4)) (f_yearNow M) 2) (gJ M 11 (f_at (gI M 16 (gI M 40 p / 4)) (f_yearNow M) 2) + c)) 2 a = gJ M 2 a := fun a => rfl
  have e3' : ∀ a, gJ (f_frees (gI M 40 p / 4) ((gI M 41 p).toInt64 * (gI M 29 (gI M 40 p)).toInt64) (rJ (wbM M p b t x c o dy du) 11 (f_at (gI M 16 (gI M 40 p / 4)) (f_yearNow M) 2) (gJ M 11 (f_at (gI M 16 (gI M 40 p / 4)) (f_yearNow M) 2) + c))).2 2 a = gJ M 2 a := fun a => by
    refine Eq.trans ?_ (e2' a)
    exact fr2
  have r4 := r3.postV (a := 0) (v := c) (z := gJ M 2 0 + c) (by decide) (by rw [e3'])
  have r5 := r4.postV (a := 3) (v := y) (z := gJ M 2 3 + y) (by decide) (by rw [gJ_rJc (by decide), e3'])
  exact r5.postN (a := 1) (v := o) (z := gJ M 2 1 - o) (by decide) (by rw [gJ_rJc (by decide), gJ_rJc (by decide), e3'])
end HB2
section HB3
variable {X : CX} {S : CT} {M : MS}
theorem RR.book (h : RR X S M) (hL : LVX X) {p : Int32} (hp : P_isInvoice p M) (h0 : gI M 44 p = 0) (hV : dm M 9 (gI M 40 p).toNatClampNeg ∧ nI (gI M 40 p).toNatClampNeg = gI M 40 p) (hQ : ∀ p, P_isRequest p M → QK M p) (hY : P_isYear (f_yearNow M)) (hs : P_in (gI M 21 (gI M 40 p / 4)) 0 5) : RR X (k_book p X S) (f_books p M) := by
  obtain ⟨Q, e1, e2, e3, hr, e4, e5, e6, e7⟩ := h.ivl hL hp hV
  have hd := h.d39 hL hp
  have hds : dm M 5 (gI M 21 (gI M 40 p / 4)).toNatClampNeg := Nat.lt_succ_of_le (in_toNat (n := 5) (by decide) hs)
  have x101 : xj X 101 p = gJ M 43 p := h.rdG (f := 101) (j := 43) (c := 2) (x := p) rfl hd
  have k365 : ci S 365 0 = mI M 37 := h.i0 rfl
  have k366 : ci S 366 0 = mI M 38 := h.i0 rfl
  have k363 : ci S 363 0 = mI M 1 := h.i0 rfl
  have k290 : ci S 290 (gI M 21 (gI M 40 p / 4)) = gI M 31 (gI M 21 (gI M 40 p / 4)) := h.rdI (f := 290) (j := 31) (c := 5) rfl hds
  have k291 : ci S 291 (gI M 21 (gI M 40 p / 4)) = gI M 33 (gI M 21 (gI M 40 p / 4)) := h.rdI (f := 291) (j := 33) (c := 5) rfl hds
  unfold k_book f_books
  rw [x101, k365, k366, k363, e5, k290, k291]
  by_cases c : gI M 31 (gI M 21 (gI M 40 p / 4)) = 0
  · rw [if_pos c, if_pos c, Int64.sub_zero (gJ M 43 p + gJ M 43 p * (mI M 37).toInt64 / 100)]
    exact h.bookG hL (b := 1) (t := mI M 37) (x := gJ M 43 p * (mI M 37).toInt64 / 100) (dy := mI M 1) (du := mI M 1 + gI M 33 (gI M 21 (gI M 40 p / 4))) hp h0 hV hQ hY
  · rw [if_neg c, if_neg c, Int64.add_sub_cancel (gJ M 43 p) (gJ M 43 p * (mI M 37).toInt64 / 100)]
    exact h.bookG hL (b := 0) (t := mI M 37) (x := gJ M 43 p * (mI M 37).toInt64 / 100) (dy := mI M 1) (du := mI M 1 + gI M 33 (gI M 21 (gI M 40 p / 4))) hp h0 hV hQ hY
end HB3
