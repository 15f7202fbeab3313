/-- which roles live -/
def lvb (X : CX) (kd i : Nat) : Prop := match kd with
  | 1 => i < 6
  | 2 => i < xSz X 27 0
  | 3 => i < xSz X 25 0
  | 4 => i / 4 < xSz X 24 0 ∧ i % 4 < xSz X 29 (i / 4)
  | 5 => i < 3
  | 6 => i < xSz X 20 0
  | 7 => i < 18
  | 8 => i < xSz X 24 0
  | 9 => i < 6
  | 10 => i < xSz X 26 0
  | 11 => i = 0
  | 20 => i = 0
  | 21 => i = 0
  | 22 => i = 0
  | 23 => i = 0
  | 24 => i = 0
  | 25 => i = 0
  | 26 => i = 0
  | 27 => i = 0
  | 28 => i < 6
  | 29 => i < xSz X 24 0
  | 30 => i = 0 ∧ xCp X 20 i ≠ 0
  | 31 => i = 0 ∧ xCp X 21 i ≠ 0
  | 32 => i = 0 ∧ xCp X 22 i ≠ 0
  | 33 => i = 0 ∧ xCp X 23 i ≠ 0
  | 34 => i = 0 ∧ xCp X 24 i ≠ 0
  | 35 => i = 0 ∧ xCp X 25 i ≠ 0
  | 36 => i = 0 ∧ xCp X 26 i ≠ 0
  | 37 => i = 0 ∧ xCp X 27 i ≠ 0
  | 38 => i < 6 ∧ xCp X 28 i ≠ 0
  | 39 => i < xSz X 24 0 ∧ xCp X 29 i ≠ 0
  | 40 => i = 0
  | 41 => i = 0
  | _ => False
/-- the roles are these; lists have the rooms that lists have; there is never too much of anything -/
def LVX (X : CX) : Prop := (∀ kd i, lv X kd i ↔ lvb X kd i) ∧ (∀ L i, 20 ≤ L → L < 30 → lv X L i → GC (xCp X L i)) ∧ (xSz X 20 0 ≤ 12 ∧ xSz X 21 0 = 6 ∧ xSz X 22 0 = 3 ∧ xSz X 23 0 = 6 ∧ xSz X 24 0 ≤ 40 ∧ xSz X 25 0 ≤ 60 ∧ xSz X 26 0 ≤ 30 ∧ xSz X 27 0 ≤ 40) ∧ (∀ i, i < 6 → xSz X 28 i = 3) ∧ ∀ i, i < xSz X 24 0 → xSz X 29 i ≤ 4
theorem lvb_in {X : CX} {kd i : Nat} (h : LVX X) (hl : lv X kd i) : i < 160 ∧ ((1 ≤ kd ∧ kd < 12) ∨ (20 ≤ kd ∧ kd < 42)) := by
  obtain ⟨h1, -, ⟨s0, s1, s2, s3, s4, s5, s6, s7⟩, -, -⟩ := h
  have h9 := (h1 kd i).mp hl
  unfold lvb at h9
  split at h9 <;> first | omega | exact h9.elim
theorem LW_of {X : CX} (hX : XOK X) (h : LVX X) {L i : Nat} (h1 : 20 ≤ L) (h2 : L < 30) (hl : lv X L i) : LW X L i := by
  have h9 := (h.1 L i).mp hl
  have hi := (lvb_in h hl).1
  obtain ⟨-, -, h3, ⟨h4, h5⟩, -⟩ := hX
  by_cases e8 : L = 28
  · subst e8
    have h6 : lv X 1 i := (h.1 1 i).mpr h9
    have h7 := h4 (nI i) ⟨i, by omega, rfl, h6⟩
    rwa [nI_clamp (by omega)] at h7
  · by_cases e9 : L = 29
    · subst e9
      have h6 : lv X 8 i := (h.1 8 i).mpr h9
      have h7 := h5 (nI i) ⟨i, by omega, rfl, h6⟩
      rwa [nI_clamp (by omega)] at h7
    · have h6 : i = 0 := by
        unfold lvb at h9
        split at h9 <;> first | omega | exact h9.elim
      subst h6
      exact h3 L h1 (by omega)
theorem lv_ar {X : CX} (h : LVX X) {L i : Nat} (h1 : 30 ≤ L) (h2 : L < 40) (hl : lv X L i) : lv X (L - 10) i ∧ xCp X (L - 10) i ≠ 0 := by
  have h9 := (h.1 L i).mp hl
  have hL : L = 30 ∨ L = 31 ∨ L = 32 ∨ L = 33 ∨ L = 34 ∨ L = 35 ∨ L = 36 ∨ L = 37 ∨ L = 38 ∨ L = 39 := by omega
  rcases hL with e | e | e | e | e | e | e | e | e | e <;> subst e <;> exact ⟨(h.1 _ i).mpr h9.1, h9.2⟩
theorem EA_of {X : CX} (hX : XOK X) (h : LVX X) : EA X := by
  intro L i h1 h2 hl q hq
  have h9 := lv_ar h h1 h2 hl
  exact (hX.2.2.2.2.1 (L - 10) i q (LW_of hX h (by omega) (by omega) h9.1) hq).2
def okct3 (f t kd : Nat) : Bool := (f == 196 && (t == 6 && kd == 6)) || ((f == 262 && (t == 6 && kd == 8)) || ((f == 263 && (t == 6 && kd == 8)) || ((f == 264 && (t == 9 && kd == 8)) || ((f == 289 && (t == 5 && kd == 9)) || ((f == 362 && (t == 6 && kd == 11)))))))
theorem ct3 : ∀ kd, kd < 20 → ∀ j, j < 18 → j < nF kd → (ct (32 * kd + j)).1 = 3 → okct3 (32 * kd + j) (ct (32 * kd + j)).2 kd = true := by decide +kernel
def okct7 (f t kd : Nat) : Bool := (f == 64 && (t == 6 && kd == 2)) || ((f == 96 && (t == 8 && kd == 3)) || ((f == 97 && (t == 4 && kd == 3)) || ((f == 98 && (t == 9 && kd == 3)) || ((f == 193 && (t == 6 && kd == 6)) || ((f == 256 && (t == 6 && kd == 8)) || ((f == 257 && (t == 1 && kd == 8))))))))
theorem ct7 : ∀ kd, kd < 20 → ∀ j, j < 18 → j < nF kd → (ct (32 * kd + j)).1 = 7 → okct7 (32 * kd + j) (ct (32 * kd + j)).2 kd = true := by decide +kernel
theorem RO_of {X : CX} {S : CT} (hX : XOK X) (h : LVX X) (hT : TS X S) : RO X S := by
  intro kd i j hl hk hj
  have hi := (lvb_in h hl).1
  have hj18 := nF_le kd
  have hII : ∀ kd', kd = kd' → lI X kd' (nI i) := fun kd' e => ⟨i, by omega, rfl, e ▸ hl⟩
  have hcl : (nI i).toNatClampNeg = i := nI_clamp (by omega)
  refine ⟨fun h3 => ?_, fun h7 => ?_⟩
  · have h9 := ct3 kd hk j (by omega) hj h3
    simp only [okct3, Bool.or_eq_true, Bool.and_eq_true, beq_iff_eq] at h9
    rcases h9 with ⟨e1, e2, e3⟩ | ⟨e1, e2, e3⟩ | ⟨e1, e2, e3⟩ | ⟨e1, e2, e3⟩ | ⟨e1, e2, e3⟩ | ⟨e1, e2, e3⟩ <;> rw [e2, e1]
    · have := hT.sub (hII 6 e3); unfold ci at this; rwa [hcl] at this
    · have := hT.turn (hII 8 e3); unfold ci at this; rwa [hcl] at this
    · have := hT.ext (hII 8 e3); unfold ci at this; rwa [hcl] at this
    · have := hT.sup (hII 8 e3); unfold ci at this; rwa [hcl] at this
    · have := hT.mon (hII 9 e3); unfold ci at this; rw [hcl] at this; exact Or.inr this
    · have h0 : i = 0 := by
        have := (h.1 kd i).mp hl
        rw [e3] at this
        exact this
      rw [h0]
      exact hT.ctl
  · have h9 := ct7 kd hk j (by omega) hj h7
    simp only [okct7, Bool.or_eq_true, Bool.and_eq_true, beq_iff_eq] at h9
    rcases h9 with ⟨e1, e2, e3⟩ | ⟨e1, e2, e3⟩ | ⟨e1, e2, e3⟩ | ⟨e1, e2, e3⟩ | ⟨e1, e2, e3⟩ | ⟨e1, e2, e3⟩ | ⟨e1, e2, e3⟩ <;> rw [e2, e1]
    · have := hX.enH (hII 2 e3); unfold xi at this; rw [hcl] at this; exact Or.inr this
    · have := hX.ivR (hII 3 e3); unfold xi at this; rw [hcl] at this; exact Or.inr this
    · have := hX.ivL (hII 3 e3); unfold xi at this; rw [hcl] at this; exact Or.inr this
    · have := hX.ivS (hII 3 e3); unfold xi at this; rw [hcl] at this; exact Or.inr this
    · have := hX.boss (hII 6 e3); unfold xi at this; rwa [hcl] at this
    · have := hX.asker (hII 8 e3); unfold xi at this; rw [hcl] at this; exact Or.inr this
    · have := hX.cent (hII 8 e3); unfold xi at this; rw [hcl] at this; exact Or.inr this
theorem LA_of {X : CX} (hX : XOK X) (h : LVX X) {L i : Nat} (h1 : 20 ≤ L) (h2 : L < 30) (hl : lv X L i) (hs : xSz X L i < 73) : LA X L i := by
  refine ⟨hX.1, EA_of hX h, LW_of hX h h1 h2 hl, ⟨h.2.1 L i h1 h2 hl, hs⟩, fun e => dead.of hX.1 fun q => ?_⟩
  have h9 := (lv_ar h (L := L + 10) (by omega) (by omega) q).2
  rw [Nat.add_sub_cancel] at h9
  exact h9 e
theorem lI_mono {X X2 : CX} (hm : ∀ kd i, lv X kd i → lv X2 kd i) {kd : Nat} {x : Int32} (h : lI X kd x) : lI X2 kd x := by
  obtain ⟨n, hn, e, h9⟩ := h
  exact ⟨n, hn, e, hm _ _ h9⟩
theorem oI_mono {X X2 : CX} (hm : ∀ kd i, lv X kd i → lv X2 kd i) {kd : Nat} {x : Int32} (h : oI X kd x) : oI X2 kd x := h.imp id (lI_mono hm)
theorem XOK_of {X X2 : CX} (h : XOK X) (h1 : HX X2) (hm : ∀ kd i, lv X kd i → lv X2 kd i) (hl : ∀ L i, LW X L i → LW X2 L i) (hl' : ∀ L i q, LW X2 L i → q < xSz X2 L i → (LW X L i ∧ q < xSz X L i) ∨ (eI L i q < 2 ^ 30 ∧ lv X2 (eK L) (eI L i q))) (n1 : ∀ x, lI X2 1 x → lI X 1 x) (n8 : ∀ x, lI X2 8 x → (lI X 8 x ∧ xi X2 256 x = xi X 256 x ∧ xi X2 257 x = xi X 257 x) ∨ (LW X2 29 x.toNatClampNeg ∧ lI X2 6 (xi X2 256 x) ∧ lI X2 1 (xi X2 257 x))) (n3 : ∀ x, lI X2 3 x → (lI X 3 x ∧ xi X2 96 x = xi X 96 x ∧ xi X2 97 x = xi X 97 x ∧ xi X2 98 x = xi X 98 x) ∨ (lI X2 8 (xi X2 96 x) ∧ lI X2 4 (xi X2 97 x) ∧ lI X2 9 (xi X2 98 x))) (n2 : ∀ x, lI X2 2 x → (lI X 2 x ∧ xi X2 64 x = xi X 64 x) ∨ lI X2 6 (xi X2 64 x)) (n6 : ∀ x, lI X2 6 x → (lI X 6 x ∧ xi X2 193 x = xi X 193 x) ∨ oI X2 6 (xi X2 193 x)) : XOK X2 := by
  obtain ⟨-, ⟨a1, a2, a3⟩, b, ⟨c1, c2⟩, d, e1, e2, e3, e4⟩ := h
  refine ⟨h1, ⟨hm _ _ a1, hm _ _ a2, hm _ _ a3⟩, fun L g1 g2 => hl _ _ (b L g1 g2), ⟨fun x hx => hl _ _ (c1 x (n1 x hx)), fun x hx => ?_⟩, fun L i q g1 g2 => ?_, fun x hx => ?_, fun x hx => ?_, fun x hx => ?_, fun x hx => ?_⟩
  · rcases n8 x hx with ⟨z, -, -⟩ | ⟨z, -, -⟩
    · exact hl _ _ (c2 x z)
    · exact z
  · rcases hl' L i q g1 g2 with ⟨z1, z2⟩ | z
    · exact ⟨(d L i q z1 z2).1, hm _ _ (d L i q z1 z2).2⟩
    · exact z
  · rcases n8 x hx with ⟨z, y1, y2⟩ | ⟨-, y1, y2⟩
    · rw [y1, y2]
      exact ⟨lI_mono hm (e1 x z).1, lI_mono hm (e1 x z).2⟩
    · exact ⟨y1, y2⟩
  · rcases n3 x hx with ⟨z, y1, y2, y3⟩ | z
    · rw [y1, y2, y3]
      exact ⟨lI_mono hm (e2 x z).1, lI_mono hm (e2 x z).2.1, lI_mono hm (e2 x z).2.2⟩
    · exact z
  · rcases n2 x hx with ⟨z, y⟩ | z
    · rw [y]
      exact lI_mono hm (e3 x z)
    · exact z
  · rcases n6 x hx with ⟨z, y⟩ | z
    · rw [y]
      exact oI_mono hm (e4 x z)
    · exact z
theorem TS_of {X X2 : CX} {S S2 : CT} (h : TS X S) (hm : ∀ kd i, lv X kd i → lv X2 kd i) (h0 : ci S2 362 0 = ci S 362 0) (n6 : ∀ x, lI X2 6 x → (lI X 6 x ∧ ci S2 196 x = ci S 196 x) ∨ oI X2 6 (ci S2 196 x)) (n9 : ∀ x, lI X2 9 x → lI X 9 x ∧ ci S2 289 x = ci S 289 x) (n8 : ∀ x, lI X2 8 x → (lI X 8 x ∧ ci S2 262 x = ci S 262 x ∧ ci S2 263 x = ci S 263 x ∧ ci S2 264 x = ci S 264 x) ∨ (oI X2 6 (ci S2 262 x) ∧ oI X2 6 (ci S2 263 x) ∧ oI X2 9 (ci S2 264 x))) : TS X2 S2 := by
  obtain ⟨a, b, c, d⟩ := h
  refine ⟨by rw [h0]; exact oI_mono hm a, fun x hx => ?_, fun x hx => ?_, fun x hx => ?_⟩
  · rcases n6 x hx with ⟨z, y⟩ | z
    · rw [y]; exact oI_mono hm (b x z)
    · exact z
  · rw [(n9 x hx).2]; exact lI_mono hm (c x (n9 x hx).1)
  · rcases n8 x hx with ⟨z, y1, y2, y3⟩ | z
    · rw [y1, y2, y3]
      exact ⟨oI_mono hm (d x z).1, oI_mono hm (d x z).2.1, oI_mono hm (d x z).2.2⟩
    · exact z
/-- a list that took one more keeps what holds -/
theorem XOK.ad {X X2 : CX} {Li i : Nat} (h : XOK X) (hA : AD X X2 Li i) (hw : LW X Li i) (he : eI Li i (xSz X Li i) < 2 ^ 30 ∧ lv X (eK Li) (eI Li i (xSz X Li i))) : XOK X2 := by
  obtain ⟨a1, ⟨a2, a2'⟩, a3, a4, a5, ⟨a6, a6'⟩, a7, -⟩ := hA
  have h2 := hw.1
  have hm : ∀ kd j, lv X kd j → lv X2 kd j := fun kd j z => (a7 kd j).mpr (Or.inl z)
  have hlow : ∀ kd j, kd < 30 → lv X2 kd j → lv X kd j := fun kd j z y => ((a7 kd j).mp y).elim id (fun q => by omega)
  have hI : ∀ kd x, kd < 30 → lI X2 kd x → lI X kd x := fun kd x z ⟨n, hn, e, y⟩ => ⟨n, hn, e, hlow _ _ z y⟩
  have h73 : xCp X2 Li i ≤ 73 := by
    unfold GC at a6'
    omega
  have hS : ∀ L j, xSz X2 L j = if L = Li ∧ j = i then xSz X Li i + 1 else xSz X L j := fun L j => by rw [a4]
  have hX2 : ∀ f x, xi X2 f x = xi X f x := fun f x => by unfold xi; rw [a2]
  refine XOK_of h a1 hm (fun L j ⟨g1, g2, g3, g4, g5⟩ => ⟨g1, hm _ _ g2, ?_⟩) (fun L j q ⟨g1, g2, g3, g4, g5⟩ hq => ?_) (fun x hx => hI 1 x (by omega) hx) (fun x hx => Or.inl ⟨hI 8 x (by omega) hx, hX2 _ _, hX2 _ _⟩) (fun x hx => Or.inl ⟨hI 3 x (by omega) hx, hX2 _ _, hX2 _ _, hX2 _ _⟩) (fun x hx => Or.inl ⟨hI 2 x (by omega) hx, hX2 _ _⟩) (fun x hx => Or.inl ⟨hI 6 x (by omega) hx, hX2 _ _⟩)
  · by_cases z : L = Li ∧ j = i
    · obtain ⟨rfl, rfl⟩ := z
      rw [hS, if_pos ⟨rfl, rfl⟩]
      exact ⟨a6, by omega, fun _ => (a7 _ _).mpr (Or.inr ⟨rfl, rfl⟩)⟩
    · rw [hS, if_neg z, a5 L j z]
      exact ⟨g3, g4, fun q => hm _ _ (g5 q)⟩
  · by_cases z : L = Li ∧ j = i
    · obtain ⟨rfl, rfl⟩ := z
      rw [hS, if_pos ⟨rfl, rfl⟩] at hq
      by_cases e : q = xSz X L j
      · rw [e]
        exact Or.inr ⟨he.1, hm _ _ he.2⟩
      · exact Or.inl ⟨hw, by omega⟩
    · rw [hS, if_neg z] at hq g3
      rw [a5 L j z] at g3 g4 g5
      exact Or.inl ⟨⟨g1, hlow _ _ (by omega) g2, g3, g4, fun q9 => ((a7 _ _).mp (g5 q9)).elim id (fun y => absurd ⟨by omega, y.2⟩ z)⟩, hq⟩
