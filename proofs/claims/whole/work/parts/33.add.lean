/-- the room a list may have -/
def GC (c : Nat) : Prop := c = 0 ∨ c = 10 ∨ c = 15 ∨ c = 22 ∨ c = 33 ∨ c = 49 ∨ c = 73
theorem ls_sz {X : CX} {L n s cp : Nat} {mc : Int32} : xSz (lsX X L n s cp mc) L n = s := if_pos ⟨rfl, rfl⟩
theorem ls_cp {X : CX} {L n s cp : Nat} {mc : Int32} : xCp (lsX X L n s cp mc) L n = cp := if_pos ⟨rfl, rfl⟩
theorem ls_mc {X : CX} {L n s cp : Nat} {mc : Int32} : xMc (lsX X L n s cp mc) L n = mc := if_pos ⟨rfl, rfl⟩
theorem ls_ad {X : CX} {L n s cp : Nat} {mc : Int32} : xAd (lsX X L n s cp mc) = xAd X := rfl
theorem ad_ad {X : CX} {kd n a : Nat} : xAd (adX X kd n a) kd n = a := if_pos ⟨rfl, rfl⟩
theorem ad_ne {X : CX} {kd n a kd' i : Nat} (h : ¬ (kd' = kd ∧ i = n)) : xAd (adX X kd n a) kd' i = xAd X kd' i := if_neg h
/-- a list took one more -/
def AD (X X2 : CX) (Li i : Nat) : Prop := HX X2 ∧ (xFi X2 = xFi X ∧ xFj X2 = xFj X) ∧ (∀ kd j, ¬ (kd = Li + 10 ∧ j = i) → xAd X2 kd j = xAd X kd j) ∧ (xSz X2 = fun L j => if L = Li ∧ j = i then xSz X Li i + 1 else xSz X L j) ∧ (∀ L j, ¬ (L = Li ∧ j = i) → xCp X2 L j = xCp X L j) ∧ (xSz X Li i + 1 ≤ xCp X2 Li i ∧ GC (xCp X2 Li i)) ∧ (∀ kd j, lv X2 kd j ↔ lv X kd j ∨ (kd = Li + 10 ∧ j = i)) ∧ xAs X ⊆ xAs X2
theorem dom_eq {k : KC} {X : CX} {S : CT} {L i : Nat} (hX : HX X) (h : lv X L i) : (cW k X S).2 (xAd X L i) = cE k X S L i := (cW_in hX h).2
/-- nobody asks for an array's role any more -/
def rlX (X : CX) (a : Nat) (e : va_E) : CX := (xAs X, va_up (xTg X) a none, xAd X, va_up (xGb X) a e, xFi X, xFj X, xSz X, xCp X, xMc X)
theorem cW_rl {k : KC} {X : CX} {S : CT} {a : Nat} : cW k (rlX X a ((cW k X S).2 a)) S = cW k X S := by
  refine Prod.ext rfl (funext fun b => ?_)
  show (match va_up (xTg X) a none b with | some r => cE k X S r.1 r.2 | none => va_up (xGb X) a ((cW k X S).2 a) b) = (cW k X S).2 b
  by_cases hb : b = a
  · subst hb
    rw [va_up_self, va_up_self]
  · rw [va_up_ne _ _ hb, va_up_ne _ _ hb]
    rfl
theorem HX.rl {X : CX} (hX : HX X) {a : Nat} {e : va_E} : HX (rlX X a e) := fun b kd i h => by
  have h1 : va_up (xTg X) a none b = some (kd, i) := h
  by_cases hb : b = a
  · subst hb
    rw [va_up_self] at h1
    cases h1
  · rw [va_up_ne _ _ hb] at h1
    exact hX b kd i h1
theorem lv_rl {X : CX} (hX : HX X) {L i kd j : Nat} {e : va_E} (h : lv X L i) : lv (rlX X (xAd X L i) e) kd j ↔ lv X kd j ∧ ¬ (kd = L ∧ j = i) := by
  show va_up (xTg X) (xAd X L i) none (xAd X kd j) = some (kd, j) ↔ _
  by_cases hb : xAd X kd j = xAd X L i
  · rw [hb, va_up_self]
    refine ⟨fun e => (by cases e), fun ⟨e, n⟩ => ?_⟩
    unfold lv at e h
    rw [hb, h] at e
    injection e with e
    injection e with e1 e2
    exact absurd ⟨e1.symm, e2.symm⟩ n
  · rw [va_up_ne _ _ hb]
    refine ⟨fun e => ⟨e, fun q => hb (by rw [q.1, q.2])⟩, fun e => e.1⟩
theorem cW_addi {k : KC} {X : CX} {S : CT} {Li i : Nat} (hX : HX X) (hL : LW X Li i) (hlt : xSz X Li i < xCp X Li i) : ((cW k X S).1, va_up (va_up (cW k X S).2 (xAd X (Li + 10) i) (.inl (k.2.2.2.2.1, xCp X Li i, .inr (.inr (.inr (.inr (va_up (fun q => if q < xSz X Li i then some (xAd X (eK Li) (eI Li i q)) else none) (xSz X Li i) (some (xAd X (eK Li) (eI Li i (xSz X Li i))))))))))) (xAd X Li i) (.inr (0, [.int (xMc X Li i + 1), .ref (xAd X (Li + 10) i), .int (nI (xSz X Li i + 1))]))) = cW k (lsX X Li i (xSz X Li i + 1) (xCp X Li i) (xMc X Li i + 1)) S := by
  obtain ⟨⟨g1, g2⟩, l1, -, -, l2⟩ := hL
  have hc : xCp X Li i ≠ 0 := by omega
  have l3 := l2 hc
  refine Prod.ext rfl (funext fun b => ?_)
  show (if b = xAd X Li i then _ else if b = xAd X (Li + 10) i then _ else match xTg X b with | some r => cE k X S r.1 r.2 | none => xGb X b) = (match xTg X b with | some r => cE k (lsX X Li i (xSz X Li i + 1) (xCp X Li i) (xMc X Li i + 1)) S r.1 r.2 | none => xGb X b)
  by_cases hb : b = xAd X Li i
  · rw [if_pos hb, hb]
    unfold lv at l1
    rw [l1]
    show _ = cE k (lsX X Li i (xSz X Li i + 1) (xCp X Li i) (xMc X Li i + 1)) S Li i
    unfold cE
    rw [if_neg (by omega), if_pos (by omega)]
    rw [ls_mc, ls_cp, ls_sz, if_neg hc]
    rfl
  · rw [if_neg hb]
    by_cases hb2 : b = xAd X (Li + 10) i
    · rw [if_pos hb2, hb2]
      unfold lv at l3
      rw [l3]
      show _ = cE k (lsX X Li i (xSz X Li i + 1) (xCp X Li i) (xMc X Li i + 1)) S (Li + 10) i
      unfold cE
      rw [if_neg (by omega), if_neg (by omega), if_pos (by omega)]
      simp only [Nat.add_sub_cancel]
      rw [ls_cp, ls_sz, ls_ad]
      congr 7
      funext q
      unfold va_up
      by_cases e : q = xSz X Li i
      · rw [if_pos e, if_pos (by omega), e]
      · rw [if_neg e]
        show (if q < xSz X Li i then some (xAd X (eK Li) (eI Li i q)) else none) = _
        by_cases e2 : q < xSz X Li i
        · rw [if_pos e2, if_pos (by omega)]
        · rw [if_neg e2, if_neg (by omega)]
    · rw [if_neg hb2]
      cases h9 : xTg X b with
      | none => rfl
      | some r =>
        have hba := (hX b r.1 r.2 h9).1
        have n1 : ¬ (r.1 = Li ∧ r.2 = i) := fun q => hb (by rw [hba, q.1, q.2])
        have n2 : ¬ (r.1 = Li + 10 ∧ r.2 = i) := fun q => hb2 (by rw [hba, q.1, q.2])
        refine (cE_ext (X := X) (X1 := lsX X Li i (xSz X Li i + 1) (xCp X Li i) (xMc X Li i + 1)) (fun h20 j hj => cR_ext rfl rfl rfl rfl (fun _ => rfl) (fun _ => rfl) (fun _ => rfl)) (fun g3 g4 => ⟨if_neg n1, if_neg n1, if_neg n1, fun _ => rfl⟩) (fun g3 g4 => ⟨if_neg (fun z => n2 ⟨by omega, z.2⟩), if_neg (fun z => n2 ⟨by omega, z.2⟩), fun _ _ => rfl⟩) (fun _ => rfl) (fun _ => rfl)).symm
theorem AD.i {X : CX} {Li i : Nat} (hX : HX X) (hL : LW X Li i) (hlt : xSz X Li i < xCp X Li i) (hG : GC (xCp X Li i)) {mc : Int32} : AD X (lsX X Li i (xSz X Li i + 1) (xCp X Li i) mc) Li i := by
  refine ⟨hX, ⟨rfl, rfl⟩, fun _ _ _ => rfl, rfl, fun L j h => if_neg h, ?_, fun kd j => ?_, List.Subset.refl _⟩
  · rw [ls_cp]
    exact ⟨hlt, hG⟩
  · show lv X kd j ↔ _
    refine ⟨Or.inl, fun q => q.elim id fun z => ?_⟩
    rw [z.1, z.2]
    exact hL.2.2.2.2 (by omega)
def gwX (X : CX) (Li i q s M : Nat) (mc : Int32) (e : va_E) : CX := lsX (obX X (Li + 10) i q e) Li i s M mc
theorem cW_addg {k : KC} {X : CX} {S : CT} {Li i : Nat} {q M : Nat} {e : va_E} (hX : HX X) (hE : EA X) (hL : 20 ≤ Li ∧ Li < 30) (l1 : lv X Li i) (hd : dead X (Li + 10) i) (hq : q ∉ xAs X) (hM : M ≠ 0) : ((cW k X S).1 ++ [q], va_up (va_up (cW k X S).2 q (.inl (k.2.2.2.2.1, M, .inr (.inr (.inr (.inr (fun m => if m < xSz X Li i + 1 then some (xAd X (eK Li) (eI Li i m)) else none))))))) (xAd X Li i) (.inr (0, [.int (xMc X Li i + 1), .ref q, .int (nI (xSz X Li i + 1))]))) = cW k (gwX X Li i q (xSz X Li i + 1) M (xMc X Li i + 1) e) S := by
  obtain ⟨g1, g2⟩ := hL
  have hbq : xAd X Li i ≠ q := fun z => hq (z ▸ (hX _ _ _ l1).2)
  refine Prod.ext rfl (funext fun b => ?_)
  show (if b = xAd X Li i then _ else if b = q then _ else match xTg X b with | some r => cE k X S r.1 r.2 | none => xGb X b) = (match va_up (xTg X) q (some (Li + 10, i)) b with | some r => cE k (gwX X Li i q (xSz X Li i + 1) M (xMc X Li i + 1) e) S r.1 r.2 | none => va_up (xGb X) q e b)
  by_cases hb : b = xAd X Li i
  · rw [if_pos hb, hb, va_up_ne _ _ hbq]
    unfold lv at l1
    rw [l1]
    show _ = cE k (gwX X Li i q (xSz X Li i + 1) M (xMc X Li i + 1) e) S Li i
    unfold cE
    rw [if_neg (by omega), if_pos (by omega)]
    unfold gwX
    rw [ls_mc, ls_cp, ls_sz, if_neg hM, ls_ad, ad_ad]
  · rw [if_neg hb]
    by_cases hb2 : b = q
    · rw [if_pos hb2, hb2, va_up_self]
      show _ = cE k (gwX X Li i q (xSz X Li i + 1) M (xMc X Li i + 1) e) S (Li + 10) i
      unfold cE
      rw [if_neg (by omega), if_neg (by omega), if_pos (by omega)]
      simp only [Nat.add_sub_cancel]
      unfold gwX
      rw [ls_cp, ls_sz, ls_ad]
      have h20 := eK_lt Li
      congr 7
      funext m
      rw [ad_ne (fun z => by omega)]
      rfl
    · rw [if_neg hb2, va_up_ne _ _ hb2]
      cases h9 : xTg X b with
      | none => exact (va_up_ne _ _ hb2).symm
      | some r =>
        have hba := (hX b r.1 r.2 h9).1
        have n1 : ¬ (r.1 = Li ∧ r.2 = i) := fun q => hb (by rw [hba, q.1, q.2])
        have n2 : ¬ (r.1 = Li + 10 ∧ r.2 = i) := fun z => hd b (by rw [h9, ← z.1, ← z.2])
        refine (cE_ext (X := X) (X1 := gwX X Li i q (xSz X Li i + 1) M (xMc X Li i + 1) e) (fun h20 j hj => ?_) (fun g3 g4 => ⟨if_neg n1, if_neg n1, if_neg n1, fun _ => if_neg (fun z => n1 ⟨by omega, z.2⟩)⟩) (fun g3 g4 => ⟨if_neg (fun z => n2 ⟨by omega, z.2⟩), if_neg (fun z => n2 ⟨by omega, z.2⟩), fun m _ => if_neg (fun z => by have := eK_lt (r.1 - 10); omega)⟩) (fun _ => rfl) (fun _ => rfl)).symm
        have hj18 := nF_le r.1
        have hvr : ∀ t x, t < 20 → vr (gwX X Li i q (xSz X Li i + 1) M (xMc X Li i + 1) e) t x = vr X t x := fun t x ht => by
          unfold vr
          split
          · rfl
          · congr 1
            exact if_neg (by omega)
        refine cR_ext rfl rfl rfl rfl (fun h3 => hvr _ _ (ct37 r.1 h20 j (by omega) hj (Or.inl h3))) (fun h7 => hvr _ _ (ct37 r.1 h20 j (by omega) hj (Or.inr h7))) (fun h8 => if_neg ?_)
        have := (ct8 r.1 h20 j (by omega) hj h8)
        omega
theorem AD.g {X : CX} {Li i q M : Nat} {mc : Int32} {e : va_E} (hX : HX X) (hd : dead X (Li + 10) i) (hq : q ∉ xAs X) (hM : xSz X Li i + 1 ≤ M) (hG : GC M) : AD X (gwX X Li i q (xSz X Li i + 1) M mc e) Li i := by
  have htq : xTg (nwX X q e) q = none := hX.tg hq
  refine ⟨hX.nw.ad (List.mem_append_right _ List.mem_cons_self) hd, ⟨rfl, rfl⟩, fun kd j h => if_neg h, rfl, fun L j h => if_neg h, ?_, fun kd j => lv_ad htq, fun x hx => List.mem_append_left _ hx⟩
  unfold gwX
  rw [ls_cp]
  exact ⟨hM, hG⟩
theorem AD.rl {X X2 : CX} {Li i : Nat} {e : va_E} (hX : HX X) (hl : lv X (Li + 10) i) (h : AD (rlX X (xAd X (Li + 10) i) e) X2 Li i) : AD X X2 Li i := by
  obtain ⟨a1, a2, a3, a4, a5, a6, a7, a8⟩ := h
  refine ⟨a1, a2, a3, a4, a5, a6, fun kd j => ?_, a8⟩
  rw [a7, lv_rl hX hl]
  by_cases z : kd = Li + 10 ∧ j = i
  · exact ⟨fun _ => Or.inr z, fun _ => Or.inr z⟩
  · exact ⟨fun y => y.elim (fun x => Or.inl x.1) Or.inr, fun y => y.elim (fun x => Or.inl ⟨x, z⟩) Or.inr⟩
