/-- the room a list may have -/
def GC (c : Nat) : Prop := c = 0 ∨ c = 10 ∨ c = 15 ∨ c = 22 ∨ c = 33 ∨ c = 49 ∨ c = 73
theorem ls_sz {X : CX} {L n s cp : Nat} {mc : Int32} : xSz (lsX X L n s cp mc) L n = s := if_pos ⟨rfl, rfl⟩
theorem ls_cp {X : CX} {L n s cp : Nat} {mc : Int32} : xCp (lsX X L n s cp mc) L n = cp := if_pos ⟨rfl, rfl⟩
theorem ls_mc {X : CX} {L n s cp : Nat} {mc : Int32} : xMc (lsX X L n s cp mc) L n = mc := if_pos ⟨rfl, rfl⟩
theorem ls_ad {X : CX} {L n s cp : Nat} {mc : Int32} : xAd (lsX X L n s cp mc) = xAd X := rfl
theorem ad_ad {X : CX} {kd n a : Nat} : xAd (adX X kd n a) kd n = a := if_pos ⟨rfl, rfl⟩
theorem ad_ne {X : CX} {kd n a kd' i : Nat} (h : ¬ (kd' = kd ∧ i = n)) : xAd (adX X kd n a) kd' i = xAd X kd' i := if_neg h
/-- a list took one more -/
def AD (X X2 : CX) (Li i : Nat) : Prop := HX X2 ∧ (xFi X2 = xFi X ∧ xFj X2 = xFj X) ∧ (∀ kd j, ¬ (kd = Li + 10 ∧ j = i) → xAd X2 kd j = xAd X kd j) ∧ (xSz X2 = fun L j => if L = Li ∧ j = i then xSz X Li i + 1 else xSz X L j) ∧ (∀ L j, ¬ (L = Li ∧ j = i) → xCp X2 L j = xCp X L j) ∧ (xSz X Li i + 1 ≤ xCp X2 Li i ∧ GC (xCp X2 Li i)) ∧ (∀ kd j, lv X2 kd j ↔ lv X kd j ∨ (kd = Li + 10 ∧ j = i)) ∧ xAs X ⊆ xAs X2
theorem dom_eq {k : KC} {X : CX} {S : CT} {L i : Nat} (hX : HX X) (h : lv X L i) : (cW k X S).2 (xAd X L i) = cE k X S L i := (cW_in hX h).2
/-- nobody asks for an array's role any more -/
def rlX (X : CX) (a : Nat) (e : va_E) : CX := (xAs X, va_up (xTg X) a none, xAd X, va_up (xGb X) a e, xFi X, xFj X, xSz X, xCp X, xMc X)
theorem cW_rl {k : KC} {X : CX} {S : CT} {a : Nat} : cW k (rlX X a ((cW k X S).2 a)) S = cW k X S := by
  refine Prod.ext rfl (funext fun b => ?_)
  show (match va_up (xTg X) a none b with | some r => cE k X S r.1 r.2 | none => va_up (xGb X) a ((cW k X S).2 a) b) = (cW k X S).2 b
  by_cases hb : b = a
  · subst hb
    rw [va_up_self, va_up_self]
  · rw [va_up_ne _ _ hb, va_up_ne _ _ hb]
    rfl
theorem HX.rl {X : CX} (hX : HX X) {a : Nat} {e : va_E} : HX (rlX X a e) := fun b kd i h => by
  have h1 : va_up (xTg X) a none b = some (kd, i) := h
  by_cases hb : b = a
  · subst hb
    rw [va_up_self] at h1
    cases h1
  · rw [va_up_ne _ _ hb] at h1
    exact hX b kd i h1
theorem lv_rl {X : CX} (hX : HX X) {L i kd j : Nat} {e : va_E} (h : lv X L i) : lv (rlX X (xAd X L i) e) kd j ↔ lv X kd j ∧ ¬ (kd = L ∧ j = i) := by
  show va_up (xTg X) (xAd X L i) none (xAd X kd j) = some (kd, j) ↔ _
  by_cases hb : xAd X kd j = xAd X L i
  · rw [hb, va_up_self]
    refine ⟨fun e => (by cases e), fun ⟨e, n⟩ => ?_⟩
    unfold lv at e h
    rw [hb, h] at e
    injection e with e
    injection e with e1 e2
    exact absurd ⟨e1.symm, e2.symm⟩ n
  · rw [va_up_ne _ _ hb]
    refine ⟨fun e => ⟨e, fun q => hb (by rw [q.1, q.2])⟩, fun e => e.1⟩
theorem cW_addi {k : KC} {X : CX} {S : CT} {Li i : Nat} (hX : HX X) (hL : LW X Li i) (hlt : xSz X Li i < xCp X Li i) : ((cW k X S).1, va_up (va_up (cW k X S).2 (xAd X (Li + 10) i) (.inl (k.2.2.2.2.1, xCp X Li i, .inr (.inr (.inr (.inr (va_up (fun q => if q < xSz X Li i then some (xAd X (eK Li) (eI Li i q)) else none) (xSz X Li i) (some (xAd X (eK Li) (eI Li i (xSz X Li i))))))))))) (xAd X Li i) (.inr (0, [.int (xMc X Li i + 1), .ref (xAd X (Li + 10) i), .int (nI (xSz X Li i + 1))]))) = cW k (lsX X Li i (xSz X Li i + 1) (xCp X Li i) (xMc X Li i + 1)) S := by
  obtain ⟨⟨g1, g2⟩, l1, -, -, l2⟩ := hL
  have hc : xCp X Li i ≠ 0 := by omega
  have l3 := l2 hc
  refine Prod.ext rfl (funext fun b => ?_)
  show (if b = xAd X Li i then _ else if b = xAd X (Li + 10) i then _ else match xTg X b with | some r => cE k X S r.1 r.2 | none => xGb X b) = (match xTg X b with | some r => cE k (lsX X Li i (xSz X Li i + 1) (xCp X Li i) (xMc X Li i + 1)) S r.1 r.2 | none => xGb X b)
  by_cases hb : b = xAd X Li i
  · rw [if_pos hb, hb]
    unfold lv at l1
    rw [l1]
    show _ = cE k (lsX X Li i (xSz X Li i + 1) (xCp X Li i) (xMc X Li i + 1)) S Li i
    unfold cE
    rw [if_neg (by omega), if_pos (by omega)]
    rw [ls_mc, ls_cp, ls_sz, if_neg hc]
    rfl
  · rw [if_neg hb]
    by_cases hb2 : b = xAd X (Li + 10) i
    · rw [if_pos hb2, hb2]
      unfold lv at l3
      rw [l3]
      show _ = cE k (lsX X Li i (xSz X Li i + 1) (xCp X Li i) (xMc X Li i + 1)) S (Li + 10) i
      unfold cE
      rw [if_neg (by omega), if_neg (by omega), if_pos (by omega)]
      simp only [Nat.add_sub_cancel]
      rw [ls_cp, ls_sz, ls_ad]
      congr 7
      funext q
      unfold va_up
      by_cases e : q = xSz X Li i
      · rw [if_pos e, if_pos (by omega), e]
      · rw [if_neg e]
        show (if q < xSz X Li i then some (xAd X (eK Li) (eI Li i q)) else none) = _
        by_cases e2 : q < xSz X Li i
        · rw [if_pos e2, if_pos (by omega)]
        · rw [if_neg e2, if_neg (by omega)]
    · rw [if_neg hb2]
      cases h9 : xTg X b with
      | none => rfl
      | some r =>
        have hba := (hX b r.1 r.2 h9).1
        have n1 : ¬ (r.1 = Li ∧ r.2 = i) := fun q => hb (by rw [hba, q.1, q.2])
        have n2 : ¬ (r.1 = Li + 10 ∧ r.2 = i) := fun q => hb2 (by rw [hba, q.1, q.2])
        refine (cE_ext (X := X) (X1 := lsX X Li i (xSz X Li i + 1) (xCp X Li i) (xMc X Li i + 1)) (fun h20 j hj => cR_ext rfl rfl rfl rfl (fun _ => rfl) (fun _ => rfl) (fun _ => rfl)) (fun g3 g4 => ⟨if_neg n1, if_neg n1, if_neg n1, fun _ => rfl⟩) (fun g3 g4 => ⟨if_neg (fun z => n2 ⟨by omega, z.2⟩), if_neg (fun z => n2 ⟨by omega, z.2⟩), fun _ _ => rfl⟩) (fun _ => rfl) (fun _ => rfl)).symm
theorem AD.i {X : CX} {Li i : Nat} (hX : HX X) (hL : LW X Li i) (hlt : xSz X Li i < xCp X Li i) (hG : GC (xCp X Li i)) {mc : Int32} : AD X (lsX X Li i (xSz X Li i + 1) (xCp X Li i) mc) Li i := by
  refine ⟨hX, ⟨rfl, rfl⟩, fun _ _ _ => rfl, rfl, fun L j h => if_neg h, ?_, fun kd j => ?_, List.Subset.refl _⟩
  · rw [ls_cp]
    exact ⟨hlt, hG⟩
  · show lv X kd j ↔ _
    refine ⟨Or.inl, fun q => q.elim id fun z => ?_⟩
    rw [z.1, z.2]
    exact hL.2.2.2.2 (by omega)
def gwX (X : CX) (Li i q s M : Nat) (mc : Int32) (e : va_E) : CX := lsX (obX X (Li + 10) i q e) Li i s M mc
theorem cW_addg {k : KC} {X : CX} {S : CT} {Li i : Nat} {q M : Nat} {e : va_E} (hX : HX X) (hE : EA X) (hL : 20 ≤ Li ∧ Li < 30) (l1 : lv X Li i) (hd : dead X (Li + 10) i) (hq : q ∉ xAs X) (hM : M ≠ 0) : ((cW k X S).1 ++ [q], va_up (va_up (cW k X S).2 q (.inl (k.2.2.2.2.1, M, .inr (.inr (.inr (.inr (fun m => if m < xSz X Li i + 1 then some (xAd X (eK Li) (eI Li i m)) else none))))))) (xAd X Li i) (.inr (0, [.int (xMc X Li i + 1), .ref q, .int (nI (xSz X Li i + 1))]))) = cW k (gwX X Li i q (xSz X Li i + 1) M (xMc X Li i + 1) e) S := by
  obtain ⟨g1, g2⟩ := hL
  have hbq : xAd X Li i ≠ q := fun z => hq (z ▸ (hX _ _ _ l1).2)
  refine Prod.ext rfl (funext fun b => ?_)
  show (if b = xAd X Li i then _ else if b = q then _ else match xTg X b with | some r => cE k X S r.1 r.2 | none => xGb X b) = (match va_up (xTg X) q (some (Li + 10, i)) b with | some r => cE k (gwX X Li i q (xSz X Li i + 1) M (xMc X Li i + 1) e) S r.1 r.2 | none => va_up (xGb X) q e b)
  by_cases hb : b = xAd X Li i
  · rw [if_pos hb, hb, va_up_ne _ _ hbq]
    unfold lv at l1
    rw [l1]
    show _ = cE k (gwX X Li i q (xSz X Li i + 1) M (xMc X Li i + 1) e) S Li i
    unfold cE
    rw [if_neg (by omega), if_pos (by omega)]
    unfold gwX
    rw [ls_mc, ls_cp, ls_sz, if_neg hM, ls_ad, ad_ad]
  · rw [if_neg hb]
    by_cases hb2 : b = q
    · rw [if_pos hb2, hb2, va_up_self]
      show _ = cE k (gwX X Li i q (xSz X Li i + 1) M (xMc X Li i + 1) e) S (Li + 10) i
      unfold cE
      rw [if_neg (by omega), if_neg (by omega), if_pos (by omega)]
      simp only [Nat.add_sub_cancel]
      unfold gwX
      rw [ls_cp, ls_sz, ls_ad]
      have h20 := eK_lt Li
      congr 7
      funext m
      rw [ad_ne (fun z => by omega)]
      rfl
    · rw [if_neg hb2, va_up_ne _ _ hb2]
      cases h9 : xTg X b with
      | none => exact (va_up_ne _ _ hb2).symm
      | some r =>
        have hba := (hX b r.1 r.2 h9).1
        have n1 : ¬ (r.1 = Li ∧ r.2 = i) := fun q => hb (by rw [hba, q.1, q.2])
        have n2 : ¬ (r.1 = Li + 10 ∧ r.2 = i) := fun z => hd b (by rw [h9, ← z.1, ← z.2])
        refine (cE_ext (X := X) (X1 := gwX X Li i q (xSz X Li i + 1) M (xMc X Li i + 1) e) (fun h20 j hj => ?_) (fun g3 g4 => ⟨if_neg n1, if_neg n1, if_neg n1, fun _ => if_neg (fun z => n1 ⟨by omega, z.2⟩)⟩) (fun g3 g4 => ⟨if_neg (fun z => n2 ⟨by omega, z.2⟩), if_neg (fun z => n2 ⟨by omega, z.2⟩), fun m _ => if_neg (fun z => by have := eK_lt (r.1 - 10); omega)⟩) (fun _ => rfl) (fun _ => rfl)).symm
        have hj18 := nF_le r.1
        have hvr : ∀ t x, t < 20 → vr (gwX X Li i q (xSz X Li i + 1) M (xMc X Li i + 1) e) t x = vr X t x := fun t x ht => by
          unfold vr
          split
          · rfl
          · congr 1
            exact if_neg (by omega)
        refine cR_ext rfl rfl rfl rfl (fun h3 => hvr _ _ (ct37 r.1 h20 j (by omega) hj (Or.inl h3))) (fun h7 => hvr _ _ (ct37 r.1 h20 j (by omega) hj (Or.inr h7))) (fun h8 => if_neg ?_)
        have := (ct8 r.1 h20 j (by omega) hj h8)
        omega
theorem AD.g {X : CX} {Li i q M : Nat} {mc : Int32} {e : va_E} (hX : HX X) (hd : dead X (Li + 10) i) (hq : q ∉ xAs X) (hM : xSz X Li i + 1 ≤ M) (hG : GC M) : AD X (gwX X Li i q (xSz X Li i + 1) M mc e) Li i := by
  have htq : xTg (nwX X q e) q = none := hX.tg hq
  refine ⟨hX.nw.ad (List.mem_append_right _ List.mem_cons_self) hd, ⟨rfl, rfl⟩, fun kd j h => if_neg h, rfl, fun L j h => if_neg h, ?_, fun kd j => lv_ad htq, fun x hx => List.mem_append_left _ hx⟩
  unfold gwX
  rw [ls_cp]
  exact ⟨hM, hG⟩
theorem AD.rl {X X2 : CX} {Li i : Nat} {e : va_E} (hX : HX X) (hl : lv X (Li + 10) i) (h : AD (rlX X (xAd X (Li + 10) i) e) X2 Li i) : AD X X2 Li i := by
  obtain ⟨a1, a2, a3, a4, a5, a6, a7, a8⟩ := h
  refine ⟨a1, a2, a3, a4, a5, a6, fun kd j => ?_, a8⟩
  rw [a7, lv_rl hX hl]
  by_cases z : kd = Li + 10 ∧ j = i
  · exact ⟨fun _ => Or.inr z, fun _ => Or.inr z⟩
  · exact ⟨fun y => y.elim (fun x => Or.inl x.1) Or.inr, fun y => y.elim (fun x => Or.inl ⟨x, z⟩) Or.inr⟩
theorem ct_up {X : CX} {Li i n : Nat} : va_up (fun m => if m < n then some (xAd X (eK Li) (eI Li i m)) else none) n (some (xAd X (eK Li) (eI Li i n))) = (fun m => if m < (n + 1) then some (xAd X (eK Li) (eI Li i m)) else none) := by
  funext q
  unfold va_up
  by_cases e : q = n
  · rw [if_pos e, if_pos (by omega), e]
  · rw [if_neg e]
    show (if q < n then some (xAd X (eK Li) (eI Li i q)) else none) = _
    by_cases e2 : q < n
    · rw [if_pos e2, if_pos (by omega)]
    · rw [if_neg e2, if_neg (by omega)]
theorem ct_cp {f : Nat → Option Nat} {n : Nat} : (fun i => if i < n then (fun m => if m < n then f m else none) i else none) = fun m => if m < n then f m else none := by
  funext q
  show (if q < n then (if q < n then f q else none) else none) = _
  by_cases e : q < n
  · rw [if_pos e]
  · rw [if_neg e, if_neg e]
theorem ct_0 {f : Nat → Option Nat} : (fun m => if m < 0 then f m else none) = fun _ => none := by
  funext q
  exact if_neg (Nat.not_lt_zero q)
/-- how a full list grows -/
def gN (c : Nat) : Nat := if c = 10 then 15 else if c = 15 then 22 else if c = 22 then 33 else if c = 33 then 49 else 73
theorem gN_ok {c : Nat} (h : GC c) (h0 : c ≠ 0) (h7 : c < 73) : c < gN c ∧ gN c ≤ 73 ∧ GC (gN c) ∧ nI c + (if nI c + (1 : Int32) - nI c < nI c >>> ((1 : Int32) &&& 31) then nI c >>> ((1 : Int32) &&& 31) else nI c + (1 : Int32) - nI c) = nI (gN c) := by
  rcases h with e | e | e | e | e | e | e <;> subst e
  · exact absurd rfl h0
  · exact ⟨by decide, by decide, by unfold GC; decide, by decide +kernel⟩
  · exact ⟨by decide, by decide, by unfold GC; decide, by decide +kernel⟩
  · exact ⟨by decide, by decide, by unfold GC; decide, by decide +kernel⟩
  · exact ⟨by decide, by decide, by unfold GC; decide, by decide +kernel⟩
  · exact ⟨by decide, by decide, by unfold GC; decide, by decide +kernel⟩
  · omega
section ZA
variable {p : Program} {l : Launch} {e : Env} {R : Room} {s : State} {m : MethodId} {args : Array Value} {below : List Frame} {meth : Method} {c : Code}
variable {k : KC} {A : Nat → Prop} {nL : Nat} {Q : State → Prop} {bc bs pc : Nat} {L : List (Option Value)} {st : List Value} {h h1 : Wd} {own : String} {cc : ByteArray} {ret : Option FieldType} {X : CX} {S : CT}
/-- what a list needs to take one more -/
def LA (X : CX) (Li i : Nat) : Prop := HX X ∧ EA X ∧ LW X Li i ∧ (GC (xCp X Li i) ∧ xSz X Li i < 73) ∧ (xCp X Li i = 0 → dead X (Li + 10) i)
theorem z_add {Li kd idx bc1 bs1 : Nat} {x z : Int32} {r : vw_C} (G : GX p l R s m args meth c k A own cc nL ret) (hA : LA X Li x.toNatClampNeg) (hz : lI X kd z) (hk : eK Li = kd ∧ kd ≠ 0) (he : eI Li x.toNatClampNeg (xSz X Li x.toNatClampNeg) = z.toNatClampNeg) (hc : vwCl[kd]? = some r) (hca : (r.1, "java/lang/Object") ∈ xs_cast) (hlk : Cond.methodLink own idx yJx4a65c_add_9ea2d ∈ TB) (hR : rm_al_ad.frames + 1 ≤ R.frames ∧ 8 + (2 + 11) + rm_al_ad.locals ≤ R.locals) (hw8 : (st.map fun v => v.category).sum ≤ 8) (hb1 : bc1 + 1 ≤ bc) (hb2 : bs1 + 73 ≤ bs) (d : decode cc pc = .ok (.invokevirtual idx, 3)) (kk : ∀ X2, AD X X2 Li x.toNatClampNeg → Wx p l e R s m args below meth c k A nL Q bc1 bs1 (pc + 3) L (.int 1 :: st) (cW k X2 S)) : Wx p l e R s m args below meth c k A nL Q bc bs pc L (vr X kd z :: aR X Li x :: st) (cW k X S) := by
  obtain ⟨hX, hE, hL, ⟨hG, h73⟩, hd0⟩ := hA
  obtain ⟨⟨g1, g2⟩, l1, l4, l5, l2⟩ := hL
  have hL : LW X Li x.toNatClampNeg := ⟨⟨g1, g2⟩, l1, l4, l5, l2⟩
  have hob := hL.ob (k := k) (S := S) hX
  have hz9 := cW_in (k := k) (S := S) hX hz.lv
  have hkd : kd < 20 := by rw [← hk.1]; exact eK_lt Li
  have hzf : (cW k X S).2 (xAd X kd z.toNatClampNeg) = .inr (kd, cF X S kd z.toNatClampNeg) := by rw [hz9.2]; unfold cE; rw [if_pos hkd]
  have hV := h_Jx4a65c_add_9ea2d
  rw [hz.vr]
  have heK : xAd X (eK Li) (eI Li x.toNatClampNeg (xSz X Li x.toNatClampNeg)) = xAd X kd z.toNatClampNeg := by rw [hk.1, he]
  generalize hi : x.toNatClampNeg = i at *
  show Wx p l e R s m args below meth c k A nL Q bc bs pc L (.ref (xAd X kd z.toNatClampNeg) :: .ref (xAd X Li x.toNatClampNeg) :: st) (cW k X S)
  rw [hi]
  by_cases hc0 : xCp X Li i = 0
  · have hs0 : xSz X Li i = 0 := by omega
    rw [if_pos hc0, hs0, nI_0] at hob
    have hM := c_addz (k := k) G.2.2.2.2.2.2.2.2.2.1 hc hca hk.2 hz9.1 hzf hob.1 hob.2
    refine x_callV (n := 1) (ci := 0) (T := TJx4a65c) (N := 3) (As := [.ref (xAd X kd z.toNatClampNeg)]) (st := st) G hM hob.1 hob.2 rfl hlk hV.1 hV.2.1 hV.2.2.1 hV.2.2.2.1 hV.2.2.2.2 hR hw8 hb1 hb2 rfl rfl d (fun v9 h9 hp => ?_) (fun E h9 hp => ?_)
    · obtain ⟨q, hq, e1, rfl⟩ := hp
      cases e1
      have hE2 := cW_addg (k := k) (S := S) (M := 10) (e := .inr (0, [])) hX hE ⟨g1, g2⟩ l1 (hd0 hc0) hq (by decide)
      have hA2 := AD.g (M := 10) (mc := xMc X Li i + 1) (e := .inr (0, [])) hX (hd0 hc0) hq (by omega) (Or.inr (Or.inl rfl))
      rw [← ct_up, heK, hs0, ct_0] at hE2
      rw [hs0] at hA2
      have hk9 := kk _ hA2
      rw [← hE2] at hk9
      exact hk9
    · obtain ⟨q, hq, e1, -⟩ := hp
      cases e1
  · rw [if_neg hc0] at hob
    have har := hL.ar (k := k) (S := S) hX hc0
    by_cases hlt : xSz X Li i < xCp X Li i
    · have hM := c_add (k := k) G.2.2.2.2.2.2.2.2.2.1 hc hca hk.2 hz9.1 hzf hob.1 hob.2 har.1 har.2 hlt l5
      refine x_callV (n := 1) (ci := 0) (T := TJx4a65c) (N := 3) (As := [.ref (xAd X kd z.toNatClampNeg)]) (st := st) G hM hob.1 hob.2 rfl hlk hV.1 hV.2.1 hV.2.2.1 hV.2.2.2.1 hV.2.2.2.2 hR hw8 hb1 hb2 rfl rfl d (fun v9 h9 hp => ?_) (fun E h9 hp => ?_)
      · obtain ⟨e1, rfl⟩ := hp
        cases e1
        have hE2 := cW_addi (k := k) (S := S) hX hL hlt
        rw [heK] at hE2
        have hk9 := kk _ (AD.i (mc := xMc X Li i + 1) hX hL hlt hG)
        rw [← hE2] at hk9
        exact hk9
      · obtain ⟨e1, -⟩ := hp
        cases e1
    · have hsz : xSz X Li i = xCp X Li i := by omega
      obtain ⟨m1, m2, m3, m4⟩ := gN_ok hG hc0 (by omega)
      rw [hsz] at hob har
      have hM := c_addg (k := k) G.2.2.2.2.2.2.2.2.2.1 hc hca hk.2 hz9.1 hzf har.1 har.2 (by omega) m1 m2 (fun j hj y hy => by
        have hj2 : (if j < xCp X Li i then some (xAd X (eK Li) (eI Li i j)) else none) = some y := hy
        rw [if_pos hj] at hj2
        cases hj2
        have h8 := hE (Li + 10) i (by omega) (by omega) (l2 hc0) j (by rw [Nat.add_sub_cancel, hsz]; exact hj)
        rw [Nat.add_sub_cancel] at h8
        have h7 := cW_in (k := k) (S := S) hX h8
        refine ⟨h7.1, cF X S (eK Li) (eI Li i j), ?_⟩
        rw [h7.2]
        unfold cE
        rw [if_pos (eK_lt Li), hk.1]) m4 hob.1 hob.2
      refine x_callV (n := 1) (ci := 0) (T := TJx4a65c) (N := 3) (As := [.ref (xAd X kd z.toNatClampNeg)]) (st := st) G hM hob.1 hob.2 rfl hlk hV.1 hV.2.1 hV.2.2.1 hV.2.2.2.1 hV.2.2.2.2 hR hw8 hb1 hb2 rfl rfl d (fun v9 h9 hp => ?_) (fun E h9 hp => ?_)
      · obtain ⟨q, hq, e1, rfl⟩ := hp
        cases e1
        have hl2 := l2 hc0
        have hX' : HX (rlX X (xAd X (Li + 10) i) ((cW k X S).2 (xAd X (Li + 10) i))) := hX.rl
        have hE' : EA (rlX X (xAd X (Li + 10) i) ((cW k X S).2 (xAd X (Li + 10) i))) := fun L' i' a1 a2 a3 m hm => (lv_rl hX hl2).mpr ⟨hE L' i' a1 a2 ((lv_rl hX hl2).mp a3).1 m hm, fun z => by have := eK_lt (L' - 10); omega⟩
        have hl' : lv (rlX X (xAd X (Li + 10) i) ((cW k X S).2 (xAd X (Li + 10) i))) Li i := (lv_rl hX hl2).mpr ⟨l1, fun z => by omega⟩
        have hd' : dead (rlX X (xAd X (Li + 10) i) ((cW k X S).2 (xAd X (Li + 10) i))) (Li + 10) i := dead.of hX' (fun z => ((lv_rl hX hl2).mp z).2 ⟨rfl, rfl⟩)
        have hE2 := cW_addg (k := k) (S := S) (M := gN (xCp X Li i)) (e := .inr (0, [])) hX' hE' ⟨g1, g2⟩ hl' hd' hq (by omega)
        have hA2 := (AD.g (M := gN (xCp X Li i)) (mc := xMc (rlX X (xAd X (Li + 10) i) ((cW k X S).2 (xAd X (Li + 10) i))) Li i + 1) (e := .inr (0, [])) hX' hd' hq (by show xSz X Li i + 1 ≤ _; omega) m3).rl hX hl2
        rw [cW_rl] at hE2
        have hk9 := kk _ hA2
        have hf : va_up (fun i_1 => if i_1 < xCp X Li i then (fun m => if m < xCp X Li i then some (xAd X (eK Li) (eI Li i m)) else none) i_1 else none) (xCp X Li i) (some (xAd X kd z.toNatClampNeg)) = fun m => if m < xSz X Li i + 1 then some (xAd X (eK Li) (eI Li i m)) else none := by
          rw [ct_cp, ← ct_up, heK, hsz]
        rw [← hE2] at hk9
        rw [hf, show nI (xCp X Li i + 1) = nI (xSz X Li i + 1) from by rw [hsz]]
        exact hk9
      · obtain ⟨q, hq, e1, -⟩ := hp
        cases e1
end ZA
