section LWR
variable {p : Program} {l : Launch} {e : Env} {R : Room} {s : State} {m : MethodId} {args : Array Value} {below : List Frame} {meth : Method} {c : Code}
variable {k : KC} {A : Nat → Prop} {nL : Nat} {Q : State → Prop} {bc bs pc : Nat} {L : List (Option Value)} {st : List Value} {h : Wd} {own : String} {cc : ByteArray} {ret : Option FieldType}
theorem x_sld {b0 Ln : Nat} {xs : Nat → Int32} {i : Int32} (G : GX p l R s m args meth c k A own cc nL ret) (hX : va_X b0 Ln xs s s.heap) (hbl : b0 < s.heap.size) (hbA : ¬ A b0) (hin : vp_in i Ln) (d : decode cc pc = .ok (.iaload, 1)) (kk : Wx p l e R s m args below meth c k A nL Q bc bs (pc + 1) L (.int (xs i.toNatClampNeg) :: st) h) : Wx p l e R s m args below meth c k A nL Q bc bs pc L (.int i :: .ref b0 :: st) h := by
  intro H locs ls cells slots h1 h2 hP hS hl
  exact va_sld G.1 G.2.1 hX hbl hbA hS hin d (kk H locs ls cells slots h1 h2 hP hS hl)
theorem x_slen {b0 Ln : Nat} {xs : Nat → Int32} (G : GX p l R s m args meth c k A own cc nL ret) (hX : va_X b0 Ln xs s s.heap) (hbl : b0 < s.heap.size) (hbA : ¬ A b0) (d : decode cc pc = .ok (.arraylength, 1)) (kk : Wx p l e R s m args below meth c k A nL Q bc bs (pc + 1) L (.int (nI Ln) :: st) h) : Wx p l e R s m args below meth c k A nL Q bc bs pc L (.ref b0 :: st) h := by
  intro H locs ls cells slots h1 h2 hP hS hl
  exact va_slen G.1 G.2.1 hX hbl hbA hS d (kk H locs ls cells slots h1 h2 hP hS hl)
theorem PP.swap {g1 g2 : Wd} {H : Heap} (hd : DJ g1 g2) (hP : PP k A (wu g1 g2) H) : PP k A (wu g2 g1) H := by
  have h9 := hP.part hd
  exact PP.both (fun a ha z => hd a z ha) h9.2 h9.1
theorem Wx_perm {g1 g2 : Wd} (hd : DJ g1 g2) (kk : Wx p l e R s m args below meth c k A nL Q bc bs pc L st (wu g2 g1)) : Wx p l e R s m args below meth c k A nL Q bc bs pc L st (wu g1 g2) := fun H locs ls cells slots h1 h2 hP hS hl => kk H locs ls cells slots h1 h2 (hP.swap hd) hS hl
theorem Wx_l8 {a0 a1 a2 a3 a4 x y z : Option Value} (kk : Wx p l e R s m args below meth c k A nL Q bc bs pc [a0, a1, a2, a3, a4, none, none, none] st h) : Wx p l e R s m args below meth c k A nL Q bc bs pc [a0, a1, a2, a3, a4, x, y, z] st h := by
  intro H locs ls cells slots h1 h2 hP hS hl
  refine kk H locs ls cells slots h1 h2 hP hS (hl.sub (fun i v hv => ?_))
  match i, hv with
  | 0, hv => exact hv
  | 1, hv => exact hv
  | 2, hv => exact hv
  | 3, hv => exact hv
  | 4, hv => exact hv
  | 5, hv => cases hv
  | 6, hv => cases hv
  | 7, hv => cases hv
  | i + 8, hv => cases hv
theorem x_old {g1 : Wd} {ao : Nat} {f : Nat → Int64} {g2 : Wd} (G : GX p l R s m args meth c k A own cc nL ret) (hd : DJ g1 (oW k ao f)) (d : decode cc pc = .ok (.laload, 1)) (kk : Wx p l e R s m args below meth c k A nL Q bc bs (pc + 1) L (.long (f 0) :: st) (wu (wu g1 (oW k ao f)) g2)) : Wx p l e R s m args below meth c k A nL Q bc bs pc L (.int 0 :: .ref ao :: st) (wu (wu g1 (oW k ao f)) g2) := by
  have hm : ao ∈ (wu g1 (oW k ao f)).1 := List.mem_append_right _ (List.mem_singleton.mpr rfl)
  exact x_lald G (n := 1) (f := f) (List.mem_append_left _ hm) ((if_pos hm).trans (if_neg (hd ao (List.mem_singleton.mpr rfl)))) (vin_lit (by decide)) d kk
theorem ix_in {i j Ln : Nat} {x : Int32} (hx : x = nI j) (hi : i + j < Ln) (hL : Ln ≤ 4096) : vp_in (nI i + x) Ln := by
  rw [hx, nI_add]
  exact vp_in_nI hi (by omega)
/-- the law's world: the class, the out array, the reference -/
def WL (k : KC) (X : CX) (S : CT) (ao : Nat) (f : Nat → Int64) (mo : Nat) (ad : Nat → Nat) (M : MS) : Wd := wu (wu (cW k X S) (oW k ao f)) (mW k mo ad M)
/-- what holds of the law's world -/
def LV9 (k : KC) (b : Nat) (X : CX) (S : CT) (ao : Nat) (f : Nat → Int64) (mo : Nat) (ad : Nat → Nat) (M : MS) : Prop := IN X S M ∧ xAd X 11 0 = b ∧ DJ (cW k X S) (oW k ao f) ∧ DJ (wu (cW k X S) (oW k ao f)) (mW k mo ad M)
theorem DJ.mw {k : KC} {g : Wd} {mo : Nat} {ad : Nat → Nat} {M M2 : MS} (h : DJ g (mW k mo ad M)) : DJ g (mW k mo ad M2) := h
theorem vr11 {X : CX} {b : Nat} (hb : xAd X 11 0 = b) : vr X 11 0 = .ref b := by
  rw [← hb]
  exact if_neg (by decide)
theorem cw11 {k : KC} {X : CX} {S : CT} {b : Nat} (hX : XOK X) (hb : xAd X 11 0 = b) : b ∈ (cW k X S).1 ∧ ∃ fs, (cW k X S).2 b = .inr (11, fs) := by
  have h9 := cW_in (k := k) (S := S) hX.1 hX.l11.lv
  rw [← hb]
  refine ⟨h9.1, cF X S 11 (0 : Int32).toNatClampNeg, ?_⟩
  have e := h9.2
  unfold cE at e
  rw [if_pos (by decide)] at e
  exact e
end LWR
theorem lg_same {a b : Int64} (h : a = b) : lg_cmp a b = 0 := by
  rw [h]
  have h1 : lg_cmp b b ≤ 0 := by rw [lg_cmp_le]; exact Int64.le_refl _
  have h2 : 0 ≤ lg_cmp b b := by rw [lg_cmp_ge]; exact Int64.le_refl _
  exact Int32.le_antisymm h1 h2
