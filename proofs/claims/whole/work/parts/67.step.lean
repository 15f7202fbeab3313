/-- how a method of the class ends: the world, what holds of it, and the answer or the class thrown -/
def CO (k : KC) (b : Nat) (M2 : MS) (okP : Out → Prop) (C : String → Prop) (ex : String → Int32) (o : Out) (w : Wd) : Prop := ∃ X2 S2, w = cW k X2 S2 ∧ IN X2 S2 M2 ∧ xAd X2 11 0 = b ∧ ((okP o ∧ mI M2 0 = 0) ∨ ∃ E, o = .inr E ∧ mI M2 0 = ex E ∧ C E)
section CO
variable {k : KC} {X Y : CX} {S : CT} {M : MS} {ex : String → Int32} {C : String → Prop} {o : Out} {w : Wd}
theorem co_A {Li i : Nat} {r : (Int32 × CT) ⊕ String} {m : Int32 × MS} (h : IN X S M) (hE : EQa X S ex Y Li i r m) (hM : MV m.2) (hx : ∀ E, r = .inr E → C E) (hY : xAd Y 11 0 = xAd X 11 0) (hp : pAi k X S Y Li i r o w) : CO k (xAd X 11 0) m.2 (fun o => o = .inl (some (.int m.1))) C ex o w := by
  cases r with
  | inl q =>
    obtain ⟨e1, X2, hN, e2⟩ := hp
    exact ⟨X2, q.2, e2, ⟨hN.1, hN.2.1, hE.2.2 X2 hN, hM⟩, hN.2.2.2.2.2.trans hY, Or.inl ⟨by rw [← hE.2.1]; exact e1, hE.1⟩⟩
  | inr E => exact ⟨X, S, hp.2, ⟨h.1, h.2.1, hE.2, hM⟩, rfl, Or.inr ⟨E, hp.1, hE.1, hx E rfl⟩⟩
theorem co_I {r : (Int32 × CT) ⊕ String} {m : Int32 × MS} (h : IN X S M) (hE : EQi X S ex r m) (hM : MV m.2) (hx : ∀ E, r = .inr E → C E) (hp : pOi k X S r o w) : CO k (xAd X 11 0) m.2 (fun o => o = .inl (some (.int m.1))) C ex o w := by
  cases r with
  | inl q => exact ⟨X, q.2, hp.2, ⟨h.1, h.2.1, hE.2.2, hM⟩, rfl, Or.inl ⟨by rw [← hE.2.1]; exact hp.1, hE.1⟩⟩
  | inr E => exact ⟨X, S, hp.2, ⟨h.1, h.2.1, hE.2, hM⟩, rfl, Or.inr ⟨E, hp.1, hE.1, hx E rfl⟩⟩
theorem co_L {r : (Int64 × CT) ⊕ String} {m : Int64 × MS} (h : IN X S M) (hE : EQl X S ex r m) (hM : MV m.2) (hx : ∀ E, r = .inr E → C E) (hp : pOl k X S r o w) : CO k (xAd X 11 0) m.2 (fun o => o = .inl (some (.long m.1))) C ex o w := by
  cases r with
  | inl q => exact ⟨X, q.2, hp.2, ⟨h.1, h.2.1, hE.2.2, hM⟩, rfl, Or.inl ⟨by rw [← hE.2.1]; exact hp.1, hE.1⟩⟩
  | inr E => exact ⟨X, S, hp.2, ⟨h.1, h.2.1, hE.2, hM⟩, rfl, Or.inr ⟨E, hp.1, hE.1, hx E rfl⟩⟩
theorem co_V {r : CT ⊕ String} {m : MS} (h : IN X S M) (hE : EQv X S ex r m) (hM : MV m) (hx : ∀ E, r = .inr E → C E) (hp : pOv k X S r o w) : CO k (xAd X 11 0) m (fun o => o = .inl none) C ex o w := by
  cases r with
  | inl q => exact ⟨X, q, hp.2, ⟨h.1, h.2.1, hE.2, hM⟩, rfl, Or.inl ⟨hp.1, hE.1⟩⟩
  | inr E => exact ⟨X, S, hp.2, ⟨h.1, h.2.1, hE.2, hM⟩, rfl, Or.inr ⟨E, hp.1, hE.1, hx E rfl⟩⟩
end CO
theorem MV.nd {M : MS} (h : MV M) {i : Nat} (e : mI M 39 = nI i) : cnt M 39 ≤ i := by
  rcases Nat.lt_or_ge i (cnt M 39) with z | z
  · have h9 := h.2.2.2.2.2.2.2.2.1
    rw [h9.2] at e
    have := nI_inj (a := cnt M 39) (b := i) (by omega) (by omega) e
    omega
  · exact z
theorem MV.z39 {M : MS} (h : MV M) {i : Nat} (e : mI M 39 = nI i) : ∀ j, j = 44 ∨ j = 45 ∨ j = 51 ∨ j = 53 → gn M j i = 0 := fun j hj => by
  obtain ⟨⟨z1, z2, z3, z4⟩, -⟩ := h.2.2.2.2.2.2.2.2.2.2.1 i (h.nd e)
  rcases hj with rfl | rfl | rfl | rfl
  · exact z1
  · exact z2
  · exact z3
  · exact z4
theorem MV.zl39 {M : MS} (h : MV M) {i : Nat} (e : mI M 39 = nI i) : ∀ j, j = 46 ∨ j = 47 ∨ j = 54 ∨ j = 55 → gl M j i = 0 := fun j hj => by
  obtain ⟨-, z1, z2, z3, z4⟩ := h.2.2.2.2.2.2.2.2.2.2.1 i (h.nd e)
  rcases hj with rfl | rfl | rfl | rfl
  · exact z1
  · exact z2
  · exact z3
  · exact z4
section LN9
variable {X : CX} {S : CT} {M : MS}
theorem IN.lnd (h : IN X S M) {r : Nat} (hr : r < xSz X 24 0) (hl : xSz X 29 r < 4) : ¬ dm M 9 (4 * r + xSz X 29 r) := fun z => by
  have h9 := z.2
  have e : gn M 18 r = nI (xSz X 29 r) := h.2.2.1.2.2.2.1.2 r hr
  rw [show (4 * r + xSz X 29 r) / 4 = r by omega, show (4 * r + xSz X 29 r) % 4 = xSz X 29 r by omega, e, nI_clamp (by omega)] at h9
  omega
theorem IN.ln30 (h : IN X S M) {r : Nat} (hr : r < xSz X 24 0) (hl : xSz X 29 r < 4) : gn M 30 (4 * r + xSz X 29 r) = 0 := h.2.2.2.2.2.2.2.2.2.2.1.2 _ (h.lnd hr hl)
theorem IN.lnI (h : IN X S M) {r : Nat} (hr : r < xSz X 24 0) (hl : xSz X 29 r < 4) {i : Nat} (hi : i < cnt M 39) : ¬ gn M 40 i = nI (4 * r + xSz X 29 r) := fun e => by
  have h9 := (h.2.2.2.2.2.2.2.2.2.2.2.2.1 i hi).1.1
  have hb := h.2.1.2.2.1
  rw [e, nI_clamp (by omega)] at h9
  exact h.lnd hr hl h9
end LN9
theorem MV.mon {M : MS} (hM : MV M) {u : Int32} (hu : vp_in u 6) : vp_in (gI M 32 u) 3 := by
  have h9 : u.toNatClampNeg < 6 := Nat.not_le.mp fun q => hu (Or.inr q)
  exact in_vp (n := 2) (by decide) (hM.hc _ h9)
set_option maxRecDepth 100000 in
theorem kx_person {X : CX} {S : CT} {p1 p2 : Int32} {E : String} (h : k_person p1 p2 X S = .inr E) : E = "java/lang/IndexOutOfBoundsException" ∨ E = "java/lang/IllegalArgumentException" ∨ E = "java/lang/IllegalStateException" := by
  unfold k_person at h
  repeat' split at h
  all_goals first | exact Sum.noConfusion h | (cases h <;> first | exact rfl | exact Or.inl rfl | exact Or.inr rfl | exact Or.inr (Or.inl rfl) | exact Or.inr (Or.inr rfl))
theorem so_person {k : KC} {X : CX} {S : CT} {M : MS} {p1 p2 : Int32} (h : IN X S M) {o : Out} {w : Wd} (hp : pAi k X S (y_person X p1 p2) 20 0 (k_person p1 p2 X S) o w) : CO k (xAd X 11 0) (f_person p1 p2 M).2 (fun o => o = .inl (some (.int (f_person p1 p2 M).1))) (fun E => E = "java/lang/IndexOutOfBoundsException" ∨ E = "java/lang/IllegalArgumentException" ∨ E = "java/lang/IllegalStateException") xcIAS o w := by
  obtain ⟨hX, hL, hR, hM⟩ := id h
  exact co_A h (eq_person hX hL hR hM.2.1.2.2.1 hM.2.1.2.1 (hM.2.1.2.2.2.2.2 _ (Nat.le_of_eq (hR.c3 hL))).2.1 (hM.2.2.1 _ (Nat.le_of_eq (hR.c3 hL))).1 (hM.2.2.1 _ (Nat.le_of_eq (hR.c3 hL))).2) (mv_person hM) (fun E he => kx_person he) rfl hp
theorem kc_person {l : Launch} {k : KC} (hl : l.stackTraces = false) {X : CX} {S : CT} {M : MS} (h : IN X S M) {p1 p2 : Int32} : MC l k yX10_person (.code yX10_person cX10_person 5 (some .int)) rma_person [(vr X 11 0), .int p1, .int p2] (cW k X S) (pAi k X S (y_person X p1 p2) 20 0 (k_person p1 p2 X S)) := ck_person hl h.1 h.2.1 h.ts
theorem rc_person {l : Launch} {k : KC} {mo : Nat} {ad : Nat → Nat} (hl : l.stackTraces = false) (hH : HM mo ad) {M : MS} (hM : MV M) {p1 p2 : Int32} : CM l k mo ad yX11_person (.code yX11_person cX11_person 4 (some .int)) rm_X11_person [.int p1, .int p2] M (some (.int (f_person p1 p2 M).1)) (f_person p1 p2 M).2 := c_person hl hH hM.le3
set_option maxRecDepth 100000 in
theorem kx_absent {X : CX} {S : CT} {p1 p2 p3 : Int32} {E : String} (h : k_absent p1 p2 p3 X S = .inr E) : E = "java/lang/IndexOutOfBoundsException" ∨ E = "java/lang/IllegalArgumentException" := by
  unfold k_absent at h
  repeat' split at h
  all_goals first | exact Sum.noConfusion h | (cases h <;> first | exact rfl | exact Or.inl rfl | exact Or.inr rfl | exact Or.inr (Or.inl rfl) | exact Or.inr (Or.inr rfl))
theorem so_absent {k : KC} {X : CX} {S : CT} {M : MS} {p1 p2 p3 : Int32} (h : IN X S M) {o : Out} {w : Wd} (hp : pOv k X S (k_absent p1 p2 p3 X S) o w) : CO k (xAd X 11 0) (f_absent p1 p2 p3 M) (fun o => o = .inl none) (fun E => E = "java/lang/IndexOutOfBoundsException" ∨ E = "java/lang/IllegalArgumentException") xcIA o w := by
  obtain ⟨hX, hL, hR, hM⟩ := id h
  exact co_V h (eq_absent hX hL hR ) (mv_absent hM) (fun E he => kx_absent he) hp
theorem kc_absent {l : Launch} {k : KC} (hl : l.stackTraces = false) {X : CX} {S : CT} {M : MS} (h : IN X S M) {p1 p2 p3 : Int32} : MC l k yX10_absent (.code yX10_absent cX10_absent 6 none) rmt_X10_absent [(vr X 11 0), .int p1, .int p2, .int p3] (cW k X S) (pOv k X S (k_absent p1 p2 p3 X S)) := ck_absent hl h.1 
theorem rc_absent {l : Launch} {k : KC} {mo : Nat} {ad : Nat → Nat} (hl : l.stackTraces = false) (hH : HM mo ad) {M : MS} (hM : MV M) {p1 p2 p3 : Int32} : CM l k mo ad yX11_absent (.code yX11_absent cX11_absent 5 none) rm_X11_absent [.int p1, .int p2, .int p3] M none (f_absent p1 p2 p3 M) := c_absent hl hH hM.le3
set_option maxRecDepth 100000 in
theorem kx_controller {X : CX} {S : CT} {p1 : Int32} {E : String} (h : k_controller p1 X S = .inr E) : E = "java/lang/IndexOutOfBoundsException" := by
  unfold k_controller at h
  repeat' split at h
  all_goals first | exact Sum.noConfusion h | (cases h <;> first | exact rfl | exact Or.inl rfl | exact Or.inr rfl | exact Or.inr (Or.inl rfl) | exact Or.inr (Or.inr rfl))
theorem so_controller {k : KC} {X : CX} {S : CT} {M : MS} {p1 : Int32} (h : IN X S M) {o : Out} {w : Wd} (hp : pOi k X S (k_controller p1 X S) o w) : CO k (xAd X 11 0) (f_controller p1 M).2 (fun o => o = .inl (some (.int (f_controller p1 M).1))) (fun E => E = "java/lang/IndexOutOfBoundsException") xcI o w := by
  obtain ⟨hX, hL, hR, hM⟩ := id h
  exact co_I h (eq_controller hX hL hR hM.2.1.2.2.1) (mv_controller hM) (fun E he => kx_controller he) hp
theorem kc_controller {l : Launch} {k : KC} (hl : l.stackTraces = false) {X : CX} {S : CT} {M : MS} (h : IN X S M) {p1 : Int32} : MC l k yX10_controller (.code yX10_controller cX10_controller 4 (some .int)) rmt_X10_controller [(vr X 11 0), .int p1] (cW k X S) (pOi k X S (k_controller p1 X S)) := ck_controller hl h.1 h.ts
theorem rc_controller {l : Launch} {k : KC} {mo : Nat} {ad : Nat → Nat} (hl : l.stackTraces = false) (hH : HM mo ad) {M : MS} (hM : MV M) {p1 : Int32} : CM l k mo ad yX11_controller (.code yX11_controller cX11_controller 3 (some .int)) rm_X11_controller [.int p1] M (some (.int (f_controller p1 M).1)) (f_controller p1 M).2 := c_controller hl hH 
set_option maxRecDepth 100000 in
theorem kx_budget {X : CX} {S : CT} {p1 p2 p3 : Int32} {E : String} (h : k_budget p1 p2 p3 X S = .inr E) : E = "java/lang/IndexOutOfBoundsException" ∨ E = "java/lang/IllegalArgumentException" := by
  unfold k_budget at h
  repeat' split at h
  all_goals first | exact Sum.noConfusion h | (cases h <;> first | exact rfl | exact Or.inl rfl | exact Or.inr rfl | exact Or.inr (Or.inl rfl) | exact Or.inr (Or.inr rfl))
theorem so_budget {k : KC} {X : CX} {S : CT} {M : MS} {p1 p2 p3 : Int32} (h : IN X S M) {o : Out} {w : Wd} (hp : pOl k X S (k_budget p1 p2 p3 X S) o w) : CO k (xAd X 11 0) (f_budget p1 p2 p3 M).2 (fun o => o = .inl (some (.long (f_budget p1 p2 p3 M).1))) (fun E => E = "java/lang/IndexOutOfBoundsException" ∨ E = "java/lang/IllegalArgumentException") xcIA o w := by
  obtain ⟨hX, hL, hR, hM⟩ := id h
  exact co_L h (eq_budget hX hL hR ) (mv_budget hM) (fun E he => kx_budget he) hp
theorem kc_budget {l : Launch} {k : KC} (hl : l.stackTraces = false) {X : CX} {S : CT} {M : MS} (h : IN X S M) {p1 p2 p3 : Int32} : MC l k yX10_budget (.code yX10_budget cX10_budget 7 (some .long)) rmt_X10_budget [(vr X 11 0), .int p1, .int p2, .int p3] (cW k X S) (pOl k X S (k_budget p1 p2 p3 X S)) := ck_budget hl h.1 
theorem rc_budget {l : Launch} {k : KC} {mo : Nat} {ad : Nat → Nat} (hl : l.stackTraces = false) (hH : HM mo ad) {M : MS} (hM : MV M) {p1 p2 p3 : Int32} : CM l k mo ad yX11_budget (.code yX11_budget cX11_budget 6 (some .long)) rm_X11_budget [.int p1, .int p2, .int p3] M (some (.long (f_budget p1 p2 p3 M).1)) (f_budget p1 p2 p3 M).2 := c_budget hl hH 
set_option maxRecDepth 100000 in
theorem kx_transfer {X : CX} {S : CT} {p1 p2 p3 p4 : Int32} {E : String} (h : k_transfer p1 p2 p3 p4 X S = .inr E) : E = "java/lang/IndexOutOfBoundsException" ∨ E = "java/lang/IllegalArgumentException" ∨ E = "java/lang/IllegalStateException" := by
  unfold k_transfer at h
  repeat' split at h
  all_goals first | exact Sum.noConfusion h | (cases h <;> first | exact rfl | exact Or.inl rfl | exact Or.inr rfl | exact Or.inr (Or.inl rfl) | exact Or.inr (Or.inr rfl))
theorem so_transfer {k : KC} {X : CX} {S : CT} {M : MS} {p1 p2 p3 p4 : Int32} (h : IN X S M) {o : Out} {w : Wd} (hp : pOl k X S (k_transfer p1 p2 p3 p4 X S) o w) : CO k (xAd X 11 0) (f_transfer p1 p2 p3 p4 M).2 (fun o => o = .inl (some (.long (f_transfer p1 p2 p3 p4 M).1))) (fun E => E = "java/lang/IndexOutOfBoundsException" ∨ E = "java/lang/IllegalArgumentException" ∨ E = "java/lang/IllegalStateException") xcIAS o w := by
  obtain ⟨hX, hL, hR, hM⟩ := id h
  exact co_L h (eq_transfer hX hL hR ) (mv_transfer hM) (fun E he => kx_transfer he) hp
theorem kc_transfer {l : Launch} {k : KC} (hl : l.stackTraces = false) {X : CX} {S : CT} {M : MS} (h : IN X S M) {p1 p2 p3 p4 : Int32} : MC l k yX10_transfer (.code yX10_transfer cX10_transfer 7 (some .long)) rmt_X10_transfer [(vr X 11 0), .int p1, .int p2, .int p3, .int p4] (cW k X S) (pOl k X S (k_transfer p1 p2 p3 p4 X S)) := ck_transfer hl h.1 
theorem rc_transfer {l : Launch} {k : KC} {mo : Nat} {ad : Nat → Nat} (hl : l.stackTraces = false) (hH : HM mo ad) {M : MS} (hM : MV M) {p1 p2 p3 p4 : Int32} : CM l k mo ad yX11_transfer (.code yX11_transfer cX11_transfer 7 (some .long)) rm_X11_transfer [.int p1, .int p2, .int p3, .int p4] M (some (.long (f_transfer p1 p2 p3 p4 M).1)) (f_transfer p1 p2 p3 p4 M).2 := c_transfer hl hH 
set_option maxRecDepth 100000 in
theorem kx_soft {X : CX} {S : CT} {p1 p2 : Int32} {E : String} (h : k_soft p1 p2 X S = .inr E) : E = "java/lang/IndexOutOfBoundsException" := by
  unfold k_soft at h
  repeat' split at h
  all_goals first | exact Sum.noConfusion h | (cases h <;> first | exact rfl | exact Or.inl rfl | exact Or.inr rfl | exact Or.inr (Or.inl rfl) | exact Or.inr (Or.inr rfl))
theorem so_soft {k : KC} {X : CX} {S : CT} {M : MS} {p1 p2 : Int32} (hb : p2 = 0 ∨ p2 = 1) (h : IN X S M) {o : Out} {w : Wd} (hp : pOi k X S (k_soft p1 p2 X S) o w) : CO k (xAd X 11 0) (f_soft p1 p2 M).2 (fun o => o = .inl (some (.int (f_soft p1 p2 M).1))) (fun E => E = "java/lang/IndexOutOfBoundsException") xcI o w := by
  obtain ⟨hX, hL, hR, hM⟩ := id h
  exact co_I h (eq_soft hX hL hR ) (mv_soft hM hb) (fun E he => kx_soft he) hp
theorem kc_soft {l : Launch} {k : KC} (hl : l.stackTraces = false) {X : CX} {S : CT} {M : MS} (h : IN X S M) {p1 p2 : Int32} (hz : narrow .boolean (.int p2) = .int p2 ∧ fits .boolean (.int p2) = true) : MC l k yX10_soft (.code yX10_soft cX10_soft 5 (some .boolean)) rmt_X10_soft [(vr X 11 0), .int p1, .int p2] (cW k X S) (pOi k X S (k_soft p1 p2 X S)) := ck_soft hl h.1 hz (fun c => nar_01 (by rw [h.2.2.1.rdI (f := 33) (j := 12) (c := 10) rfl (by obtain ⟨q, hq, e⟩ := cent_of ((num_cent h.2.1).mp c); rw [e, nI_clamp (by omega)]; exact hq)]; exact h.2.2.2.soft ((num_cent h.2.1).mp c)))
theorem rc_soft {l : Launch} {k : KC} {mo : Nat} {ad : Nat → Nat} (hl : l.stackTraces = false) (hH : HM mo ad) {M : MS} (hM : MV M) {p1 p2 : Int32} (hb : vp_nar .boolean p2 = p2) : CM l k mo ad yX11_soft (.code yX11_soft cX11_soft 4 (some .boolean)) rm_X11_soft [.int p1, .int p2] M (some (.int (f_soft p1 p2 M).1)) (f_soft p1 p2 M).2 := c_soft hl hH hb (fun c => nar_01 (hM.soft c))
set_option maxRecDepth 100000 in
theorem kx_carried {X : CX} {S : CT} {p1 : Int32} {E : String} (h : k_carried p1 X S = .inr E) : E = "java/lang/IllegalArgumentException" := by
  unfold k_carried at h
  repeat' split at h
  all_goals first | exact Sum.noConfusion h | (cases h <;> first | exact rfl | exact Or.inl rfl | exact Or.inr rfl | exact Or.inr (Or.inl rfl) | exact Or.inr (Or.inr rfl))
theorem so_carried {k : KC} {X : CX} {S : CT} {M : MS} {p1 : Int32} (h : IN X S M) {o : Out} {w : Wd} (hp : pOi k X S (k_carried p1 X S) o w) : CO k (xAd X 11 0) (f_carried p1 M).2 (fun o => o = .inl (some (.int (f_carried p1 M).1))) (fun E => E = "java/lang/IllegalArgumentException") xcA o w := by
  obtain ⟨hX, hL, hR, hM⟩ := id h
  exact co_I h (eq_carried hX hL hR ) (mv_carried hM) (fun E he => kx_carried he) hp
theorem kc_carried {l : Launch} {k : KC} (hl : l.stackTraces = false) {X : CX} {S : CT} {M : MS} (h : IN X S M) {p1 : Int32} : MC l k yX10_carried (.code yX10_carried cX10_carried 3 (some .int)) rmt_X10_carried [(vr X 11 0), .int p1] (cW k X S) (pOi k X S (k_carried p1 X S)) := ck_carried hl h.1 
theorem rc_carried {l : Launch} {k : KC} {mo : Nat} {ad : Nat → Nat} (hl : l.stackTraces = false) (hH : HM mo ad) {M : MS} (hM : MV M) {p1 : Int32} : CM l k mo ad yX11_carried (.code yX11_carried cX11_carried 3 (some .int)) rm_X11_carried [.int p1] M (some (.int (f_carried p1 M).1)) (f_carried p1 M).2 := c_carried hl hH 
set_option maxRecDepth 100000 in
theorem kx_supplier {X : CX} {S : CT} {p1 p2 p3 p4 p5 p6 : Int32} {E : String} (h : k_supplier p1 p2 p3 p4 p5 p6 X S = .inr E) : E = "java/lang/IndexOutOfBoundsException" ∨ E = "java/lang/IllegalArgumentException" := by
  unfold k_supplier at h
  repeat' split at h
  all_goals first | exact Sum.noConfusion h | (cases h <;> first | exact rfl | exact Or.inl rfl | exact Or.inr rfl | exact Or.inr (Or.inl rfl) | exact Or.inr (Or.inr rfl))
theorem so_supplier {k : KC} {X : CX} {S : CT} {M : MS} {p1 p2 p3 p4 p5 p6 : Int32} (h : IN X S M) {o : Out} {w : Wd} (hp : pOv k X S (k_supplier p1 p2 p3 p4 p5 p6 X S) o w) : CO k (xAd X 11 0) (f_supplier p1 p2 p3 p4 p5 p6 M) (fun o => o = .inl none) (fun E => E = "java/lang/IndexOutOfBoundsException" ∨ E = "java/lang/IllegalArgumentException") xcIA o w := by
  obtain ⟨hX, hL, hR, hM⟩ := id h
  exact co_V h (eq_supplier hX hL hR ) (mv_supplier hM) (fun E he => kx_supplier he) hp
theorem kc_supplier {l : Launch} {k : KC} (hl : l.stackTraces = false) {X : CX} {S : CT} {M : MS} (h : IN X S M) {p1 p2 p3 p4 p5 p6 : Int32} : MC l k yX10_supplier (.code yX10_supplier cX10_supplier 9 none) rmt_X10_supplier [(vr X 11 0), .int p1, .int p2, .int p3, .int p4, .int p5, .int p6] (cW k X S) (pOv k X S (k_supplier p1 p2 p3 p4 p5 p6 X S)) := ck_supplier hl h.1 
theorem rc_supplier {l : Launch} {k : KC} {mo : Nat} {ad : Nat → Nat} (hl : l.stackTraces = false) (hH : HM mo ad) {M : MS} (hM : MV M) {p1 p2 p3 p4 p5 p6 : Int32} : CM l k mo ad yX11_supplier (.code yX11_supplier cX11_supplier 8 none) rm_X11_supplier [.int p1, .int p2, .int p3, .int p4, .int p5, .int p6] M none (f_supplier p1 p2 p3 p4 p5 p6 M) := c_supplier hl hH 
set_option maxRecDepth 100000 in
theorem kx_rate {X : CX} {S : CT} {p1 p2 : Int32} {E : String} (h : k_rate p1 p2 X S = .inr E) : E = "java/lang/IndexOutOfBoundsException" ∨ E = "java/lang/IllegalArgumentException" := by
  unfold k_rate at h
  repeat' split at h
  all_goals first | exact Sum.noConfusion h | (cases h <;> first | exact rfl | exact Or.inl rfl | exact Or.inr rfl | exact Or.inr (Or.inl rfl) | exact Or.inr (Or.inr rfl))
theorem so_rate {k : KC} {X : CX} {S : CT} {M : MS} {p1 p2 : Int32} (h : IN X S M) {o : Out} {w : Wd} (hp : pOi k X S (k_rate p1 p2 X S) o w) : CO k (xAd X 11 0) (f_rate p1 p2 M).2 (fun o => o = .inl (some (.int (f_rate p1 p2 M).1))) (fun E => E = "java/lang/IndexOutOfBoundsException" ∨ E = "java/lang/IllegalArgumentException") xcIA o w := by
  obtain ⟨hX, hL, hR, hM⟩ := id h
  exact co_I h (eq_rate hX hL hR ) (mv_rate hM) (fun E he => kx_rate he) hp
theorem kc_rate {l : Launch} {k : KC} (hl : l.stackTraces = false) {X : CX} {S : CT} {M : MS} (h : IN X S M) {p1 p2 : Int32} : MC l k yX10_rate (.code yX10_rate cX10_rate 5 (some .int)) rmt_X10_rate [(vr X 11 0), .int p1, .int p2] (cW k X S) (pOi k X S (k_rate p1 p2 X S)) := ck_rate hl h.1 
theorem rc_rate {l : Launch} {k : KC} {mo : Nat} {ad : Nat → Nat} (hl : l.stackTraces = false) (hH : HM mo ad) {M : MS} (hM : MV M) {p1 p2 : Int32} : CM l k mo ad yX11_rate (.code yX11_rate cX11_rate 4 (some .int)) rm_X11_rate [.int p1, .int p2] M (some (.int (f_rate p1 p2 M).1)) (f_rate p1 p2 M).2 := c_rate hl hH 
set_option maxRecDepth 100000 in
theorem kx_taxes {X : CX} {S : CT} {p1 p2 : Int32} {E : String} (h : k_taxes p1 p2 X S = .inr E) : E = "java/lang/IllegalArgumentException" := by
  unfold k_taxes at h
  repeat' split at h
  all_goals first | exact Sum.noConfusion h | (cases h <;> first | exact rfl | exact Or.inl rfl | exact Or.inr rfl | exact Or.inr (Or.inl rfl) | exact Or.inr (Or.inr rfl))
theorem so_taxes {k : KC} {X : CX} {S : CT} {M : MS} {p1 p2 : Int32} (h : IN X S M) {o : Out} {w : Wd} (hp : pOv k X S (k_taxes p1 p2 X S) o w) : CO k (xAd X 11 0) (f_taxes p1 p2 M) (fun o => o = .inl none) (fun E => E = "java/lang/IllegalArgumentException") xcA o w := by
  obtain ⟨hX, hL, hR, hM⟩ := id h
  exact co_V h (eq_taxes hX hL hR ) (mv_taxes hM) (fun E he => kx_taxes he) hp
theorem kc_taxes {l : Launch} {k : KC} (hl : l.stackTraces = false) {X : CX} {S : CT} {M : MS} (h : IN X S M) {p1 p2 : Int32} : MC l k yX10_taxes (.code yX10_taxes cX10_taxes 3 none) rmt_X10_taxes [(vr X 11 0), .int p1, .int p2] (cW k X S) (pOv k X S (k_taxes p1 p2 X S)) := ck_taxes hl h.1 
theorem rc_taxes {l : Launch} {k : KC} {mo : Nat} {ad : Nat → Nat} (hl : l.stackTraces = false) (hH : HM mo ad) {M : MS} (hM : MV M) {p1 p2 : Int32} : CM l k mo ad yX11_taxes (.code yX11_taxes cX11_taxes 3 none) rm_X11_taxes [.int p1, .int p2] M none (f_taxes p1 p2 M) := c_taxes hl hH 
set_option maxRecDepth 100000 in
theorem kx_pass {X : CX} {S : CT} {p1 : Int32} {E : String} (h : k_pass p1 X S = .inr E) : E = "java/lang/IllegalArgumentException" ∨ E = "java/lang/IllegalStateException" := by
  unfold k_pass at h
  repeat' split at h
  all_goals first | exact Sum.noConfusion h | (cases h <;> first | exact rfl | exact Or.inl rfl | exact Or.inr rfl | exact Or.inr (Or.inl rfl) | exact Or.inr (Or.inr rfl))
theorem so_pass {k : KC} {X : CX} {S : CT} {M : MS} {p1 : Int32} (h : IN X S M) {o : Out} {w : Wd} (hp : pOi k X S (k_pass p1 X S) o w) : CO k (xAd X 11 0) (f_pass p1 M).2 (fun o => o = .inl (some (.int (f_pass p1 M).1))) (fun E => E = "java/lang/IllegalArgumentException" ∨ E = "java/lang/IllegalStateException") xcAS o w := by
  obtain ⟨hX, hL, hR, hM⟩ := id h
  exact co_I h (eq_pass hX hL hR hM.qk hM.1.choose_spec.1 hM.1.choose_spec.2) (mv_pass hM) (fun E he => kx_pass he) hp
theorem kc_pass {l : Launch} {k : KC} (hl : l.stackTraces = false) {X : CX} {S : CT} {M : MS} (h : IN X S M) {p1 : Int32} : MC l k yX10_pass (.code yX10_pass cX10_pass 3 (some .int)) rmt_X10_pass [(vr X 11 0), .int p1] (cW k X S) (pOi k X S (k_pass p1 X S)) := ck_pass hl h.1 (fun c1 c2 c3 => h.clo c1 c2 c3)
theorem rc_pass {l : Launch} {k : KC} {mo : Nat} {ad : Nat → Nat} (hl : l.stackTraces = false) (hH : HM mo ad) {M : MS} (hM : MV M) {p1 : Int32} : CM l k mo ad yX11_pass (.code yX11_pass cX11_pass 3 (some .int)) rm_X11_pass [.int p1] M (some (.int (f_pass p1 M).1)) (f_pass p1 M).2 := c_pass hl hH hM.2.2.2.2.2.2.1.1.1 hM.2.2.2.2.2.2.1.1.2 (fun r hr => (hM.2.2.2.2.2.2.1.2.1 r hr).1.1) hM.le39 hM.1.choose_spec.1 hM.1.choose_spec.2
set_option maxRecDepth 100000 in
theorem kx_request {X : CX} {S : CT} {p1 p2 : Int32} {E : String} (h : k_request p1 p2 X S = .inr E) : E = "java/lang/IndexOutOfBoundsException" ∨ E = "java/lang/IllegalStateException" := by
  unfold k_request at h
  repeat' split at h
  all_goals first | exact Sum.noConfusion h | (cases h <;> first | exact rfl | exact Or.inl rfl | exact Or.inr rfl | exact Or.inr (Or.inl rfl) | exact Or.inr (Or.inr rfl))
theorem so_request {k : KC} {X : CX} {S : CT} {M : MS} {p1 p2 : Int32} (h : IN X S M) {o : Out} {w : Wd} (hp : pAi k X S (y_request X p1 p2) 24 0 (k_request p1 p2 X S) o w) : CO k (xAd X 11 0) (f_request p1 p2 M).2 (fun o => o = .inl (some (.int (f_request p1 p2 M).1))) (fun E => E = "java/lang/IndexOutOfBoundsException" ∨ E = "java/lang/IllegalStateException") xcIS o w := by
  obtain ⟨hX, hL, hR, hM⟩ := id h
  exact co_A h (eq_request hX hL hR (fun i hi => by rw [← hR.c14 hL]; exact (hM.2.2.2.2.2.2.2.2.2.1 i hi).1.1.1) (hM.2.2.2.2.2.2.1.2.2 _ (Nat.le_of_eq (hR.c14 hL))).1.1 (hM.2.2.2.2.2.2.1.2.2 _ (Nat.le_of_eq (hR.c14 hL))).1.2.1 (hM.2.2.2.2.2.2.1.2.2 _ (Nat.le_of_eq (hR.c14 hL))).1.2.2.1 (hM.2.2.2.2.2.2.1.2.2 _ (Nat.le_of_eq (hR.c14 hL))).1.2.2.2 (hM.2.2.2.2.2.2.1.2.2 _ (Nat.le_of_eq (hR.c14 hL))).2.1 (hM.2.2.2.2.2.2.1.2.2 _ (Nat.le_of_eq (hR.c14 hL))).2.2) (mv_request hM) (fun E he => kx_request he) rfl hp
theorem kc_request {l : Launch} {k : KC} (hl : l.stackTraces = false) {X : CX} {S : CT} {M : MS} (h : IN X S M) {p1 p2 : Int32} : MC l k yX10_request (.code yX10_request cX10_request 5 (some .int)) rma_request [(vr X 11 0), .int p1, .int p2] (cW k X S) (pAi k X S (y_request X p1 p2) 24 0 (k_request p1 p2 X S)) := ck_request hl h.1 h.2.1 h.ts
theorem rc_request {l : Launch} {k : KC} {mo : Nat} {ad : Nat → Nat} (hl : l.stackTraces = false) (hH : HM mo ad) {M : MS} (hM : MV M) {p1 p2 : Int32} : CM l k mo ad yX11_request (.code yX11_request cX11_request 4 (some .int)) rm_X11_request [.int p1, .int p2] M (some (.int (f_request p1 p2 M).1)) (f_request p1 p2 M).2 := c_request hl hH hM.le14
set_option maxRecDepth 100000 in
theorem kx_line {X : CX} {S : CT} {p1 p2 p3 p4 : Int32} {E : String} (h : k_line p1 p2 p3 p4 X S = .inr E) : E = "java/lang/IndexOutOfBoundsException" ∨ E = "java/lang/IllegalArgumentException" ∨ E = "java/lang/IllegalStateException" := by
  unfold k_line at h
  repeat' split at h
  all_goals first | exact Sum.noConfusion h | (cases h <;> first | exact rfl | exact Or.inl rfl | exact Or.inr rfl | exact Or.inr (Or.inl rfl) | exact Or.inr (Or.inr rfl))
theorem so_line {k : KC} {X : CX} {S : CT} {M : MS} {p1 p2 p3 p4 : Int32} (h : IN X S M) {o : Out} {w : Wd} (hp : pAi k X S (y_line X p1.toNatClampNeg p2 p3 p4) 29 p1.toNatClampNeg (k_line p1 p2 p3 p4 X S) o w) : CO k (xAd X 11 0) (f_line p1 p2 p3 p4 M).2 (fun o => o = .inl (some (.int (f_line p1 p2 p3 p4 M).1))) (fun E => E = "java/lang/IndexOutOfBoundsException" ∨ E = "java/lang/IllegalArgumentException" ∨ E = "java/lang/IllegalStateException") xcIAS o w := by
  obtain ⟨hX, hL, hR, hM⟩ := id h
  exact co_A h (eq_line hX hL hR (fun r hr hl => h.ln30 hr hl) (fun r hr hl i hi => h.lnI hr hl hi)) (mv_line hM) (fun E he => kx_line he) rfl hp
theorem kc_line {l : Launch} {k : KC} (hl : l.stackTraces = false) {X : CX} {S : CT} {M : MS} (h : IN X S M) {p1 p2 p3 p4 : Int32} (hz : narrow .boolean (.int p2) = .int p2 ∧ fits .boolean (.int p2) = true) : MC l k yX10_line (.code yX10_line cX10_line 6 (some .int)) rma_line [(vr X 11 0), .int p1, .int p2, .int p3, .int p4] (cW k X S) (pAi k X S (y_line X p1.toNatClampNeg p2 p3 p4) 29 p1.toNatClampNeg (k_line p1 p2 p3 p4 X S)) := ck_line hl h.1 h.2.1 h.ts hz
theorem rc_line {l : Launch} {k : KC} {mo : Nat} {ad : Nat → Nat} (hl : l.stackTraces = false) (hH : HM mo ad) {M : MS} (hM : MV M) {p1 p2 p3 p4 : Int32} (hb : vp_nar .boolean p2 = p2) : CM l k mo ad yX11_line (.code yX11_line cX11_line 8 (some .int)) rm_X11_line [.int p1, .int p2, .int p3, .int p4] M (some (.int (f_line p1 p2 p3 p4 M).1)) (f_line p1 p2 p3 p4 M).2 := c_line hl hH hM.rq hb
set_option maxRecDepth 100000 in
theorem kx_send {X : CX} {S : CT} {p1 : Int32} {E : String} (h : k_send p1 X S = .inr E) : E = "java/lang/IndexOutOfBoundsException" ∨ E = "java/lang/IllegalStateException" := by
  unfold k_send at h
  repeat' split at h
  all_goals first | exact Sum.noConfusion h | (cases h <;> first | exact rfl | exact Or.inl rfl | exact Or.inr rfl | exact Or.inr (Or.inl rfl) | exact Or.inr (Or.inr rfl))
theorem so_send {k : KC} {X : CX} {S : CT} {M : MS} {p1 : Int32} (h : IN X S M) {o : Out} {w : Wd} (hp : pOi k X S (k_send p1 X S) o w) : CO k (xAd X 11 0) (f_send p1 M).2 (fun o => o = .inl (some (.int (f_send p1 M).1))) (fun E => E = "java/lang/IndexOutOfBoundsException" ∨ E = "java/lang/IllegalStateException") xcIS o w := by
  obtain ⟨hX, hL, hR, hM⟩ := id h
  exact co_I h (eq_send hX hL hR hM.qk hM.2.1.2.2.2.1 hM.yr) (mv_send hM) (fun E he => kx_send he) hp
theorem kc_send {l : Launch} {k : KC} (hl : l.stackTraces = false) {X : CX} {S : CT} {M : MS} (h : IN X S M) {p1 : Int32} : MC l k yX10_send (.code yX10_send cX10_send 5 (some .int)) rmt_X10_send [(vr X 11 0), .int p1] (cW k X S) (pOi k X S (k_send p1 X S)) := ck_send hl h.1 h.bs h.ts h.lc
theorem rc_send {l : Launch} {k : KC} {mo : Nat} {ad : Nat → Nat} (hl : l.stackTraces = false) (hH : HM mo ad) {M : MS} (hM : MV M) {p1 : Int32} : CM l k mo ad yX11_send (.code yX11_send cX11_send 4 (some .int)) rm_X11_send [.int p1] M (some (.int (f_send p1 M).1)) (f_send p1 M).2 := c_send hl hH hM.rq hM.yr (fun hp => hM.hbs hp)
set_option maxRecDepth 100000 in
theorem kx_approve {X : CX} {S : CT} {p1 p2 : Int32} {E : String} (h : k_approve p1 p2 X S = .inr E) : E = "java/lang/IndexOutOfBoundsException" ∨ E = "java/lang/IllegalStateException" := by
  unfold k_approve at h
  repeat' split at h
  all_goals first | exact Sum.noConfusion h | (cases h <;> first | exact rfl | exact Or.inl rfl | exact Or.inr rfl | exact Or.inr (Or.inl rfl) | exact Or.inr (Or.inr rfl))
theorem so_approve {k : KC} {X : CX} {S : CT} {M : MS} {p1 p2 : Int32} (h : IN X S M) {o : Out} {w : Wd} (hp : pOi k X S (k_approve p1 p2 X S) o w) : CO k (xAd X 11 0) (f_approve p1 p2 M).2 (fun o => o = .inl (some (.int (f_approve p1 p2 M).1))) (fun E => E = "java/lang/IndexOutOfBoundsException" ∨ E = "java/lang/IllegalStateException") xcIS o w := by
  obtain ⟨hX, hL, hR, hM⟩ := id h
  exact co_I h (eq_approve hX hL hR hM.qk hM.d0 hM.u) (mv_approve hM) (fun E he => kx_approve he) hp
theorem kc_approve {l : Launch} {k : KC} (hl : l.stackTraces = false) {X : CX} {S : CT} {M : MS} (h : IN X S M) {p1 p2 : Int32} : MC l k yX10_approve (.code yX10_approve cX10_approve 6 (some .int)) rmt_X10_approve [(vr X 11 0), .int p1, .int p2] (cW k X S) (pOi k X S (k_approve p1 p2 X S)) := ck_approve hl h.1 h.bs h.ts
theorem rc_approve {l : Launch} {k : KC} {mo : Nat} {ad : Nat → Nat} (hl : l.stackTraces = false) (hH : HM mo ad) {M : MS} (hM : MV M) {p1 p2 : Int32} : CM l k mo ad yX11_approve (.code yX11_approve cX11_approve 4 (some .int)) rm_X11_approve [.int p1, .int p2] M (some (.int (f_approve p1 p2 M).1)) (f_approve p1 p2 M).2 := c_approve hl hH hM.rq
set_option maxRecDepth 100000 in
theorem kx_refuse {X : CX} {S : CT} {p1 p2 : Int32} {E : String} (h : k_refuse p1 p2 X S = .inr E) : E = "java/lang/IndexOutOfBoundsException" ∨ E = "java/lang/IllegalStateException" := by
  unfold k_refuse at h
  repeat' split at h
  all_goals first | exact Sum.noConfusion h | (cases h <;> first | exact rfl | exact Or.inl rfl | exact Or.inr rfl | exact Or.inr (Or.inl rfl) | exact Or.inr (Or.inr rfl))
theorem so_refuse {k : KC} {X : CX} {S : CT} {M : MS} {p1 p2 : Int32} (h : IN X S M) {o : Out} {w : Wd} (hp : pOv k X S (k_refuse p1 p2 X S) o w) : CO k (xAd X 11 0) (f_refuse p1 p2 M) (fun o => o = .inl none) (fun E => E = "java/lang/IndexOutOfBoundsException" ∨ E = "java/lang/IllegalStateException") xcIS o w := by
  obtain ⟨hX, hL, hR, hM⟩ := id h
  exact co_V h (eq_refuse hX hL hR hM.qk hM.d0 hM.u) (mv_refuse hM) (fun E he => kx_refuse he) hp
theorem kc_refuse {l : Launch} {k : KC} (hl : l.stackTraces = false) {X : CX} {S : CT} {M : MS} (h : IN X S M) {p1 p2 : Int32} : MC l k yX10_refuse (.code yX10_refuse cX10_refuse 5 none) rmt_X10_refuse [(vr X 11 0), .int p1, .int p2] (cW k X S) (pOv k X S (k_refuse p1 p2 X S)) := ck_refuse hl h.1 h.ts h.lc
theorem rc_refuse {l : Launch} {k : KC} {mo : Nat} {ad : Nat → Nat} (hl : l.stackTraces = false) (hH : HM mo ad) {M : MS} (hM : MV M) {p1 p2 : Int32} : CM l k mo ad yX11_refuse (.code yX11_refuse cX11_refuse 6 none) rm_X11_refuse [.int p1, .int p2] M none (f_refuse p1 p2 M) := c_refuse hl hH hM.rq
set_option maxRecDepth 100000 in
theorem kx_edit {X : CX} {S : CT} {p1 p2 p3 : Int32} {E : String} (h : k_edit p1 p2 p3 X S = .inr E) : E = "java/lang/IndexOutOfBoundsException" ∨ E = "java/lang/IllegalArgumentException" ∨ E = "java/lang/IllegalStateException" := by
  unfold k_edit at h
  repeat' split at h
  all_goals first | exact Sum.noConfusion h | (cases h <;> first | exact rfl | exact Or.inl rfl | exact Or.inr rfl | exact Or.inr (Or.inl rfl) | exact Or.inr (Or.inr rfl))
theorem so_edit {k : KC} {X : CX} {S : CT} {M : MS} {p1 p2 p3 : Int32} (h : IN X S M) {o : Out} {w : Wd} (hp : pOi k X S (k_edit p1 p2 p3 X S) o w) : CO k (xAd X 11 0) (f_edit p1 p2 p3 M).2 (fun o => o = .inl (some (.int (f_edit p1 p2 p3 M).1))) (fun E => E = "java/lang/IndexOutOfBoundsException" ∨ E = "java/lang/IllegalArgumentException" ∨ E = "java/lang/IllegalStateException") xcIAS o w := by
  obtain ⟨hX, hL, hR, hM⟩ := id h
  exact co_I h (eq_edit hX hL hR hM.qk hM.d0 hM.u) (mv_edit hM) (fun E he => kx_edit he) hp
theorem kc_edit {l : Launch} {k : KC} (hl : l.stackTraces = false) {X : CX} {S : CT} {M : MS} (h : IN X S M) {p1 p2 p3 : Int32} : MC l k yX10_edit (.code yX10_edit cX10_edit 7 (some .int)) rmt_X10_edit [(vr X 11 0), .int p1, .int p2, .int p3] (cW k X S) (pOi k X S (k_edit p1 p2 p3 X S)) := ck_edit hl h.1 h.lc
theorem rc_edit {l : Launch} {k : KC} {mo : Nat} {ad : Nat → Nat} (hl : l.stackTraces = false) (hH : HM mo ad) {M : MS} (hM : MV M) {p1 p2 p3 : Int32} : CM l k mo ad yX11_edit (.code yX11_edit cX11_edit 8 (some .int)) rm_X11_edit [.int p1, .int p2, .int p3] M (some (.int (f_edit p1 p2 p3 M).1)) (f_edit p1 p2 p3 M).2 := c_edit hl hH hM.rq
set_option maxRecDepth 100000 in
theorem kx_order {X : CX} {S : CT} {p1 p2 : Int32} {E : String} (h : k_order p1 p2 X S = .inr E) : E = "java/lang/IndexOutOfBoundsException" ∨ E = "java/lang/IllegalStateException" := by
  unfold k_order at h
  repeat' split at h
  all_goals first | exact Sum.noConfusion h | (cases h <;> first | exact rfl | exact Or.inl rfl | exact Or.inr rfl | exact Or.inr (Or.inl rfl) | exact Or.inr (Or.inr rfl))
theorem so_order {k : KC} {X : CX} {S : CT} {M : MS} {p1 p2 : Int32} (h : IN X S M) {o : Out} {w : Wd} (hp : pOv k X S (k_order p1 p2 X S) o w) : CO k (xAd X 11 0) (f_order p1 p2 M) (fun o => o = .inl none) (fun E => E = "java/lang/IndexOutOfBoundsException" ∨ E = "java/lang/IllegalStateException") xcIS o w := by
  obtain ⟨hX, hL, hR, hM⟩ := id h
  exact co_V h (eq_order hX hL hR hM.hn) (mv_order hM) (fun E he => kx_order he) hp
theorem kc_order {l : Launch} {k : KC} (hl : l.stackTraces = false) {X : CX} {S : CT} {M : MS} (h : IN X S M) {p1 p2 : Int32} : MC l k yX10_order (.code yX10_order cX10_order 5 none) rmt_X10_order [(vr X 11 0), .int p1, .int p2] (cW k X S) (pOv k X S (k_order p1 p2 X S)) := ck_order hl h.1 
theorem rc_order {l : Launch} {k : KC} {mo : Nat} {ad : Nat → Nat} (hl : l.stackTraces = false) (hH : HM mo ad) {M : MS} (hM : MV M) {p1 p2 : Int32} : CM l k mo ad yX11_order (.code yX11_order cX11_order 4 none) rm_X11_order [.int p1, .int p2] M none (f_order p1 p2 M) := c_order hl hH hM.rq
set_option maxRecDepth 100000 in
theorem kx_receive {X : CX} {S : CT} {p1 p2 p3 : Int32} {E : String} (h : k_receive p1 p2 p3 X S = .inr E) : E = "java/lang/IndexOutOfBoundsException" ∨ E = "java/lang/IllegalArgumentException" ∨ E = "java/lang/IllegalStateException" := by
  unfold k_receive at h
  repeat' split at h
  all_goals first | exact Sum.noConfusion h | (cases h <;> first | exact rfl | exact Or.inl rfl | exact Or.inr rfl | exact Or.inr (Or.inl rfl) | exact Or.inr (Or.inr rfl))
theorem so_receive {k : KC} {X : CX} {S : CT} {M : MS} {p1 p2 p3 : Int32} (h : IN X S M) {o : Out} {w : Wd} (hp : pOi k X S (k_receive p1 p2 p3 X S) o w) : CO k (xAd X 11 0) (f_receive p1 p2 p3 M).2 (fun o => o = .inl (some (.int (f_receive p1 p2 p3 M).1))) (fun E => E = "java/lang/IndexOutOfBoundsException" ∨ E = "java/lang/IllegalArgumentException" ∨ E = "java/lang/IllegalStateException") xcIAS o w := by
  obtain ⟨hX, hL, hR, hM⟩ := id h
  exact co_I h (eq_receive hX hL hR hM.qk hM.yr hM.vv hM.hw hM.h30) (mv_receive hM) (fun E he => kx_receive he) hp
theorem kc_receive {l : Launch} {k : KC} (hl : l.stackTraces = false) {X : CX} {S : CT} {M : MS} (h : IN X S M) {p1 p2 p3 : Int32} : MC l k yX10_receive (.code yX10_receive cX10_receive 7 (some .int)) rmt_X10_receive [(vr X 11 0), .int p1, .int p2, .int p3] (cW k X S) (pOi k X S (k_receive p1 p2 p3 X S)) := ck_receive hl h.1 h.lc
theorem rc_receive {l : Launch} {k : KC} {mo : Nat} {ad : Nat → Nat} (hl : l.stackTraces = false) (hH : HM mo ad) {M : MS} (hM : MV M) {p1 p2 p3 : Int32} : CM l k mo ad yX11_receive (.code yX11_receive cX11_receive 8 (some .int)) rm_X11_receive [.int p1, .int p2, .int p3] M (some (.int (f_receive p1 p2 p3 M).1)) (f_receive p1 p2 p3 M).2 := c_receive hl hH hM.rq hM.le39 hM.yr hM.iv
set_option maxRecDepth 100000 in
theorem kx_change {X : CX} {S : CT} {p1 p2 p3 : Int32} {E : String} (h : k_change p1 p2 p3 X S = .inr E) : E = "java/lang/IndexOutOfBoundsException" ∨ E = "java/lang/IllegalArgumentException" ∨ E = "java/lang/IllegalStateException" := by
  unfold k_change at h
  repeat' split at h
  all_goals first | exact Sum.noConfusion h | (cases h <;> first | exact rfl | exact Or.inl rfl | exact Or.inr rfl | exact Or.inr (Or.inl rfl) | exact Or.inr (Or.inr rfl))
theorem so_change {k : KC} {X : CX} {S : CT} {M : MS} {p1 p2 p3 : Int32} (h : IN X S M) {o : Out} {w : Wd} (hp : pOi k X S (k_change p1 p2 p3 X S) o w) : CO k (xAd X 11 0) (f_change p1 p2 p3 M).2 (fun o => o = .inl (some (.int (f_change p1 p2 p3 M).1))) (fun E => E = "java/lang/IndexOutOfBoundsException" ∨ E = "java/lang/IllegalArgumentException" ∨ E = "java/lang/IllegalStateException") xcIAS o w := by
  obtain ⟨hX, hL, hR, hM⟩ := id h
  exact co_I h (eq_change hX hL hR hM.qk hM.yr hM.vv hM.ht hM.hln) (mv_change hM) (fun E he => kx_change he) hp
theorem kc_change {l : Launch} {k : KC} (hl : l.stackTraces = false) {X : CX} {S : CT} {M : MS} (h : IN X S M) {p1 p2 p3 : Int32} : MC l k yX10_change (.code yX10_change cX10_change 8 (some .int)) rmt_X10_change [(vr X 11 0), .int p1, .int p2, .int p3] (cW k X S) (pOi k X S (k_change p1 p2 p3 X S)) := ck_change hl h.1 h.lc h.yrx
theorem rc_change {l : Launch} {k : KC} {mo : Nat} {ad : Nat → Nat} (hl : l.stackTraces = false) (hH : HM mo ad) {M : MS} (hM : MV M) {p1 p2 p3 : Int32} : CM l k mo ad yX11_change (.code yX11_change cX11_change 10 (some .int)) rm_X11_change [.int p1, .int p2, .int p3] M (some (.int (f_change p1 p2 p3 M).1)) (f_change p1 p2 p3 M).2 := c_change hl hH hM.rq (fun r hr h4 => (hM.qk r hr).2.2.2.2.2.2.2.1 h4) hM.le39 hM.yr hM.iv
set_option maxRecDepth 100000 in
theorem kx_end {X : CX} {S : CT} {p1 : Int32} {E : String} (h : k_end p1 X S = .inr E) : E = "java/lang/IndexOutOfBoundsException" ∨ E = "java/lang/IllegalStateException" := by
  unfold k_end at h
  repeat' split at h
  all_goals first | exact Sum.noConfusion h | (cases h <;> first | exact rfl | exact Or.inl rfl | exact Or.inr rfl | exact Or.inr (Or.inl rfl) | exact Or.inr (Or.inr rfl))
theorem so_end {k : KC} {X : CX} {S : CT} {M : MS} {p1 : Int32} (h : IN X S M) {o : Out} {w : Wd} (hp : pOl k X S (k_end p1 X S) o w) : CO k (xAd X 11 0) (f_end p1 M).2 (fun o => o = .inl (some (.long (f_end p1 M).1))) (fun E => E = "java/lang/IndexOutOfBoundsException" ∨ E = "java/lang/IllegalStateException") xcIS o w := by
  obtain ⟨hX, hL, hR, hM⟩ := id h
  exact co_L h (eq_end hX hL hR hM.qk hM.yr hM.vv hM.h41) (mv_end hM) (fun E he => kx_end he) hp
theorem kc_end {l : Launch} {k : KC} (hl : l.stackTraces = false) {X : CX} {S : CT} {M : MS} (h : IN X S M) {p1 : Int32} : MC l k yX10_end (.code yX10_end cX10_end 3 (some .long)) rmt_X10_end [(vr X 11 0), .int p1] (cW k X S) (pOl k X S (k_end p1 X S)) := ck_end hl h.1 h.lc
theorem rc_end {l : Launch} {k : KC} {mo : Nat} {ad : Nat → Nat} (hl : l.stackTraces = false) (hH : HM mo ad) {M : MS} (hM : MV M) {p1 : Int32} : CM l k mo ad yX11_end (.code yX11_end cX11_end 5 (some .long)) rm_X11_end [.int p1] M (some (.long (f_end p1 M).1)) (f_end p1 M).2 := c_end hl hH hM.rq hM.le39
set_option maxRecDepth 100000 in
theorem kx_invoice {X : CX} {S : CT} {p1 p2 p3 p4 : Int32} {E : String} (h : k_invoice p1 p2 p3 p4 X S = .inr E) : E = "java/lang/IndexOutOfBoundsException" ∨ E = "java/lang/IllegalArgumentException" ∨ E = "java/lang/IllegalStateException" := by
  unfold k_invoice at h
  repeat' split at h
  all_goals first | exact Sum.noConfusion h | (cases h <;> first | exact rfl | exact Or.inl rfl | exact Or.inr rfl | exact Or.inr (Or.inl rfl) | exact Or.inr (Or.inr rfl))
theorem so_invoice {k : KC} {X : CX} {S : CT} {M : MS} {p1 p2 p3 p4 : Int32} (h : IN X S M) {o : Out} {w : Wd} (hp : pAi k X S (y_invoice X p1 (4 * p1 + p2) (ci S 264 p1) p3 p4 ((((p3.toInt64) * (p4.toInt64)) * ((ci S 160 (ci S 289 (ci S 264 p1))).toInt64)) / 1000)) 25 0 (k_invoice p1 p2 p3 p4 X S) o w) : CO k (xAd X 11 0) (f_invoice p1 p2 p3 p4 M).2 (fun o => o = .inl (some (.int (f_invoice p1 p2 p3 p4 M).1))) (fun E => E = "java/lang/IndexOutOfBoundsException" ∨ E = "java/lang/IllegalArgumentException" ∨ E = "java/lang/IllegalStateException") xcIAS o w := by
  obtain ⟨hX, hL, hR, hM⟩ := id h
  exact co_A h (eq_invoice hX hL hR hM.qk hM.yr hM.vv hM.hc (fun j hj i hi => hM.z39 hi j hj) (fun j hj i hi => hM.zl39 hi j hj)) (mv_invoice hM) (fun E he => kx_invoice he) rfl hp
theorem kc_invoice {l : Launch} {k : KC} (hl : l.stackTraces = false) {X : CX} {S : CT} {M : MS} (h : IN X S M) {p1 p2 p3 p4 : Int32} : MC l k yX10_invoice (.code yX10_invoice cX10_invoice 9 (some .int)) rma_invoice [(vr X 11 0), .int p1, .int p2, .int p3, .int p4] (cW k X S) (pAi k X S (y_invoice X p1 (4 * p1 + p2) (ci S 264 p1) p3 p4 ((((p3.toInt64) * (p4.toInt64)) * ((ci S 160 (ci S 289 (ci S 264 p1))).toInt64)) / 1000)) 25 0 (k_invoice p1 p2 p3 p4 X S)) := ck_invoice hl h.1 h.2.1 h.ts h.lc
theorem rc_invoice {l : Launch} {k : KC} {mo : Nat} {ad : Nat → Nat} (hl : l.stackTraces = false) (hH : HM mo ad) {M : MS} (hM : MV M) {p1 p2 p3 p4 : Int32} : CM l k mo ad yX11_invoice (.code yX11_invoice cX11_invoice 8 (some .int)) rm_X11_invoice [.int p1, .int p2, .int p3, .int p4] M (some (.int (f_invoice p1 p2 p3 p4 M).1)) (f_invoice p1 p2 p3 p4 M).2 := c_invoice hl hH hM.rq hM.le39 hM.yr (fun r hr h4 => in_vp (n := 5) (by decide) ((hM.qk r hr).2.2.2.2.2.2.1 (Or.inl h4))) (fun u hu => hM.mon hu)
set_option maxRecDepth 100000 in
theorem kx_letGo {X : CX} {S : CT} {p1 p2 : Int32} {E : String} (h : k_letGo p1 p2 X S = .inr E) : E = "java/lang/IndexOutOfBoundsException" ∨ E = "java/lang/IllegalStateException" := by
  unfold k_letGo at h
  repeat' split at h
  all_goals first | exact Sum.noConfusion h | (cases h <;> first | exact rfl | exact Or.inl rfl | exact Or.inr rfl | exact Or.inr (Or.inl rfl) | exact Or.inr (Or.inr rfl))
theorem so_letGo {k : KC} {X : CX} {S : CT} {M : MS} {p1 p2 : Int32} (h : IN X S M) {o : Out} {w : Wd} (hp : pOi k X S (k_letGo p1 p2 X S) o w) : CO k (xAd X 11 0) (f_letGo p1 p2 M).2 (fun o => o = .inl (some (.int (f_letGo p1 p2 M).1))) (fun E => E = "java/lang/IndexOutOfBoundsException" ∨ E = "java/lang/IllegalStateException") xcIS o w := by
  obtain ⟨hX, hL, hR, hM⟩ := id h
  exact co_I h (eq_letGo hX hL hR hM.qk hM.yr hM.vv) (mv_letGo hM) (fun E he => kx_letGo he) hp
theorem kc_letGo {l : Launch} {k : KC} (hl : l.stackTraces = false) {X : CX} {S : CT} {M : MS} (h : IN X S M) {p1 p2 : Int32} : MC l k yX10_letGo (.code yX10_letGo cX10_letGo 5 (some .boolean)) rmt_X10_letGo [(vr X 11 0), .int p1, .int p2] (cW k X S) (pOi k X S (k_letGo p1 p2 X S)) := ck_letGo hl h.1 h.ts h.lc
theorem rc_letGo {l : Launch} {k : KC} {mo : Nat} {ad : Nat → Nat} (hl : l.stackTraces = false) (hH : HM mo ad) {M : MS} (hM : MV M) {p1 p2 : Int32} : CM l k mo ad yX11_letGo (.code yX11_letGo cX11_letGo 5 (some .boolean)) rm_X11_letGo [.int p1, .int p2] M (some (.int (f_letGo p1 p2 M).1)) (f_letGo p1 p2 M).2 := c_letGo hl hH hM.iv hM.le39 hM.yr
set_option maxRecDepth 100000 in
theorem kx_run {X : CX} {S : CT} {p1 p2 : Int32} {E : String} (h : k_run p1 p2 X S = .inr E) : E = "java/lang/IllegalArgumentException" := by
  unfold k_run at h
  repeat' split at h
  all_goals first | exact Sum.noConfusion h | (cases h <;> first | exact rfl | exact Or.inl rfl | exact Or.inr rfl | exact Or.inr (Or.inl rfl) | exact Or.inr (Or.inr rfl))
theorem so_run {k : KC} {X : CX} {S : CT} {M : MS} {p1 p2 : Int32} (h : IN X S M) {o : Out} {w : Wd} (hp : pOi k X S (k_run p1 p2 X S) o w) : CO k (xAd X 11 0) (f_run p1 p2 M).2 (fun o => o = .inl (some (.int (f_run p1 p2 M).1))) (fun E => E = "java/lang/IllegalArgumentException") xcA o w := by
  obtain ⟨hX, hL, hR, hM⟩ := id h
  exact co_I h (eq_run hX hL hR hM.vv hM.hc hM.h49 hM.d1079 hM.h35) (mv_run hM) (fun E he => kx_run he) hp
theorem kc_run {l : Launch} {k : KC} (hl : l.stackTraces = false) {X : CX} {S : CT} {M : MS} (h : IN X S M) {p1 p2 : Int32} : MC l k yX10_run (.code yX10_run cX10_run 6 (some .int)) rmt_X10_run [(vr X 11 0), .int p1, .int p2] (cW k X S) (pOi k X S (k_run p1 p2 X S)) := ck_run hl h.1 h.ts
theorem rc_run {l : Launch} {k : KC} {mo : Nat} {ad : Nat → Nat} (hl : l.stackTraces = false) (hH : HM mo ad) {M : MS} (hM : MV M) {p1 p2 : Int32} : CM l k mo ad yX11_run (.code yX11_run cX11_run 6 (some .int)) rm_X11_run [.int p1, .int p2] M (some (.int (f_run p1 p2 M).1)) (f_run p1 p2 M).2 := c_run hl hH hM.le39 hM.yr hM.iv
set_option maxRecDepth 100000 in
theorem kx_bounce {X : CX} {S : CT} {p1 : Int32} {E : String} (h : k_bounce p1 X S = .inr E) : E = "java/lang/IndexOutOfBoundsException" ∨ E = "java/lang/IllegalStateException" := by
  unfold k_bounce at h
  repeat' split at h
  all_goals first | exact Sum.noConfusion h | (cases h <;> first | exact rfl | exact Or.inl rfl | exact Or.inr rfl | exact Or.inr (Or.inl rfl) | exact Or.inr (Or.inr rfl))
theorem so_bounce {k : KC} {X : CX} {S : CT} {M : MS} {p1 : Int32} (h : IN X S M) {o : Out} {w : Wd} (hp : pOl k X S (k_bounce p1 X S) o w) : CO k (xAd X 11 0) (f_bounce p1 M).2 (fun o => o = .inl (some (.long (f_bounce p1 M).1))) (fun E => E = "java/lang/IndexOutOfBoundsException" ∨ E = "java/lang/IllegalStateException") xcIS o w := by
  obtain ⟨hX, hL, hR, hM⟩ := id h
  exact co_L h (eq_bounce hX hL hR ) (mv_bounce hM) (fun E he => kx_bounce he) hp
theorem kc_bounce {l : Launch} {k : KC} (hl : l.stackTraces = false) {X : CX} {S : CT} {M : MS} (h : IN X S M) {p1 : Int32} : MC l k yX10_bounce (.code yX10_bounce cX10_bounce 3 (some .long)) rmt_X10_bounce [(vr X 11 0), .int p1] (cW k X S) (pOl k X S (k_bounce p1 X S)) := ck_bounce hl h.1 
theorem rc_bounce {l : Launch} {k : KC} {mo : Nat} {ad : Nat → Nat} (hl : l.stackTraces = false) (hH : HM mo ad) {M : MS} (hM : MV M) {p1 : Int32} : CM l k mo ad yX11_bounce (.code yX11_bounce cX11_bounce 3 (some .long)) rm_X11_bounce [.int p1] M (some (.long (f_bounce p1 M).1)) (f_bounce p1 M).2 := c_bounce hl hH hM.le39
set_option maxRecDepth 100000 in
theorem kx_goOn {X : CX} {S : CT} {p1 : Int32} {E : String} (h : k_goOn p1 X S = .inr E) : E = "java/lang/IndexOutOfBoundsException" ∨ E = "java/lang/IllegalStateException" := by
  unfold k_goOn at h
  repeat' split at h
  all_goals first | exact Sum.noConfusion h | (cases h <;> first | exact rfl | exact Or.inl rfl | exact Or.inr rfl | exact Or.inr (Or.inl rfl) | exact Or.inr (Or.inr rfl))
theorem so_goOn {k : KC} {X : CX} {S : CT} {M : MS} {p1 : Int32} (h : IN X S M) {o : Out} {w : Wd} (hp : pOv k X S (k_goOn p1 X S) o w) : CO k (xAd X 11 0) (f_goOn p1 M) (fun o => o = .inl none) (fun E => E = "java/lang/IndexOutOfBoundsException" ∨ E = "java/lang/IllegalStateException") xcIS o w := by
  obtain ⟨hX, hL, hR, hM⟩ := id h
  exact co_V h (eq_goOn hX hL hR ) (mv_goOn hM) (fun E he => kx_goOn he) hp
theorem kc_goOn {l : Launch} {k : KC} (hl : l.stackTraces = false) {X : CX} {S : CT} {M : MS} (h : IN X S M) {p1 : Int32} : MC l k yX10_goOn (.code yX10_goOn cX10_goOn 3 none) rmt_X10_goOn [(vr X 11 0), .int p1] (cW k X S) (pOv k X S (k_goOn p1 X S)) := ck_goOn hl h.1 
theorem rc_goOn {l : Launch} {k : KC} {mo : Nat} {ad : Nat → Nat} (hl : l.stackTraces = false) (hH : HM mo ad) {M : MS} (hM : MV M) {p1 : Int32} : CM l k mo ad yX11_goOn (.code yX11_goOn cX11_goOn 3 none) rm_X11_goOn [.int p1] M none (f_goOn p1 M) := c_goOn hl hH hM.le39
set_option maxRecDepth 100000 in
theorem kx_place {X : CX} {S : CT} {p1 p2 : Int32} {E : String} (h : k_place p1 p2 X S = .inr E) : E = "java/lang/IndexOutOfBoundsException" ∨ E = "java/lang/IllegalArgumentException" := by
  unfold k_place at h
  repeat' split at h
  all_goals first | exact Sum.noConfusion h | (cases h <;> first | exact rfl | exact Or.inl rfl | exact Or.inr rfl | exact Or.inr (Or.inl rfl) | exact Or.inr (Or.inr rfl))
theorem so_place {k : KC} {X : CX} {S : CT} {M : MS} {p1 p2 : Int32} (h : IN X S M) {o : Out} {w : Wd} (hp : pOi k X S (k_place p1 p2 X S) o w) : CO k (xAd X 11 0) (f_place p1 p2 M).2 (fun o => o = .inl (some (.int (f_place p1 p2 M).1))) (fun E => E = "java/lang/IndexOutOfBoundsException" ∨ E = "java/lang/IllegalArgumentException") xcIA o w := by
  obtain ⟨hX, hL, hR, hM⟩ := id h
  exact co_I h (eq_place hX hL hR ) (mv_place hM) (fun E he => kx_place he) hp
theorem kc_place {l : Launch} {k : KC} (hl : l.stackTraces = false) {X : CX} {S : CT} {M : MS} (h : IN X S M) {p1 p2 : Int32} : MC l k yX10_place (.code yX10_place cX10_place 4 (some .int)) rmt_X10_place [(vr X 11 0), .int p1, .int p2] (cW k X S) (pOi k X S (k_place p1 p2 X S)) := ck_place hl h.1 
theorem rc_place {l : Launch} {k : KC} {mo : Nat} {ad : Nat → Nat} (hl : l.stackTraces = false) (hH : HM mo ad) {M : MS} (hM : MV M) {p1 p2 : Int32} : CM l k mo ad yX11_place (.code yX11_place cX11_place 4 (some .int)) rm_X11_place [.int p1, .int p2] M (some (.int (f_place p1 p2 M).1)) (f_place p1 p2 M).2 := c_place hl hH 
set_option maxRecDepth 100000 in
theorem kx_trip {X : CX} {S : CT} {p1 p2 p3 p4 p5 p6 p7 : Int32} {E : String} (h : k_trip p1 p2 p3 p4 p5 p6 p7 X S = .inr E) : E = "java/lang/IndexOutOfBoundsException" ∨ E = "java/lang/IllegalArgumentException" ∨ E = "java/lang/IllegalStateException" := by
  unfold k_trip at h
  repeat' split at h
  all_goals first | exact Sum.noConfusion h | (cases h <;> first | exact rfl | exact Or.inl rfl | exact Or.inr rfl | exact Or.inr (Or.inl rfl) | exact Or.inr (Or.inr rfl))
theorem so_trip {k : KC} {X : CX} {S : CT} {M : MS} {p1 p2 p3 p4 p5 p6 p7 : Int32} (h : IN X S M) {o : Out} {w : Wd} (hp : pAi k X S (y_trip X ((k_allowance (ci S 1280 p3) p4 p5 p6 X S) + ((p7.toInt64) * 30))) 26 0 (k_trip p1 p2 p3 p4 p5 p6 p7 X S) o w) : CO k (xAd X 11 0) (f_trip p1 p2 p3 p4 p5 p6 p7 M).2 (fun o => o = .inl (some (.int (f_trip p1 p2 p3 p4 p5 p6 p7 M).1))) (fun E => E = "java/lang/IndexOutOfBoundsException" ∨ E = "java/lang/IllegalArgumentException" ∨ E = "java/lang/IllegalStateException") xcIAS o w := by
  obtain ⟨hX, hL, hR, hM⟩ := id h
  exact co_A h (eq_trip hX hL hR hM.yr hM.hr) (mv_trip hM) (fun E he => kx_trip he) rfl hp
theorem kc_trip {l : Launch} {k : KC} (hl : l.stackTraces = false) {X : CX} {S : CT} {M : MS} (h : IN X S M) {p1 p2 p3 p4 p5 p6 p7 : Int32} : MC l k yX10_trip (.code yX10_trip cX10_trip 12 (some .int)) rma_trip [(vr X 11 0), .int p1, .int p2, .int p3, .int p4, .int p5, .int p6, .int p7] (cW k X S) (pAi k X S (y_trip X ((k_allowance (ci S 1280 p3) p4 p5 p6 X S) + ((p7.toInt64) * 30))) 26 0 (k_trip p1 p2 p3 p4 p5 p6 p7 X S)) := ck_trip hl h.1 h.2.1 h.ts h.lc
theorem rc_trip {l : Launch} {k : KC} {mo : Nat} {ad : Nat → Nat} (hl : l.stackTraces = false) (hH : HM mo ad) {M : MS} (hM : MV M) {p1 p2 p3 p4 p5 p6 p7 : Int32} : CM l k mo ad yX11_trip (.code yX11_trip cX11_trip 12 (some .int)) rm_X11_trip [.int p1, .int p2, .int p3, .int p4, .int p5, .int p6, .int p7] M (some (.int (f_trip p1 p2 p3 p4 p5 p6 p7 M).1)) (f_trip p1 p2 p3 p4 p5 p6 p7 M).2 := c_trip hl hH hM.le3 hM.le57 hM.yr
set_option maxRecDepth 100000 in
theorem kx_advance {X : CX} {S : CT} {p1 p2 : Int32} {E : String} (h : k_advance p1 p2 X S = .inr E) : E = "java/lang/IndexOutOfBoundsException" ∨ E = "java/lang/IllegalArgumentException" := by
  unfold k_advance at h
  repeat' split at h
  all_goals first | exact Sum.noConfusion h | (cases h <;> first | exact rfl | exact Or.inl rfl | exact Or.inr rfl | exact Or.inr (Or.inl rfl) | exact Or.inr (Or.inr rfl))
theorem so_advance {k : KC} {X : CX} {S : CT} {M : MS} {p1 p2 : Int32} (h : IN X S M) {o : Out} {w : Wd} (hp : pOl k X S (k_advance p1 p2 X S) o w) : CO k (xAd X 11 0) (f_advance p1 p2 M).2 (fun o => o = .inl (some (.long (f_advance p1 p2 M).1))) (fun E => E = "java/lang/IndexOutOfBoundsException" ∨ E = "java/lang/IllegalArgumentException") xcIA o w := by
  obtain ⟨hX, hL, hR, hM⟩ := id h
  exact co_L h (eq_advance hX hL hR ) (mv_advance hM) (fun E he => kx_advance he) hp
theorem kc_advance {l : Launch} {k : KC} (hl : l.stackTraces = false) {X : CX} {S : CT} {M : MS} (h : IN X S M) {p1 p2 : Int32} : MC l k yX10_advance (.code yX10_advance cX10_advance 4 (some .long)) rmt_X10_advance [(vr X 11 0), .int p1, .int p2] (cW k X S) (pOl k X S (k_advance p1 p2 X S)) := ck_advance hl h.1 
theorem rc_advance {l : Launch} {k : KC} {mo : Nat} {ad : Nat → Nat} (hl : l.stackTraces = false) (hH : HM mo ad) {M : MS} (hM : MV M) {p1 p2 : Int32} : CM l k mo ad yX11_advance (.code yX11_advance cX11_advance 3 (some .long)) rm_X11_advance [.int p1, .int p2] M (some (.long (f_advance p1 p2 M).1)) (f_advance p1 p2 M).2 := c_advance hl hH hM.le3
set_option maxRecDepth 100000 in
theorem kx_settle {X : CX} {S : CT} {p1 : Int32} {E : String} (h : k_settle p1 X S = .inr E) : E = "java/lang/IndexOutOfBoundsException" := by
  unfold k_settle at h
  repeat' split at h
  all_goals first | exact Sum.noConfusion h | (cases h <;> first | exact rfl | exact Or.inl rfl | exact Or.inr rfl | exact Or.inr (Or.inl rfl) | exact Or.inr (Or.inr rfl))
theorem so_settle {k : KC} {X : CX} {S : CT} {M : MS} {p1 : Int32} (h : IN X S M) {o : Out} {w : Wd} (hp : pOl k X S (k_settle p1 X S) o w) : CO k (xAd X 11 0) (f_settle p1 M).2 (fun o => o = .inl (some (.long (f_settle p1 M).1))) (fun E => E = "java/lang/IndexOutOfBoundsException") xcI o w := by
  obtain ⟨hX, hL, hR, hM⟩ := id h
  exact co_L h (eq_settle hX hL hR ) (mv_settle hM) (fun E he => kx_settle he) hp
theorem kc_settle {l : Launch} {k : KC} (hl : l.stackTraces = false) {X : CX} {S : CT} {M : MS} (h : IN X S M) {p1 : Int32} : MC l k yX10_settle (.code yX10_settle cX10_settle 5 (some .long)) rmt_X10_settle [(vr X 11 0), .int p1] (cW k X S) (pOl k X S (k_settle p1 X S)) := ck_settle hl h.1 
theorem rc_settle {l : Launch} {k : KC} {mo : Nat} {ad : Nat → Nat} (hl : l.stackTraces = false) (hH : HM mo ad) {M : MS} (hM : MV M) {p1 : Int32} : CM l k mo ad yX11_settle (.code yX11_settle cX11_settle 4 (some .long)) rm_X11_settle [.int p1] M (some (.long (f_settle p1 M).1)) (f_settle p1 M).2 := c_settle hl hH hM.le3
set_option maxRecDepth 100000 in
theorem kx_card {X : CX} {S : CT} {p1 p2 : Int32} {E : String} (h : k_card p1 p2 X S = .inr E) : E = "java/lang/IndexOutOfBoundsException" ∨ E = "java/lang/IllegalArgumentException" ∨ E = "java/lang/IllegalStateException" := by
  unfold k_card at h
  repeat' split at h
  all_goals first | exact Sum.noConfusion h | (cases h <;> first | exact rfl | exact Or.inl rfl | exact Or.inr rfl | exact Or.inr (Or.inl rfl) | exact Or.inr (Or.inr rfl))
theorem so_card {k : KC} {X : CX} {S : CT} {M : MS} {p1 p2 : Int32} (h : IN X S M) {o : Out} {w : Wd} (hp : pAi k X S (y_card X p1 p2) 27 0 (k_card p1 p2 X S) o w) : CO k (xAd X 11 0) (f_card p1 p2 M).2 (fun o => o = .inl (some (.int (f_card p1 p2 M).1))) (fun E => E = "java/lang/IndexOutOfBoundsException" ∨ E = "java/lang/IllegalArgumentException" ∨ E = "java/lang/IllegalStateException") xcIAS o w := by
  obtain ⟨hX, hL, hR, hM⟩ := id h
  exact co_A h (eq_card hX hL hR (hM.2.2.2.2.1.2.2 _ (Nat.le_of_eq (hR.c59 hL)))) (mv_card hM) (fun E he => kx_card he) rfl hp
theorem kc_card {l : Launch} {k : KC} (hl : l.stackTraces = false) {X : CX} {S : CT} {M : MS} (h : IN X S M) {p1 p2 : Int32} : MC l k yX10_card (.code yX10_card cX10_card 4 (some .int)) rma_card [(vr X 11 0), .int p1, .int p2] (cW k X S) (pAi k X S (y_card X p1 p2) 27 0 (k_card p1 p2 X S)) := ck_card hl h.1 h.2.1 h.ts
theorem rc_card {l : Launch} {k : KC} {mo : Nat} {ad : Nat → Nat} (hl : l.stackTraces = false) (hH : HM mo ad) {M : MS} (hM : MV M) {p1 p2 : Int32} : CM l k mo ad yX11_card (.code yX11_card cX11_card 3 (some .int)) rm_X11_card [.int p1, .int p2] M (some (.int (f_card p1 p2 M).1)) (f_card p1 p2 M).2 := c_card hl hH hM.le3 hM.le59
set_option maxRecDepth 100000 in
theorem kx_tell {X : CX} {S : CT} {p1 p2 p3 : Int32} {E : String} (h : k_tell p1 p2 p3 X S = .inr E) : E = "java/lang/IndexOutOfBoundsException" ∨ E = "java/lang/IllegalArgumentException" ∨ E = "java/lang/IllegalStateException" := by
  unfold k_tell at h
  repeat' split at h
  all_goals first | exact Sum.noConfusion h | (cases h <;> first | exact rfl | exact Or.inl rfl | exact Or.inr rfl | exact Or.inr (Or.inl rfl) | exact Or.inr (Or.inr rfl))
theorem so_tell {k : KC} {X : CX} {S : CT} {M : MS} {p1 p2 p3 : Int32} (h : IN X S M) {o : Out} {w : Wd} (hp : pOl k X S (k_tell p1 p2 p3 X S) o w) : CO k (xAd X 11 0) (f_tell p1 p2 p3 M).2 (fun o => o = .inl (some (.long (f_tell p1 p2 p3 M).1))) (fun E => E = "java/lang/IndexOutOfBoundsException" ∨ E = "java/lang/IllegalArgumentException" ∨ E = "java/lang/IllegalStateException") xcIAS o w := by
  obtain ⟨hX, hL, hR, hM⟩ := id h
  exact co_L h (eq_tell hX hL hR hM.yr hM.he) (mv_tell hM) (fun E he => kx_tell he) hp
theorem kc_tell {l : Launch} {k : KC} (hl : l.stackTraces = false) {X : CX} {S : CT} {M : MS} (h : IN X S M) {p1 p2 p3 : Int32} : MC l k yX10_tell (.code yX10_tell cX10_tell 7 (some .long)) rmt_X10_tell [(vr X 11 0), .int p1, .int p2, .int p3] (cW k X S) (pOl k X S (k_tell p1 p2 p3 X S)) := ck_tell hl h.1 h.lc
theorem rc_tell {l : Launch} {k : KC} {mo : Nat} {ad : Nat → Nat} (hl : l.stackTraces = false) (hH : HM mo ad) {M : MS} (hM : MV M) {p1 p2 p3 : Int32} : CM l k mo ad yX11_tell (.code yX11_tell cX11_tell 8 (some .long)) rm_X11_tell [.int p1, .int p2, .int p3] M (some (.long (f_tell p1 p2 p3 M).1)) (f_tell p1 p2 p3 M).2 := c_tell hl hH hM.le59 (fun e he => hM.in12 (hM.he e he).1) hM.yr
set_option maxRecDepth 100000 in
theorem kx_sample {X : CX} {S : CT} {p1 p2 : Int32} {E : String} (h : k_sample p1 p2 X S = .inr E) : E = "java/lang/IllegalArgumentException" := by
  unfold k_sample at h
  repeat' split at h
  all_goals first | exact Sum.noConfusion h | (cases h <;> first | exact rfl | exact Or.inl rfl | exact Or.inr rfl | exact Or.inr (Or.inl rfl) | exact Or.inr (Or.inr rfl))
theorem so_sample {k : KC} {X : CX} {S : CT} {M : MS} {p1 p2 : Int32} (h : IN X S M) {o : Out} {w : Wd} (hp : pOv k X S (k_sample p1 p2 X S) o w) : CO k (xAd X 11 0) (f_sample p1 p2 M) (fun o => o = .inl none) (fun E => E = "java/lang/IllegalArgumentException") xcA o w := by
  obtain ⟨hX, hL, hR, hM⟩ := id h
  exact co_V h (eq_sample hX hL hR ) (mv_sample hM) (fun E he => kx_sample he) hp
theorem kc_sample {l : Launch} {k : KC} (hl : l.stackTraces = false) {X : CX} {S : CT} {M : MS} (h : IN X S M) {p1 p2 : Int32} : MC l k yX10_sample (.code yX10_sample cX10_sample 3 none) rmt_X10_sample [(vr X 11 0), .int p1, .int p2] (cW k X S) (pOv k X S (k_sample p1 p2 X S)) := ck_sample hl h.1 
theorem rc_sample {l : Launch} {k : KC} {mo : Nat} {ad : Nat → Nat} (hl : l.stackTraces = false) (hH : HM mo ad) {M : MS} (hM : MV M) {p1 p2 : Int32} : CM l k mo ad yX11_sample (.code yX11_sample cX11_sample 3 none) rm_X11_sample [.int p1, .int p2] M none (f_sample p1 p2 M) := c_sample hl hH 
set_option maxRecDepth 100000 in
theorem kx_centre {X : CX} {S : CT} {p1 p2 p3 : Int32} {E : String} (h : k_centre p1 p2 p3 X S = .inr E) : E = "java/lang/IndexOutOfBoundsException" ∨ E = "java/lang/IllegalArgumentException" := by
  unfold k_centre at h
  repeat' split at h
  all_goals first | exact Sum.noConfusion h | (cases h <;> first | exact rfl | exact Or.inl rfl | exact Or.inr rfl | exact Or.inr (Or.inl rfl) | exact Or.inr (Or.inr rfl))
theorem so_centre {k : KC} {X : CX} {S : CT} {M : MS} {p1 p2 p3 : Int32} (h : IN X S M) {o : Out} {w : Wd} (hp : pOl k X S (k_centre p1 p2 p3 X S) o w) : CO k (xAd X 11 0) (f_centre p1 p2 p3 M).2 (fun o => o = .inl (some (.long (f_centre p1 p2 p3 M).1))) (fun E => E = "java/lang/IndexOutOfBoundsException" ∨ E = "java/lang/IllegalArgumentException") xcIA o w := by
  obtain ⟨hX, hL, hR, hM⟩ := id h
  exact co_L h (eq_centre hX hL hR ) (mv_centre hM) (fun E he => kx_centre he) hp
theorem kc_centre {l : Launch} {k : KC} (hl : l.stackTraces = false) {X : CX} {S : CT} {M : MS} (h : IN X S M) {p1 p2 p3 : Int32} : MC l k yX10_centre (.code yX10_centre cX10_centre 5 (some .long)) rmt_X10_centre [(vr X 11 0), .int p1, .int p2, .int p3] (cW k X S) (pOl k X S (k_centre p1 p2 p3 X S)) := ck_centre hl h.1 
theorem rc_centre {l : Launch} {k : KC} {mo : Nat} {ad : Nat → Nat} (hl : l.stackTraces = false) (hH : HM mo ad) {M : MS} (hM : MV M) {p1 p2 p3 : Int32} : CM l k mo ad yX11_centre (.code yX11_centre cX11_centre 4 (some .long)) rm_X11_centre [.int p1, .int p2, .int p3] M (some (.long (f_centre p1 p2 p3 M).1)) (f_centre p1 p2 p3 M).2 := c_centre hl hH 
set_option maxRecDepth 100000 in
theorem kx_requestOf {X : CX} {S : CT} {p1 p2 : Int32} {E : String} (h : k_requestOf p1 p2 X S = .inr E) : E = "java/lang/IndexOutOfBoundsException" ∨ E = "java/lang/IllegalArgumentException" := by
  unfold k_requestOf at h
  repeat' split at h
  all_goals first | exact Sum.noConfusion h | (cases h <;> first | exact rfl | exact Or.inl rfl | exact Or.inr rfl | exact Or.inr (Or.inl rfl) | exact Or.inr (Or.inr rfl))
theorem so_requestOf {k : KC} {X : CX} {S : CT} {M : MS} {p1 p2 : Int32} (h : IN X S M) {o : Out} {w : Wd} (hp : pOl k X S (k_requestOf p1 p2 X S) o w) : CO k (xAd X 11 0) (f_requestOf p1 p2 M).2 (fun o => o = .inl (some (.long (f_requestOf p1 p2 M).1))) (fun E => E = "java/lang/IndexOutOfBoundsException" ∨ E = "java/lang/IllegalArgumentException") xcIA o w := by
  obtain ⟨hX, hL, hR, hM⟩ := id h
  exact co_L h (eq_requestOf hX hL hR hM.qk hM.d0 hM.u hM.s21) (mv_requestOf hM) (fun E he => kx_requestOf he) hp
theorem kc_requestOf {l : Launch} {k : KC} (hl : l.stackTraces = false) {X : CX} {S : CT} {M : MS} (h : IN X S M) {p1 p2 : Int32} : MC l k yX10_requestOf (.code yX10_requestOf cX10_requestOf 4 (some .long)) rmt_X10_requestOf [(vr X 11 0), .int p1, .int p2] (cW k X S) (pOl k X S (k_requestOf p1 p2 X S)) := ck_requestOf hl h.1 h.bs h.ts
theorem rc_requestOf {l : Launch} {k : KC} {mo : Nat} {ad : Nat → Nat} (hl : l.stackTraces = false) (hH : HM mo ad) {M : MS} (hM : MV M) {p1 p2 : Int32} : CM l k mo ad yX11_requestOf (.code yX11_requestOf cX11_requestOf 3 (some .long)) rm_X11_requestOf [.int p1, .int p2] M (some (.long (f_requestOf p1 p2 M).1)) (f_requestOf p1 p2 M).2 := c_requestOf hl hH hM.rq
set_option maxRecDepth 100000 in
theorem kx_next {X : CX} {S : CT} {p1 : Int32} {E : String} (h : k_next p1 X S = .inr E) : E = "java/lang/IndexOutOfBoundsException" := by
  unfold k_next at h
  repeat' split at h
  all_goals first | exact Sum.noConfusion h | (cases h <;> first | exact rfl | exact Or.inl rfl | exact Or.inr rfl | exact Or.inr (Or.inl rfl) | exact Or.inr (Or.inr rfl))
theorem so_next {k : KC} {X : CX} {S : CT} {M : MS} {p1 : Int32} (h : IN X S M) {o : Out} {w : Wd} (hp : pOi k X S (k_next p1 X S) o w) : CO k (xAd X 11 0) (f_next p1 M).2 (fun o => o = .inl (some (.int (f_next p1 M).1))) (fun E => E = "java/lang/IndexOutOfBoundsException") xcI o w := by
  obtain ⟨hX, hL, hR, hM⟩ := id h
  exact co_I h (eq_next hX hL hR hM.qk hM.d0 hM.u) (mv_next hM) (fun E he => kx_next he) hp
theorem kc_next {l : Launch} {k : KC} (hl : l.stackTraces = false) {X : CX} {S : CT} {M : MS} (h : IN X S M) {p1 : Int32} : MC l k yX10_next (.code yX10_next cX10_next 4 (some .int)) rmt_X10_next [(vr X 11 0), .int p1] (cW k X S) (pOi k X S (k_next p1 X S)) := ck_next hl h.1 h.ts
theorem rc_next {l : Launch} {k : KC} {mo : Nat} {ad : Nat → Nat} (hl : l.stackTraces = false) (hH : HM mo ad) {M : MS} (hM : MV M) {p1 : Int32} : CM l k mo ad yX11_next (.code yX11_next cX11_next 3 (some .int)) rm_X11_next [.int p1] M (some (.int (f_next p1 M).1)) (f_next p1 M).2 := c_next hl hH hM.rq
set_option maxRecDepth 100000 in
theorem kx_lineOf {X : CX} {S : CT} {p1 p2 p3 : Int32} {E : String} (h : k_lineOf p1 p2 p3 X S = .inr E) : E = "java/lang/IndexOutOfBoundsException" ∨ E = "java/lang/IllegalArgumentException" := by
  unfold k_lineOf at h
  repeat' split at h
  all_goals first | exact Sum.noConfusion h | (cases h <;> first | exact rfl | exact Or.inl rfl | exact Or.inr rfl | exact Or.inr (Or.inl rfl) | exact Or.inr (Or.inr rfl))
theorem so_lineOf {k : KC} {X : CX} {S : CT} {M : MS} {p1 p2 p3 : Int32} (h : IN X S M) {o : Out} {w : Wd} (hp : pOi k X S (k_lineOf p1 p2 p3 X S) o w) : CO k (xAd X 11 0) (f_lineOf p1 p2 p3 M).2 (fun o => o = .inl (some (.int (f_lineOf p1 p2 p3 M).1))) (fun E => E = "java/lang/IndexOutOfBoundsException" ∨ E = "java/lang/IllegalArgumentException") xcIA o w := by
  obtain ⟨hX, hL, hR, hM⟩ := id h
  exact co_I h (eq_lineOf hX hL hR ) (mv_lineOf hM) (fun E he => kx_lineOf he) hp
theorem kc_lineOf {l : Launch} {k : KC} (hl : l.stackTraces = false) {X : CX} {S : CT} {M : MS} (h : IN X S M) {p1 p2 p3 : Int32} : MC l k yX10_lineOf (.code yX10_lineOf cX10_lineOf 5 (some .int)) rmt_X10_lineOf [(vr X 11 0), .int p1, .int p2, .int p3] (cW k X S) (pOi k X S (k_lineOf p1 p2 p3 X S)) := ck_lineOf hl h.1 
theorem rc_lineOf {l : Launch} {k : KC} {mo : Nat} {ad : Nat → Nat} (hl : l.stackTraces = false) (hH : HM mo ad) {M : MS} (hM : MV M) {p1 p2 p3 : Int32} : CM l k mo ad yX11_lineOf (.code yX11_lineOf cX11_lineOf 5 (some .int)) rm_X11_lineOf [.int p1, .int p2, .int p3] M (some (.int (f_lineOf p1 p2 p3 M).1)) (f_lineOf p1 p2 p3 M).2 := c_lineOf hl hH hM.rq hM.le39
set_option maxRecDepth 100000 in
theorem kx_invoiceOf {X : CX} {S : CT} {p1 p2 : Int32} {E : String} (h : k_invoiceOf p1 p2 X S = .inr E) : E = "java/lang/IndexOutOfBoundsException" ∨ E = "java/lang/IllegalArgumentException" := by
  unfold k_invoiceOf at h
  repeat' split at h
  all_goals first | exact Sum.noConfusion h | (cases h <;> first | exact rfl | exact Or.inl rfl | exact Or.inr rfl | exact Or.inr (Or.inl rfl) | exact Or.inr (Or.inr rfl))
theorem so_invoiceOf {k : KC} {X : CX} {S : CT} {M : MS} {p1 p2 : Int32} (h : IN X S M) {o : Out} {w : Wd} (hp : pOl k X S (k_invoiceOf p1 p2 X S) o w) : CO k (xAd X 11 0) (f_invoiceOf p1 p2 M).2 (fun o => o = .inl (some (.long (f_invoiceOf p1 p2 M).1))) (fun E => E = "java/lang/IndexOutOfBoundsException" ∨ E = "java/lang/IllegalArgumentException") xcIA o w := by
  obtain ⟨hX, hL, hR, hM⟩ := id h
  exact co_L h (eq_invoiceOf hX hL hR (fun v hv => (hM.vv v hv).1) hM.h53) (mv_invoiceOf hM) (fun E he => kx_invoiceOf he) hp
theorem kc_invoiceOf {l : Launch} {k : KC} (hl : l.stackTraces = false) {X : CX} {S : CT} {M : MS} (h : IN X S M) {p1 p2 : Int32} : MC l k yX10_invoiceOf (.code yX10_invoiceOf cX10_invoiceOf 4 (some .long)) rmt_X10_invoiceOf [(vr X 11 0), .int p1, .int p2] (cW k X S) (pOl k X S (k_invoiceOf p1 p2 X S)) := ck_invoiceOf hl h.1 
theorem rc_invoiceOf {l : Launch} {k : KC} {mo : Nat} {ad : Nat → Nat} (hl : l.stackTraces = false) (hH : HM mo ad) {M : MS} (hM : MV M) {p1 p2 : Int32} : CM l k mo ad yX11_invoiceOf (.code yX11_invoiceOf cX11_invoiceOf 4 (some .long)) rm_X11_invoiceOf [.int p1, .int p2] M (some (.long (f_invoiceOf p1 p2 M).1)) (f_invoiceOf p1 p2 M).2 := c_invoiceOf hl hH hM.iv hM.le39
set_option maxRecDepth 100000 in
theorem kx_staff {X : CX} {S : CT} {p1 p2 : Int32} {E : String} (h : k_staff p1 p2 X S = .inr E) : E = "java/lang/IndexOutOfBoundsException" ∨ E = "java/lang/IllegalArgumentException" := by
  unfold k_staff at h
  repeat' split at h
  all_goals first | exact Sum.noConfusion h | (cases h <;> first | exact rfl | exact Or.inl rfl | exact Or.inr rfl | exact Or.inr (Or.inl rfl) | exact Or.inr (Or.inr rfl))
theorem so_staff {k : KC} {X : CX} {S : CT} {M : MS} {p1 p2 : Int32} (h : IN X S M) {o : Out} {w : Wd} (hp : pOl k X S (k_staff p1 p2 X S) o w) : CO k (xAd X 11 0) (f_staff p1 p2 M).2 (fun o => o = .inl (some (.long (f_staff p1 p2 M).1))) (fun E => E = "java/lang/IndexOutOfBoundsException" ∨ E = "java/lang/IllegalArgumentException") xcIA o w := by
  obtain ⟨hX, hL, hR, hM⟩ := id h
  exact co_L h (eq_staff hX hL hR ) (mv_staff hM) (fun E he => kx_staff he) hp
theorem kc_staff {l : Launch} {k : KC} (hl : l.stackTraces = false) {X : CX} {S : CT} {M : MS} (h : IN X S M) {p1 p2 : Int32} : MC l k yX10_staff (.code yX10_staff cX10_staff 4 (some .long)) rmt_X10_staff [(vr X 11 0), .int p1, .int p2] (cW k X S) (pOl k X S (k_staff p1 p2 X S)) := ck_staff hl h.1 
theorem rc_staff {l : Launch} {k : KC} {mo : Nat} {ad : Nat → Nat} (hl : l.stackTraces = false) (hH : HM mo ad) {M : MS} (hM : MV M) {p1 p2 : Int32} : CM l k mo ad yX11_staff (.code yX11_staff cX11_staff 3 (some .long)) rm_X11_staff [.int p1, .int p2] M (some (.long (f_staff p1 p2 M).1)) (f_staff p1 p2 M).2 := c_staff hl hH hM.le3
set_option maxRecDepth 100000 in
theorem kx_tripCost {X : CX} {S : CT} {p1 : Int32} {E : String} (h : k_tripCost p1 X S = .inr E) : E = "java/lang/IndexOutOfBoundsException" := by
  unfold k_tripCost at h
  repeat' split at h
  all_goals first | exact Sum.noConfusion h | (cases h <;> first | exact rfl | exact Or.inl rfl | exact Or.inr rfl | exact Or.inr (Or.inl rfl) | exact Or.inr (Or.inr rfl))
theorem so_tripCost {k : KC} {X : CX} {S : CT} {M : MS} {p1 : Int32} (h : IN X S M) {o : Out} {w : Wd} (hp : pOl k X S (k_tripCost p1 X S) o w) : CO k (xAd X 11 0) (f_tripCost p1 M).2 (fun o => o = .inl (some (.long (f_tripCost p1 M).1))) (fun E => E = "java/lang/IndexOutOfBoundsException") xcI o w := by
  obtain ⟨hX, hL, hR, hM⟩ := id h
  exact co_L h (eq_tripCost hX hL hR ) (mv_tripCost hM) (fun E he => kx_tripCost he) hp
theorem kc_tripCost {l : Launch} {k : KC} (hl : l.stackTraces = false) {X : CX} {S : CT} {M : MS} (h : IN X S M) {p1 : Int32} : MC l k yX10_tripCost (.code yX10_tripCost cX10_tripCost 2 (some .long)) rmt_X10_tripCost [(vr X 11 0), .int p1] (cW k X S) (pOl k X S (k_tripCost p1 X S)) := ck_tripCost hl h.1 
theorem rc_tripCost {l : Launch} {k : KC} {mo : Nat} {ad : Nat → Nat} (hl : l.stackTraces = false) (hH : HM mo ad) {M : MS} (hM : MV M) {p1 : Int32} : CM l k mo ad yX11_tripCost (.code yX11_tripCost cX11_tripCost 2 (some .long)) rm_X11_tripCost [.int p1] M (some (.long (f_tripCost p1 M).1)) (f_tripCost p1 M).2 := c_tripCost hl hH hM.le57
set_option maxRecDepth 100000 in
theorem kx_isTold {X : CX} {S : CT} {p1 : Int32} {E : String} (h : k_isTold p1 X S = .inr E) : E = "java/lang/IndexOutOfBoundsException" := by
  unfold k_isTold at h
  repeat' split at h
  all_goals first | exact Sum.noConfusion h | (cases h <;> first | exact rfl | exact Or.inl rfl | exact Or.inr rfl | exact Or.inr (Or.inl rfl) | exact Or.inr (Or.inr rfl))
theorem so_isTold {k : KC} {X : CX} {S : CT} {M : MS} {p1 : Int32} (h : IN X S M) {o : Out} {w : Wd} (hp : pOi k X S (k_isTold p1 X S) o w) : CO k (xAd X 11 0) (f_isTold p1 M).2 (fun o => o = .inl (some (.int (f_isTold p1 M).1))) (fun E => E = "java/lang/IndexOutOfBoundsException") xcI o w := by
  obtain ⟨hX, hL, hR, hM⟩ := id h
  exact co_I h (eq_isTold hX hL hR (fun x hx => hM.h62 x hx)) (mv_isTold hM) (fun E he => kx_isTold he) hp
theorem kc_isTold {l : Launch} {k : KC} (hl : l.stackTraces = false) {X : CX} {S : CT} {M : MS} (h : IN X S M) {p1 : Int32} : MC l k yX10_isTold (.code yX10_isTold cX10_isTold 2 (some .boolean)) rmt_X10_isTold [(vr X 11 0), .int p1] (cW k X S) (pOi k X S (k_isTold p1 X S)) := ck_isTold hl h.1 (fun c => h.s66 ((h.2.2.1.n59 h.2.1).mp c))
theorem rc_isTold {l : Launch} {k : KC} {mo : Nat} {ad : Nat → Nat} (hl : l.stackTraces = false) (hH : HM mo ad) {M : MS} (hM : MV M) {p1 : Int32} : CM l k mo ad yX11_isTold (.code yX11_isTold cX11_isTold 2 (some .boolean)) rm_X11_isTold [.int p1] M (some (.int (f_isTold p1 M).1)) (f_isTold p1 M).2 := c_isTold hl hH hM.le59
set_option maxRecDepth 100000 in
theorem kx_account {X : CX} {S : CT} {p1 : Int32} {E : String} (h : k_account p1 X S = .inr E) : E = "java/lang/IndexOutOfBoundsException" := by
  unfold k_account at h
  repeat' split at h
  all_goals first | exact Sum.noConfusion h | (cases h <;> first | exact rfl | exact Or.inl rfl | exact Or.inr rfl | exact Or.inr (Or.inl rfl) | exact Or.inr (Or.inr rfl))
theorem so_account {k : KC} {X : CX} {S : CT} {M : MS} {p1 : Int32} (h : IN X S M) {o : Out} {w : Wd} (hp : pOl k X S (k_account p1 X S) o w) : CO k (xAd X 11 0) (f_account p1 M).2 (fun o => o = .inl (some (.long (f_account p1 M).1))) (fun E => E = "java/lang/IndexOutOfBoundsException") xcI o w := by
  obtain ⟨hX, hL, hR, hM⟩ := id h
  exact co_L h (eq_account hX hL hR ) (mv_account hM) (fun E he => kx_account he) hp
theorem kc_account {l : Launch} {k : KC} (hl : l.stackTraces = false) {X : CX} {S : CT} {M : MS} (h : IN X S M) {p1 : Int32} : MC l k yX10_account (.code yX10_account cX10_account 2 (some .long)) rmt_X10_account [(vr X 11 0), .int p1] (cW k X S) (pOl k X S (k_account p1 X S)) := ck_account hl h.1 
theorem rc_account {l : Launch} {k : KC} {mo : Nat} {ad : Nat → Nat} (hl : l.stackTraces = false) (hH : HM mo ad) {M : MS} (hM : MV M) {p1 : Int32} : CM l k mo ad yX11_account (.code yX11_account cX11_account 2 (some .long)) rm_X11_account [.int p1] M (some (.long (f_account p1 M).1)) (f_account p1 M).2 := c_account hl hH 
set_option maxRecDepth 100000 in
theorem kx_isSampled {X : CX} {S : CT} {p1 p2 : Int32} {E : String} (h : k_isSampled p1 p2 X S = .inr E) : E = "java/lang/IllegalArgumentException" ∨ E = "java/lang/IndexOutOfBoundsException" := by
  unfold k_isSampled at h
  repeat' split at h
  all_goals first | exact Sum.noConfusion h | (cases h <;> first | exact rfl | exact Or.inl rfl | exact Or.inr rfl | exact Or.inr (Or.inl rfl) | exact Or.inr (Or.inr rfl))
theorem so_isSampled {k : KC} {X : CX} {S : CT} {M : MS} {p1 p2 : Int32} (h : IN X S M) {o : Out} {w : Wd} (hp : pOi k X S (k_isSampled p1 p2 X S) o w) : CO k (xAd X 11 0) (f_isSampled p1 p2 M).2 (fun o => o = .inl (some (.int (f_isSampled p1 p2 M).1))) (fun E => E = "java/lang/IllegalArgumentException" ∨ E = "java/lang/IndexOutOfBoundsException") xcAI o w := by
  obtain ⟨hX, hL, hR, hM⟩ := id h
  exact co_I h (eq_isSampled hX hL hR ) (mv_isSampled hM) (fun E he => kx_isSampled he) hp
theorem kc_isSampled {l : Launch} {k : KC} (hl : l.stackTraces = false) {X : CX} {S : CT} {M : MS} (h : IN X S M) {p1 p2 : Int32} : MC l k yX10_isSampled (.code yX10_isSampled cX10_isSampled 4 (some .boolean)) rmt_X10_isSampled [(vr X 11 0), .int p1, .int p2] (cW k X S) (pOi k X S (k_isSampled p1 p2 X S)) := ck_isSampled hl h.1 
theorem rc_isSampled {l : Launch} {k : KC} {mo : Nat} {ad : Nat → Nat} (hl : l.stackTraces = false) (hH : HM mo ad) {M : MS} (hM : MV M) {p1 p2 : Int32} : CM l k mo ad yX11_isSampled (.code yX11_isSampled cX11_isSampled 5 (some .boolean)) rm_X11_isSampled [.int p1, .int p2] M (some (.int (f_isSampled p1 p2 M).1)) (f_isSampled p1 p2 M).2 := c_isSampled hl hH 
