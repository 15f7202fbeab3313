abbrev rm_0 : Room := { frames := 0, cells := 0, slots := 0, locals := 0 }
abbrev rm_ix : Room := { frames := 1, cells := 0, slots := 0, locals := 22 }
abbrev rm_get : Room := { frames := 2, cells := 0, slots := 0, locals := 43 }
theorem dJx4a65c_size_8abf5_0 : decode cJx4a65c_size_8abf5 0 = .ok (.aload_n 0, 1) := by decide +kernel
theorem dJx4a65c_size_8abf5_1 : decode cJx4a65c_size_8abf5 1 = .ok (.getfield 48, 3) := by decide +kernel
theorem dJx4a65c_size_8abf5_4 : decode cJx4a65c_size_8abf5 4 = .ok (.ireturn, 1) := by decide +kernel
theorem c_al_size {l : Launch} {k : KC} (hl : l.stackTraces = false) {h : Wd} {b : Nat} {mc sz : Int32} {ar : Nat} (hb : b ∈ h.1) (hf : h.2 b = .inr (0, [.int mc, .ref ar, .int sz])) : MC l k yJx4a65c_size_8abf5 (.code yJx4a65c_size_8abf5 cJx4a65c_size_8abf5 1 (some .int)) rm_0 [.ref b] h (pR (some (.int sz)) h) := by
  refine MC.of 0 hl (by decide) (Nat.le_of_ble_eq_true rfl) ?_
  intro p e s m args below meth c A Q G B _ _
  show Wx p l e rm_0 s m args below meth c k A 1 Q 0 0 0 [some (.ref b)] [] h
  refine x_aload0 (pc := 0) G dJx4a65c_size_8abf5_0 ?_
  refine x_getf (pc := 1) (j := 2) G hb hf (ci := 0) (fs := [.int mc, .ref ar, .int sz]) (C := RJx4a65c) (T := TJx4a65c) (N := 3) rfl i_Jx4a65c (by decide) q_fl_Jx4a65c_48 (fun _ h => h) rfl dJx4a65c_size_8abf5_1 ?_
  exact x_iret G B rfl dJx4a65c_size_8abf5_4 ⟨rfl, rfl⟩
theorem dJx4a65c_isEmpty_aae02_0 : decode cJx4a65c_isEmpty_aae02 0 = .ok (.aload_n 0, 1) := by decide +kernel
theorem dJx4a65c_isEmpty_aae02_1 : decode cJx4a65c_isEmpty_aae02 1 = .ok (.getfield 48, 3) := by decide +kernel
theorem dJx4a65c_isEmpty_aae02_4 : decode cJx4a65c_isEmpty_aae02 4 = .ok (.ifCond .ne 7, 3) := by decide +kernel
theorem dJx4a65c_isEmpty_aae02_7 : decode cJx4a65c_isEmpty_aae02 7 = .ok (.iconst 1, 1) := by decide +kernel
theorem dJx4a65c_isEmpty_aae02_8 : decode cJx4a65c_isEmpty_aae02 8 = .ok (.goto 4, 3) := by decide +kernel
theorem dJx4a65c_isEmpty_aae02_11 : decode cJx4a65c_isEmpty_aae02 11 = .ok (.iconst 0, 1) := by decide +kernel
theorem dJx4a65c_isEmpty_aae02_12 : decode cJx4a65c_isEmpty_aae02 12 = .ok (.ireturn, 1) := by decide +kernel
theorem c_al_isEmpty {l : Launch} {k : KC} (hl : l.stackTraces = false) {h : Wd} {b : Nat} {mc sz : Int32} {ar : Nat} (hb : b ∈ h.1) (hf : h.2 b = .inr (0, [.int mc, .ref ar, .int sz])) : MC l k yJx4a65c_isEmpty_aae02 (.code yJx4a65c_isEmpty_aae02 cJx4a65c_isEmpty_aae02 1 (some .boolean)) rm_0 [.ref b] h (pR (some (.int (if sz = 0 then 1 else 0))) h) := by
  refine MC.of 0 hl (by decide) (Nat.le_of_ble_eq_true rfl) ?_
  intro p e s m args below meth c A Q G B _ _
  show Wx p l e rm_0 s m args below meth c k A 1 Q 0 0 0 [some (.ref b)] [] h
  refine x_aload0 (pc := 0) G dJx4a65c_isEmpty_aae02_0 ?_
  refine x_getf (pc := 1) (j := 2) G hb hf (ci := 0) (fs := [.int mc, .ref ar, .int sz]) (C := RJx4a65c) (T := TJx4a65c) (N := 3) rfl i_Jx4a65c (by decide) q_fl_Jx4a65c_48 (fun _ h => h) rfl dJx4a65c_isEmpty_aae02_1 ?_
  refine x_if_ne (pc := 4) (y := 0) (tgt := 11) G dJx4a65c_isEmpty_aae02_4 rfl (fun c1 => ?_) (fun c1 => ?_)
  · refine x_iconst (pc := 11) (v := 0) G dJx4a65c_isEmpty_aae02_11 ic_0 ?_
    exact x_zret G B rfl (by decide) dJx4a65c_isEmpty_aae02_12 ⟨by rw [if_neg c1], rfl⟩
  refine x_iconst (pc := 7) (v := 1) G dJx4a65c_isEmpty_aae02_7 ic_1 ?_
  refine x_goto (pc := 8) (tgt := 12) G dJx4a65c_isEmpty_aae02_8 rfl ?_
  exact x_zret G B rfl (by decide) dJx4a65c_isEmpty_aae02_12 ⟨by rw [if_pos c1], rfl⟩
theorem dJx4a65c_elementData_915e3_0 : decode cJx4a65c_elementData_915e3 0 = .ok (.aload_n 0, 1) := by decide +kernel
theorem dJx4a65c_elementData_915e3_1 : decode cJx4a65c_elementData_915e3 1 = .ok (.getfield 9, 3) := by decide +kernel
theorem dJx4a65c_elementData_915e3_4 : decode cJx4a65c_elementData_915e3 4 = .ok (.iload_n 1, 1) := by decide +kernel
theorem dJx4a65c_elementData_915e3_5 : decode cJx4a65c_elementData_915e3 5 = .ok (.aaload, 1) := by decide +kernel
theorem dJx4a65c_elementData_915e3_6 : decode cJx4a65c_elementData_915e3 6 = .ok (.areturn, 1) := by decide +kernel
theorem va_rf_r {o : Option Nat} : va_rf o = .null ∨ ∃ a, va_rf o = .ref a := by cases o; exact Or.inl rfl; exact Or.inr ⟨_, rfl⟩
theorem c_al_elem {l : Launch} {k : KC} (hl : l.stackTraces = false) {h : Wd} {b : Nat} {mc sz : Int32} {ar : Nat} (hb : b ∈ h.1) (hf : h.2 b = .inr (0, [.int mc, .ref ar, .int sz])) {n : Nat} {f : Nat → Option Nat} (ha : ar ∈ h.1) (hfa : h.2 ar = .inl (k.2.2.2.2.1, n, .inr (.inr (.inr (.inr f))))) {i : Int32} (hi : vp_in i n) : MC l k yJx4a65c_elementData_915e3 (.code yJx4a65c_elementData_915e3 cJx4a65c_elementData_915e3 2 (some (.object "java/lang/Object"))) rm_0 [.ref b, .int i] h (pR (some (va_rf (f i.toNatClampNeg))) h) := by
  refine MC.of 0 hl (by decide) (Nat.le_of_ble_eq_true rfl) ?_
  intro p e s m args below meth c A Q G B _ _
  show Wx p l e rm_0 s m args below meth c k A 2 Q 0 0 0 [some (.ref b), some (.int i)] [] h
  refine x_aload0 (pc := 0) G dJx4a65c_elementData_915e3_0 ?_
  refine x_getf (pc := 1) (j := 1) G hb hf (ci := 0) (fs := [.int mc, .ref ar, .int sz]) (C := RJx4a65c) (T := TJx4a65c) (N := 3) rfl i_Jx4a65c (by decide) q_fl_Jx4a65c_9 (fun _ h => h) rfl dJx4a65c_elementData_915e3_1 ?_
  refine x_iload1 (pc := 4) G dJx4a65c_elementData_915e3_4 ?_
  refine x_qald (pc := 5) G ha hfa hi dJx4a65c_elementData_915e3_5 ?_
  exact x_aret G B rfl (Or.inl ⟨_, rfl⟩) va_rf_r dJx4a65c_elementData_915e3_6 ⟨rfl, rfl⟩
theorem dJ3_checkIndex_8e157_0 : decode cJ3_checkIndex_8e157 0 = .ok (.iload_n 0, 1) := by decide +kernel
theorem dJ3_checkIndex_8e157_1 : decode cJ3_checkIndex_8e157 1 = .ok (.ifCond .lt 8, 3) := by decide +kernel
theorem dJ3_checkIndex_8e157_4 : decode cJ3_checkIndex_8e157 4 = .ok (.iload_n 0, 1) := by decide +kernel
theorem dJ3_checkIndex_8e157_5 : decode cJ3_checkIndex_8e157 5 = .ok (.iload_n 1, 1) := by decide +kernel
theorem dJ3_checkIndex_8e157_6 : decode cJ3_checkIndex_8e157 6 = .ok (.if_icmp .lt 10, 3) := by decide +kernel
theorem dJ3_checkIndex_8e157_9 : decode cJ3_checkIndex_8e157 9 = .ok (.aload_n 2, 1) := by decide +kernel
theorem dJ3_checkIndex_8e157_10 : decode cJ3_checkIndex_8e157 10 = .ok (.iload_n 0, 1) := by decide +kernel
theorem dJ3_checkIndex_8e157_11 : decode cJ3_checkIndex_8e157 11 = .ok (.iload_n 1, 1) := by decide +kernel
theorem dJ3_checkIndex_8e157_12 : decode cJ3_checkIndex_8e157 12 = .ok (.invokestatic 95, 3) := by decide +kernel
theorem dJ3_checkIndex_8e157_15 : decode cJ3_checkIndex_8e157 15 = .ok (.athrow, 1) := by decide +kernel
theorem dJ3_checkIndex_8e157_16 : decode cJ3_checkIndex_8e157 16 = .ok (.iload_n 0, 1) := by decide +kernel
theorem dJ3_checkIndex_8e157_17 : decode cJ3_checkIndex_8e157 17 = .ok (.ireturn, 1) := by decide +kernel
theorem c_pre_ix {l : Launch} {k : KC} (hl : l.stackTraces = false) {h : Wd} {i n : Int32} (h1 : ¬ i < 0) (h2 : i < n) : MC l k yJ3_checkIndex_8e157 (.code yJ3_checkIndex_8e157 cJ3_checkIndex_8e157 3 (some .int)) rm_0 [.int i, .int n, .null] h (pR (some (.int i)) h) := by
  refine MC.of 0 hl (by decide) (Nat.le_of_ble_eq_true rfl) ?_
  intro p e s m args below meth c A Q G B _ _
  show Wx p l e rm_0 s m args below meth c k A 3 Q 0 0 0 [some (.int i), some (.int n), some .null] [] h
  refine x_iload0 (pc := 0) G dJ3_checkIndex_8e157_0 ?_
  refine x_if_lt (pc := 1) (y := 0) (tgt := 9) G dJ3_checkIndex_8e157_1 rfl (fun q => absurd q h1) (fun _ => ?_)
  refine x_iload0 (pc := 4) G dJ3_checkIndex_8e157_4 ?_
  refine x_iload1 (pc := 5) G dJ3_checkIndex_8e157_5 ?_
  refine x_icmp_lt (pc := 6) (tgt := 16) G dJ3_checkIndex_8e157_6 rfl (fun _ => ?_) (fun q => absurd h2 q)
  refine x_iload0 (pc := 16) G dJ3_checkIndex_8e157_16 ?_
  exact x_iret G B rfl dJ3_checkIndex_8e157_17 ⟨rfl, rfl⟩
theorem dJ15_checkIndex_7cf53_0 : decode cJ15_checkIndex_7cf53 0 = .ok (.iload_n 0, 1) := by decide +kernel
theorem dJ15_checkIndex_7cf53_1 : decode cJ15_checkIndex_7cf53 1 = .ok (.iload_n 1, 1) := by decide +kernel
theorem dJ15_checkIndex_7cf53_2 : decode cJ15_checkIndex_7cf53 2 = .ok (.aconst_null, 1) := by decide +kernel
theorem dJ15_checkIndex_7cf53_3 : decode cJ15_checkIndex_7cf53 3 = .ok (.invokestatic 105, 3) := by decide +kernel
theorem dJ15_checkIndex_7cf53_6 : decode cJ15_checkIndex_7cf53 6 = .ok (.ireturn, 1) := by decide +kernel
theorem c_obj_ix {l : Launch} {k : KC} (hl : l.stackTraces = false) {h : Wd} {i n : Int32} (h1 : ¬ i < 0) (h2 : i < n) : MC l k yJ15_checkIndex_7cf53 (.code yJ15_checkIndex_7cf53 cJ15_checkIndex_7cf53 2 (some .int)) rm_ix [.int i, .int n] h (pR (some (.int i)) h) := by
  refine MC.of 0 hl (by decide) (Nat.le_of_ble_eq_true rfl) ?_
  intro p e s m args below meth c A Q G B _ _
  show Wx p l e rm_ix s m args below meth c k A 2 Q 0 0 0 [some (.int i), some (.int n)] [] h
  refine x_iload0 (pc := 0) G dJ15_checkIndex_7cf53_0 ?_
  refine x_iload1 (pc := 1) G dJ15_checkIndex_7cf53_1 ?_
  refine x_null (pc := 2) G dJ15_checkIndex_7cf53_2 ?_
  refine x_cS3 (pc := 3) G (c_pre_ix hl h1 h2) q_ml_J15_105 h_J3_checkIndex_8e157 ⟨Nat.le_of_ble_eq_true rfl, Nat.le_of_ble_eq_true rfl⟩ (Nat.le_of_ble_eq_true rfl) (Nat.le_refl _) (Nat.le_refl _) dJ15_checkIndex_7cf53_3 ?_
  exact x_iret G B rfl dJ15_checkIndex_7cf53_6 ⟨rfl, rfl⟩
theorem dJx4a65c_get_915e3_0 : decode cJx4a65c_get_915e3 0 = .ok (.iload_n 1, 1) := by decide +kernel
theorem dJx4a65c_get_915e3_1 : decode cJx4a65c_get_915e3 1 = .ok (.aload_n 0, 1) := by decide +kernel
theorem dJx4a65c_get_915e3_2 : decode cJx4a65c_get_915e3 2 = .ok (.getfield 48, 3) := by decide +kernel
theorem dJx4a65c_get_915e3_5 : decode cJx4a65c_get_915e3 5 = .ok (.invokestatic 118, 3) := by decide +kernel
theorem dJx4a65c_get_915e3_8 : decode cJx4a65c_get_915e3 8 = .ok (.pop, 1) := by decide +kernel
theorem dJx4a65c_get_915e3_9 : decode cJx4a65c_get_915e3 9 = .ok (.aload_n 0, 1) := by decide +kernel
theorem dJx4a65c_get_915e3_10 : decode cJx4a65c_get_915e3 10 = .ok (.iload_n 1, 1) := by decide +kernel
theorem dJx4a65c_get_915e3_11 : decode cJx4a65c_get_915e3 11 = .ok (.invokevirtual 123, 3) := by decide +kernel
theorem dJx4a65c_get_915e3_14 : decode cJx4a65c_get_915e3 14 = .ok (.areturn, 1) := by decide +kernel
theorem c_al_get {l : Launch} {k : KC} (hl : l.stackTraces = false) {h : Wd} {b : Nat} {mc sz : Int32} {ar : Nat} (hb : b ∈ h.1) (hf : h.2 b = .inr (0, [.int mc, .ref ar, .int sz])) {n : Nat} {f : Nat → Option Nat} (ha : ar ∈ h.1) (hfa : h.2 ar = .inl (k.2.2.2.2.1, n, .inr (.inr (.inr (.inr f))))) {i : Int32} (hi : vp_in i n) (h1 : ¬ i < 0) (h2 : i < sz) : MC l k yJx4a65c_get_915e3 (.code yJx4a65c_get_915e3 cJx4a65c_get_915e3 2 (some (.object "java/lang/Object"))) rm_get [.ref b, .int i] h (pR (some (va_rf (f i.toNatClampNeg))) h) := by
  refine MC.of 0 hl (by decide) (Nat.le_of_ble_eq_true rfl) ?_
  intro p e s m args below meth c A Q G B _ _
  show Wx p l e rm_get s m args below meth c k A 2 Q 0 0 0 [some (.ref b), some (.int i)] [] h
  refine x_iload1 (pc := 0) G dJx4a65c_get_915e3_0 ?_
  refine x_aload0 (pc := 1) G dJx4a65c_get_915e3_1 ?_
  refine x_getf (pc := 2) (j := 2) G hb hf (ci := 0) (fs := [.int mc, .ref ar, .int sz]) (C := RJx4a65c) (T := TJx4a65c) (N := 3) rfl i_Jx4a65c (by decide) q_fl_Jx4a65c_48 (fun _ h => h) rfl dJx4a65c_get_915e3_2 ?_
  refine x_cS2 (pc := 5) G (c_obj_ix hl h1 h2) q_ml_Jx4a65c_118 h_J15_checkIndex_7cf53 ⟨Nat.le_of_ble_eq_true rfl, Nat.le_of_ble_eq_true rfl⟩ (Nat.le_of_ble_eq_true rfl) (Nat.le_refl _) (Nat.le_refl _) dJx4a65c_get_915e3_5 ?_
  refine x_pop (pc := 8) G dJx4a65c_get_915e3_8 rfl ?_
  refine x_aload0 (pc := 9) G dJx4a65c_get_915e3_9 ?_
  refine x_iload1 (pc := 10) G dJx4a65c_get_915e3_10 ?_
  refine x_cV1 (pc := 11) (ci := 0) (T := TJx4a65c) (N := 3) G (c_al_elem hl hb hf ha hfa hi) hb hf rfl q_ml_Jx4a65c_123 h_Jx4a65c_elementData_915e3 ⟨Nat.le_of_ble_eq_true rfl, Nat.le_of_ble_eq_true rfl⟩ (Nat.le_of_ble_eq_true rfl) (Nat.le_refl _) (Nat.le_refl _) dJx4a65c_get_915e3_11 ?_
  exact x_aret G B rfl (Or.inl ⟨_, rfl⟩) va_rf_r dJx4a65c_get_915e3_14 ⟨rfl, rfl⟩
/-- a list that lives, with its array -/
def LW (X : CX) (L n : Nat) : Prop := (20 ≤ L ∧ L < 30) ∧ lv X L n ∧ xSz X L n ≤ xCp X L n ∧ xCp X L n < 2 ^ 30 ∧ (xCp X L n ≠ 0 → lv X (L + 10) n)
abbrev P_num (x n : Int32) : Prop := 0 ≤ x ∧ x < n
theorem P_num_nI {x : Int32} {n : Nat} (h : P_num x (nI n)) (hn : n < 2 ^ 30) : ∃ j, j < n ∧ x = nI j := by
  obtain ⟨j, hj, e⟩ := nI_of2 (M := nI n) (n := n) (nI_toInt (by omega)) (Int32.not_lt.mpr h.1) (Int32.le_of_lt h.2)
  subst e
  exact ⟨j, (nI_ltI (by omega) (by omega)).mp h.2, rfl⟩
theorem LW.ob {k : KC} {X : CX} {S : CT} {L n : Nat} (hX : HX X) (h : LW X L n) : xAd X L n ∈ (cW k X S).1 ∧ (cW k X S).2 (xAd X L n) = .inr (0, [.int (xMc X L n), .ref (if xCp X L n = 0 then k.2.2.2.2.2.1 else xAd X (L + 10) n), .int (nI (xSz X L n))]) := by
  obtain ⟨⟨g1, g2⟩, g3, -⟩ := h
  have h9 := cW_in (k := k) (S := S) hX g3
  refine ⟨h9.1, ?_⟩
  rw [h9.2]
  unfold cE
  rw [if_neg (by omega), if_pos g2]
theorem LW.ar {k : KC} {X : CX} {S : CT} {L n : Nat} (hX : HX X) (h : LW X L n) (h0 : xCp X L n ≠ 0) : xAd X (L + 10) n ∈ (cW k X S).1 ∧ (cW k X S).2 (xAd X (L + 10) n) = .inl (k.2.2.2.2.1, xCp X L n, .inr (.inr (.inr (.inr (fun q => if q < xSz X L n then some (xAd X (eK L) (eI L n q)) else none))))) := by
  obtain ⟨⟨g1, g2⟩, -, -, -, g5⟩ := h
  have h9 := cW_in (k := k) (S := S) hX (g5 h0)
  refine ⟨h9.1, ?_⟩
  rw [h9.2]
  unfold cE
  rw [if_neg (by omega), if_neg (by omega), if_pos (by omega)]
  simp only [Nat.add_sub_cancel]
section CL
variable {p : Program} {l : Launch} {e : Env} {R : Room} {s : State} {m : MethodId} {args : Array Value} {below : List Frame} {meth : Method} {c : Code}
variable {k : KC} {A : Nat → Prop} {nL : Nat} {Q : State → Prop} {bc bs pc : Nat} {L : List (Option Value)} {st : List Value} {h h1 : Wd} {own : String} {cc : ByteArray} {ret : Option FieldType} {X : CX} {S : CT}
theorem z_size {Li idx : Nat} {x : Int32} (G : GX p l R s m args meth c k A own cc nL ret) (hX : HX X) (hL : LW X Li x.toNatClampNeg) (hlk : Cond.methodLink own idx yJx4a65c_size_8abf5 ∈ TB) (hR : rm_0.frames + 1 ≤ R.frames ∧ 8 + (1 + 11) + rm_0.locals ≤ R.locals) (hw8 : (st.map fun v => v.category).sum ≤ 8) (d : decode cc pc = .ok (.invokevirtual idx, 3)) (kk : Wx p l e R s m args below meth c k A nL Q bc bs (pc + 3) L (.int (nS X Li x) :: st) (cW k X S)) : Wx p l e R s m args below meth c k A nL Q bc bs pc L (aR X Li x :: st) (cW k X S) := by
  have h9 := hL.ob (k := k) (S := S) hX
  exact x_cV0 (ci := 0) (T := TJx4a65c) (N := 3) G (c_al_size G.2.2.2.2.2.2.2.2.2.1 h9.1 h9.2) h9.1 h9.2 rfl hlk h_Jx4a65c_size_8abf5 hR hw8 (Nat.le_refl _) (Nat.le_refl _) d kk
theorem z_isEmpty {Li idx : Nat} {x : Int32} (G : GX p l R s m args meth c k A own cc nL ret) (hX : HX X) (hL : LW X Li x.toNatClampNeg) (hlk : Cond.methodLink own idx yJx4a65c_isEmpty_aae02 ∈ TB) (hR : rm_0.frames + 1 ≤ R.frames ∧ 8 + (1 + 11) + rm_0.locals ≤ R.locals) (hw8 : (st.map fun v => v.category).sum ≤ 8) (d : decode cc pc = .ok (.invokevirtual idx, 3)) (kk : Wx p l e R s m args below meth c k A nL Q bc bs (pc + 3) L (.int (if nS X Li x = 0 then 1 else 0) :: st) (cW k X S)) : Wx p l e R s m args below meth c k A nL Q bc bs pc L (aR X Li x :: st) (cW k X S) := by
  have h9 := hL.ob (k := k) (S := S) hX
  exact x_cV0 (ci := 0) (T := TJx4a65c) (N := 3) G (c_al_isEmpty G.2.2.2.2.2.2.2.2.2.1 h9.1 h9.2) h9.1 h9.2 rfl hlk h_Jx4a65c_isEmpty_aae02 hR hw8 (Nat.le_refl _) (Nat.le_refl _) d kk
theorem z_get {Li idx kd : Nat} {x y z : Int32} (G : GX p l R s m args meth c k A own cc nL ret) (hX : HX X) (hL : LW X Li x.toNatClampNeg) (hp : P_num y (nS X Li x)) (hz : lI X kd z) (hk : eK Li = kd) (he : eI Li x.toNatClampNeg y.toNatClampNeg = z.toNatClampNeg) (hlk : Cond.methodLink own idx yJx4a65c_get_915e3 ∈ TB) (hR : rm_get.frames + 1 ≤ R.frames ∧ 8 + (2 + 11) + rm_get.locals ≤ R.locals) (hw8 : (st.map fun v => v.category).sum ≤ 8) (d : decode cc pc = .ok (.invokevirtual idx, 3)) (kk : Wx p l e R s m args below meth c k A nL Q bc bs (pc + 3) L (vr X kd z :: st) (cW k X S)) : Wx p l e R s m args below meth c k A nL Q bc bs pc L (.int y :: aR X Li x :: st) (cW k X S) := by
  have h9 := hL.ob (k := k) (S := S) hX
  obtain ⟨j, hj, e⟩ := P_num_nI hp (by have := hL.2.2.1; have := hL.2.2.2.1; omega)
  have hj2 := hL.2.2.1
  have h0 : xCp X Li x.toNatClampNeg ≠ 0 := by omega
  have h8 := hL.ar (k := k) (S := S) hX h0
  rw [if_neg h0] at h9
  have hjj : y.toNatClampNeg = j := by rw [e, nI_clamp (by have := hL.2.2.2.1; omega)]
  refine x_cV1 (ci := 0) (T := TJx4a65c) (N := 3) (r := vr X kd z) G ?_ h9.1 h9.2 rfl hlk h_Jx4a65c_get_915e3 hR hw8 (Nat.le_refl _) (Nat.le_refl _) d kk
  have h7 := c_al_get G.2.2.2.2.2.2.2.2.2.1 (i := y) h9.1 h9.2 h8.1 h8.2 (by rw [e]; exact vp_in_nI (by omega) (by have := hL.2.2.2.1; omega)) (Int32.not_lt.mpr hp.1) hp.2
  rw [hz.vr, ← he, ← hk]
  simp only [hjj, hj, if_true] at h7
  rw [hjj]
  exact h7
def eNames : List String := ["java/lang/RuntimeException", "java/lang/Exception"]
def at_ok (w : Cond) : Bool := (decide (w ∈ tables_1) && goodWord w) || xs_cast.any (fun q => decide (w = .castable q.1 q.2)) || xs_decl.any (fun x => decide (w = .declares x))
theorem at_of {w : Cond} (h : at_ok w = true) : w ∈ TB ∨ (∃ q ∈ xs_cast, w = .castable q.1 q.2) ∨ (∃ x ∈ xs_decl, w = .declares x) := by
  simp only [at_ok, Bool.or_eq_true, Bool.and_eq_true, decide_eq_true_eq, List.any_eq_true] at h
  rcases h with (⟨h1, h2⟩ | h) | h
  · exact Or.inl (List.mem_filter.mpr ⟨List.mem_append_right _ h1, h2⟩)
  · exact Or.inr (Or.inl h)
  · exact Or.inr (Or.inr h)
theorem at_IOOBE : ((vx_atS RX10 184 "java/lang/IndexOutOfBoundsException" eNames).all at_ok && (Cond.classLink RX10 180 "java/lang/IndexOutOfBoundsException" :: Cond.initialized "java/lang/IndexOutOfBoundsException" :: vx_atS RX10 184 "java/lang/IndexOutOfBoundsException" eNames).all vx_ot) = true := by decide +kernel
theorem at_IAE : ((vx_atS RX10 119 "java/lang/IllegalArgumentException" eNames).all at_ok && (Cond.classLink RX10 115 "java/lang/IllegalArgumentException" :: Cond.initialized "java/lang/IllegalArgumentException" :: vx_atS RX10 119 "java/lang/IllegalArgumentException" eNames).all vx_ot) = true := by decide +kernel
theorem at_ISE : ((vx_atS RX10 104 "java/lang/IllegalStateException" eNames).all at_ok && (Cond.classLink RX10 100 "java/lang/IllegalStateException" :: Cond.initialized "java/lang/IllegalStateException" :: vx_atS RX10 104 "java/lang/IllegalStateException" eNames).all vx_ot) = true := by decide +kernel
theorem z_IOOBE (G : GX p l R s m args meth c k A RX10 cc nL ret) {h0 : Wd} {post : Out → Wd → Prop} (B : RQ below args s R k A h0 post Q) (B2 : TQ below args s R k h0 post Q) (hout : ∀ x ∈ c.exceptionTable.toList, False) {is : Nat} {text : String} (hstr : (is, text) ∈ xs_str) (d0 : decode cc pc = .ok (.new 180, 3)) (d3 : decode cc (pc + 3) = .ok (.dup, 1)) (hldc : (decode cc (pc + 4) = .ok (.ldc is, 2) ∧ decode cc (pc + 6) = .ok (.invokespecial 184, 3) ∧ decode cc (pc + 9) = .ok (.athrow, 1)) ∨ (decode cc (pc + 4) = .ok (.ldc_w is, 3) ∧ decode cc (pc + 7) = .ok (.invokespecial 184, 3) ∧ decode cc (pc + 10) = .ok (.athrow, 1)))
    (hR : 6 ≤ R.frames ∧ 82 ≤ R.locals) (hb1 : 1 ≤ bc) (hb2 : 6 ≤ bs) (hp : post (.inr "java/lang/IndexOutOfBoundsException") h) : Wx p l e R s m args below meth c k A nL Q bc bs pc L [] h := by
  have h9 := at_IOOBE
  rw [Bool.and_eq_true, List.all_eq_true, List.all_eq_true] at h9
  exact x_throw (names := eNames) G B B2 hout rfl (by decide +kernel) (by decide +kernel) q_cl_X10_180 q_in_java_lang_IndexOutOfBoundsException hstr (fun w hw => at_of (h9.1 w hw)) h9.2 d0 d3 hldc (by show 5 < R.frames; omega) (by show 0 + 82 ≤ R.locals; omega) hb1 hb2 hp
theorem z_IAE (G : GX p l R s m args meth c k A RX10 cc nL ret) {h0 : Wd} {post : Out → Wd → Prop} (B : RQ below args s R k A h0 post Q) (B2 : TQ below args s R k h0 post Q) (hout : ∀ x ∈ c.exceptionTable.toList, False) {is : Nat} {text : String} (hstr : (is, text) ∈ xs_str) (d0 : decode cc pc = .ok (.new 115, 3)) (d3 : decode cc (pc + 3) = .ok (.dup, 1)) (hldc : (decode cc (pc + 4) = .ok (.ldc is, 2) ∧ decode cc (pc + 6) = .ok (.invokespecial 119, 3) ∧ decode cc (pc + 9) = .ok (.athrow, 1)) ∨ (decode cc (pc + 4) = .ok (.ldc_w is, 3) ∧ decode cc (pc + 7) = .ok (.invokespecial 119, 3) ∧ decode cc (pc + 10) = .ok (.athrow, 1)))
    (hR : 6 ≤ R.frames ∧ 82 ≤ R.locals) (hb1 : 1 ≤ bc) (hb2 : 6 ≤ bs) (hp : post (.inr "java/lang/IllegalArgumentException") h) : Wx p l e R s m args below meth c k A nL Q bc bs pc L [] h := by
  have h9 := at_IAE
  rw [Bool.and_eq_true, List.all_eq_true, List.all_eq_true] at h9
  exact x_throw (names := eNames) G B B2 hout rfl (by decide +kernel) (by decide +kernel) q_cl_X10_115 q_in_java_lang_IllegalArgumentException hstr (fun w hw => at_of (h9.1 w hw)) h9.2 d0 d3 hldc (by show 5 < R.frames; omega) (by show 0 + 82 ≤ R.locals; omega) hb1 hb2 hp
theorem z_ISE (G : GX p l R s m args meth c k A RX10 cc nL ret) {h0 : Wd} {post : Out → Wd → Prop} (B : RQ below args s R k A h0 post Q) (B2 : TQ below args s R k h0 post Q) (hout : ∀ x ∈ c.exceptionTable.toList, False) {is : Nat} {text : String} (hstr : (is, text) ∈ xs_str) (d0 : decode cc pc = .ok (.new 100, 3)) (d3 : decode cc (pc + 3) = .ok (.dup, 1)) (hldc : (decode cc (pc + 4) = .ok (.ldc is, 2) ∧ decode cc (pc + 6) = .ok (.invokespecial 104, 3) ∧ decode cc (pc + 9) = .ok (.athrow, 1)) ∨ (decode cc (pc + 4) = .ok (.ldc_w is, 3) ∧ decode cc (pc + 7) = .ok (.invokespecial 104, 3) ∧ decode cc (pc + 10) = .ok (.athrow, 1)))
    (hR : 6 ≤ R.frames ∧ 82 ≤ R.locals) (hb1 : 1 ≤ bc) (hb2 : 6 ≤ bs) (hp : post (.inr "java/lang/IllegalStateException") h) : Wx p l e R s m args below meth c k A nL Q bc bs pc L [] h := by
  have h9 := at_ISE
  rw [Bool.and_eq_true, List.all_eq_true, List.all_eq_true] at h9
  exact x_throw (names := eNames) G B B2 hout rfl (by decide +kernel) (by decide +kernel) q_cl_X10_100 q_in_java_lang_IllegalStateException hstr (fun w hw => at_of (h9.1 w hw)) h9.2 d0 d3 hldc (by show 5 < R.frames; omega) (by show 0 + 82 ≤ R.locals; omega) hb1 hb2 hp
end CL
