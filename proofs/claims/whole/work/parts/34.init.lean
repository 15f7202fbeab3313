section ZI
variable {p : Program} {l : Launch} {e : Env} {R : Room} {s : State} {m : MethodId} {args : Array Value} {below : List Frame} {meth : Method} {c : Code}
variable {k : KC} {A : Nat → Prop} {nL : Nat} {Q : State → Prop} {bc bs pc : Nat} {L : List (Option Value)} {st : List Value} {h h1 : Wd} {own : String} {cc : ByteArray} {ret : Option FieldType}
theorem z_ip {ci idx N j b : Nat} {C : String} {T : u_T} {ty : Nat → FieldType} {fs fs' : List Value} {v : Value} {g : Nat → va_E} {As : List Nat} (G : GX p l R s m args meth c k A own cc nL ret) (kb : KB ci C T N ty) (gb : GB own idx C T N j) (hb : b ∈ As) (hfin : (T j).2.2.2 = false) (hn : narrow (ty j) v = v ∧ fits (ty j) v = true) (hlen : j < fs.length) (e9 : fs.set j v = fs') (d : decode cc pc = .ok (.putfield idx, 3)) (kk : Wx p l e R s m args below meth c k A nL Q bc bs (pc + 3) L st (As, va_up g b (.inr (ci, fs')))) : Wx p l e R s m args below meth c k A nL Q bc bs pc L (v :: .ref b :: st) (As, va_up g b (.inr (ci, fs))) := by
  obtain ⟨k1, k2, k3, k4, k5, k6, k7⟩ := kb
  refine x_putf (ci := ci) (fs := fs) G hb (va_up_self _ _ _) k4 k5 gb.1 gb.2.1 (by rw [gb.2.2]; exact fun _ h => h) ty k6 k7 hfin hn.1 hn.2 hlen d ?_
  rw [up_up, e9]
  exact kk
theorem z_iP {ci idx N j b : Nat} {C : String} {T : u_T} {ty : Nat → FieldType} {fs fs' : List Value} {v : Value} {g : Nat → va_E} {As : List Nat} (G : GX p l R s m args meth c k A own cc nL ret) (kb : KB ci C T N ty) (gb : GB own idx C T N j) (hini : meth.name = "<init>") (hown : C = own) (hb : b ∈ As) (hfin : (T j).2.2.2 = true) (hn : narrow (ty j) v = v ∧ fits (ty j) v = true) (hlen : j < fs.length) (e9 : fs.set j v = fs') (d : decode cc pc = .ok (.putfield idx, 3)) (kk : Wx p l e R s m args below meth c k A nL Q bc bs (pc + 3) L st (As, va_up g b (.inr (ci, fs')))) : Wx p l e R s m args below meth c k A nL Q bc bs pc L (v :: .ref b :: st) (As, va_up g b (.inr (ci, fs))) := by
  obtain ⟨k1, k2, k3, k4, k5, k6, k7⟩ := kb
  refine x_putF (ci := ci) (fs := fs) G hb (va_up_self _ _ _) k4 k5 gb.1 gb.2.1 (by rw [gb.2.2]; exact fun _ h => h) ty k6 k7 hfin hini (gb.2.2.trans hown) hn.1 hn.2 hlen d ?_
  rw [up_up, e9]
  exact kk
theorem x_getfE {ci idx N j a : Nat} {ref C : String} {T : u_T} {fs : List Value} {v v0 : Value} (G : GX p l R s m args meth c k A own cc nL ret) (h0 : v0 = .ref a) (ha : a ∈ h.1) (hf : h.2 a = .inr (ci, fs)) (hc : vwCl[ci]? = some (C, T, N)) (hin : ∀ w ∈ u_ws C T N, w ∈ TB) (hj : j < N) (hlink : Cond.fieldLink own idx ref (T j).2.1 (T j).2.2.1 ∈ TB) (hsame : ∀ x, s.fieldFound? (T j).1 (T j).2.1 (T j).2.2.1 = some x → s.fieldFound? ref (T j).2.1 (T j).2.2.1 = some x) (hv : fs[j]? = some v) (d : decode cc pc = .ok (.getfield idx, 3)) (kk : Wx p l e R s m args below meth c k A nL Q bc bs (pc + 3) L (v :: st) h) : Wx p l e R s m args below meth c k A nL Q bc bs pc L (v0 :: st) h := by
  subst h0
  exact x_getf G ha hf hc hin hj hlink hsame hv d kk
theorem nf_o {t : FieldType} {v : Value} (ht : ∃ q, t = .object q) (hv : v = .null ∨ ∃ a, v = .ref a) : narrow t v = v ∧ fits t v = true := by
  obtain ⟨q, rfl⟩ := ht
  rcases hv with rfl | ⟨a, rfl⟩ <;> exact ⟨rfl, rfl⟩
theorem up_sw {α : Type} {g : Nat → α} {a b : Nat} {x y : α} (h : a ≠ b) : va_up (va_up g a x) b y = va_up (va_up g b y) a x := by
  funext j
  by_cases h1 : j = a
  · subst h1
    simp [va_up, h]
  · simp [va_up, h1]
end ZI
abbrev rm_in_o : Room := { frames := 1, cells := 0, slots := 0, locals := 30 }
abbrev rm_in_c : Room := { frames := 2, cells := 0, slots := 0, locals := 60 }
abbrev rm_in_l : Room := { frames := 3, cells := 0, slots := 0, locals := 90 }
abbrev rm_in_r : Room := { frames := 4, cells := 0, slots := 0, locals := 120 }
abbrev rm_in_q : Room := { frames := 4, cells := 1, slots := 3, locals := 120 }
theorem dJxa1e45_init_da8c8_0 : decode cJxa1e45_init_da8c8 0 = .ok (.aload_n 0, 1) := by decide +kernel
theorem dJxa1e45_init_da8c8_1 : decode cJxa1e45_init_da8c8 1 = .ok (.invokespecial 1, 3) := by decide +kernel
theorem dJxa1e45_init_da8c8_4 : decode cJxa1e45_init_da8c8 4 = .ok (.return_, 1) := by decide +kernel
set_option maxRecDepth 100000 in
theorem in_AC {l : Launch} {k : KC} (hl : l.stackTraces = false) {As : List Nat} {g : Nat → va_E} {b : Nat} (hb : b ∈ As) : MI l k yJxa1e45_init_da8c8 (.code yJxa1e45_init_da8c8 cJxa1e45_init_da8c8 1 none) rm_in_o [.ref b] (As, va_up g b (.inr (0, [.int 0, .null, .int 0]))) (pR none (As, va_up g b (.inr (0, [.int 0, .null, .int 0])))) := by
  refine MI.of 0 hl (by decide) (Nat.le_of_ble_eq_true rfl) ?_
  intro p e s m args below meth c A Q hini G B
  show Wx p l e rm_in_o s m args below meth c k A 1 Q 0 0 0 [some (.ref b)] [] (As, va_up g b (.inr (0, [.int 0, .null, .int 0])))
  refine x_aload0 (pc := 0) G dJxa1e45_init_da8c8_0 ?_
  refine x_objInit (pc := 1) G q_ml_Jxa1e45_1 q_im_oinit q_co_oinit (Nat.le_of_ble_eq_true rfl) (Nat.le_of_ble_eq_true rfl) dJxa1e45_init_da8c8_1 ?_
  exact x_vret G B rfl dJxa1e45_init_da8c8_4 ⟨rfl, rfl⟩
theorem dJxc12de_init_da8c8_0 : decode cJxc12de_init_da8c8 0 = .ok (.aload_n 0, 1) := by decide +kernel
theorem dJxc12de_init_da8c8_1 : decode cJxc12de_init_da8c8 1 = .ok (.invokespecial 1, 3) := by decide +kernel
theorem dJxc12de_init_da8c8_4 : decode cJxc12de_init_da8c8 4 = .ok (.aload_n 0, 1) := by decide +kernel
theorem dJxc12de_init_da8c8_5 : decode cJxc12de_init_da8c8 5 = .ok (.iconst 0, 1) := by decide +kernel
theorem dJxc12de_init_da8c8_6 : decode cJxc12de_init_da8c8 6 = .ok (.putfield 7, 3) := by decide +kernel
theorem dJxc12de_init_da8c8_9 : decode cJxc12de_init_da8c8 9 = .ok (.return_, 1) := by decide +kernel
set_option maxRecDepth 100000 in
theorem in_ALs {l : Launch} {k : KC} (hl : l.stackTraces = false) {As : List Nat} {g : Nat → va_E} {b : Nat} (hb : b ∈ As) : MI l k yJxc12de_init_da8c8 (.code yJxc12de_init_da8c8 cJxc12de_init_da8c8 1 none) rm_in_c [.ref b] (As, va_up g b (.inr (0, [.int 0, .null, .int 0]))) (pR none (As, va_up g b (.inr (0, [.int 0, .null, .int 0])))) := by
  refine MI.of 0 hl (by decide) (Nat.le_of_ble_eq_true rfl) ?_
  intro p e s m args below meth c A Q hini G B
  show Wx p l e rm_in_c s m args below meth c k A 1 Q 0 0 0 [some (.ref b)] [] (As, va_up g b (.inr (0, [.int 0, .null, .int 0])))
  refine x_aload0 (pc := 0) G dJxc12de_init_da8c8_0 ?_
  refine x_callI (pc := 1) (n := 0) (As := []) (st := []) G (in_AC hl hb) q_ml_Jxc12de_1 q_im_yJxa1e45_init_da8c8 q_in_Jxa1e45 q_co_yJxa1e45_init_da8c8 rfl ⟨by decide +kernel, by decide +kernel, by decide +kernel⟩ ⟨Nat.le_of_ble_eq_true rfl, Nat.le_of_ble_eq_true rfl⟩ (Nat.le_of_ble_eq_true rfl) (Nat.le_refl _) (Nat.le_refl _) rfl rfl dJxc12de_init_da8c8_1 (fun v h9 hp => ?_)
  obtain ⟨e1, rfl⟩ := hp
  cases e1
  refine x_aload0 (pc := 4) G dJxc12de_init_da8c8_4 ?_
  refine x_iconst (pc := 5) (v := 0) G dJxc12de_init_da8c8_5 ic_0 ?_
  refine x_putf (pc := 6) (j := 0) (ci := 0) (fs := [.int 0, .null, .int 0]) (C := RJx4a65c) (T := TJx4a65c) (N := 3) G hb (va_up_self _ _ _) rfl i_Jx4a65c (by decide) q_fl_Jxc12de_7 (fun _ h => h) tyJx4a65c tyJx4a65c_ok nmJx4a65c rfl rfl rfl (Nat.le_of_ble_eq_true rfl) dJxc12de_init_da8c8_6 ?_
  exact x_vret G B rfl dJxc12de_init_da8c8_9 ⟨rfl, by rw [up_up]; rfl⟩
theorem dJx4a65c_init_da8c8_0 : decode cJx4a65c_init_da8c8 0 = .ok (.aload_n 0, 1) := by decide +kernel
theorem dJx4a65c_init_da8c8_1 : decode cJx4a65c_init_da8c8 1 = .ok (.invokespecial 1, 3) := by decide +kernel
theorem dJx4a65c_init_da8c8_4 : decode cJx4a65c_init_da8c8 4 = .ok (.aload_n 0, 1) := by decide +kernel
theorem dJx4a65c_init_da8c8_5 : decode cJx4a65c_init_da8c8 5 = .ok (.getstatic 39, 3) := by decide +kernel
theorem dJx4a65c_init_da8c8_8 : decode cJx4a65c_init_da8c8 8 = .ok (.putfield 9, 3) := by decide +kernel
theorem dJx4a65c_init_da8c8_11 : decode cJx4a65c_init_da8c8 11 = .ok (.return_, 1) := by decide +kernel
set_option maxRecDepth 100000 in
theorem in_AL {l : Launch} {k : KC} (hl : l.stackTraces = false) {As : List Nat} {g : Nat → va_E} {b : Nat} (hb : b ∈ As) : MI l k yJx4a65c_init_da8c8 (.code yJx4a65c_init_da8c8 cJx4a65c_init_da8c8 1 none) rm_in_l [.ref b] (As, va_up g b (.inr (0, [.int 0, .null, .int 0]))) (pR none (As, va_up g b (.inr (0, [.int 0, .ref k.2.2.2.2.2.1, .int 0])))) := by
  refine MI.of 0 hl (by decide) (Nat.le_of_ble_eq_true rfl) ?_
  intro p e s m args below meth c A Q hini G B
  show Wx p l e rm_in_l s m args below meth c k A 1 Q 0 0 0 [some (.ref b)] [] (As, va_up g b (.inr (0, [.int 0, .null, .int 0])))
  refine x_aload0 (pc := 0) G dJx4a65c_init_da8c8_0 ?_
  refine x_callI (pc := 1) (n := 0) (As := []) (st := []) G (in_ALs hl hb) q_ml_Jx4a65c_1 q_im_yJxc12de_init_da8c8 q_in_Jxc12de q_co_yJxc12de_init_da8c8 rfl ⟨by decide +kernel, by decide +kernel, by decide +kernel⟩ ⟨Nat.le_of_ble_eq_true rfl, Nat.le_of_ble_eq_true rfl⟩ (Nat.le_of_ble_eq_true rfl) (Nat.le_refl _) (Nat.le_refl _) rfl rfl dJx4a65c_init_da8c8_1 (fun v h9 hp => ?_)
  obtain ⟨e1, rfl⟩ := hp
  cases e1
  refine x_aload0 (pc := 4) G dJx4a65c_init_da8c8_4 ?_
  refine x_getz (pc := 5) G q_fl_Jx4a65c_39 dJx4a65c_init_da8c8_5 ?_
  refine x_putf (pc := 8) (j := 1) (ci := 0) (fs := [.int 0, .null, .int 0]) (C := RJx4a65c) (T := TJx4a65c) (N := 3) G hb (va_up_self _ _ _) rfl i_Jx4a65c (by decide) q_fl_Jx4a65c_9 (fun _ h => h) tyJx4a65c tyJx4a65c_ok nmJx4a65c rfl rfl rfl (Nat.le_of_ble_eq_true rfl) dJx4a65c_init_da8c8_8 ?_
  exact x_vret G B rfl dJx4a65c_init_da8c8_11 ⟨rfl, by rw [up_up]; rfl⟩
theorem dX5_init_0 : decode cX5_init 0 = .ok (.aload_n 0, 1) := by decide +kernel
theorem dX5_init_1 : decode cX5_init 1 = .ok (.invokespecial 1, 3) := by decide +kernel
theorem dX5_init_4 : decode cX5_init 4 = .ok (.aload_n 0, 1) := by decide +kernel
theorem dX5_init_5 : decode cX5_init 5 = .ok (.iconst 0, 1) := by decide +kernel
theorem dX5_init_6 : decode cX5_init 6 = .ok (.putfield 7, 3) := by decide +kernel
theorem dX5_init_9 : decode cX5_init 9 = .ok (.aload_n 0, 1) := by decide +kernel
theorem dX5_init_10 : decode cX5_init 10 = .ok (.aconst_null, 1) := by decide +kernel
theorem dX5_init_11 : decode cX5_init 11 = .ok (.putfield 13, 3) := by decide +kernel
theorem dX5_init_14 : decode cX5_init 14 = .ok (.aload_n 0, 1) := by decide +kernel
theorem dX5_init_15 : decode cX5_init 15 = .ok (.lconst 0, 1) := by decide +kernel
theorem dX5_init_16 : decode cX5_init 16 = .ok (.putfield 17, 3) := by decide +kernel
theorem dX5_init_19 : decode cX5_init 19 = .ok (.aload_n 0, 1) := by decide +kernel
theorem dX5_init_20 : decode cX5_init 20 = .ok (.lconst 0, 1) := by decide +kernel
theorem dX5_init_21 : decode cX5_init 21 = .ok (.putfield 21, 3) := by decide +kernel
theorem dX5_init_24 : decode cX5_init 24 = .ok (.aload_n 0, 1) := by decide +kernel
theorem dX5_init_25 : decode cX5_init 25 = .ok (.iload_n 1, 1) := by decide +kernel
theorem dX5_init_26 : decode cX5_init 26 = .ok (.putfield 24, 3) := by decide +kernel
theorem dX5_init_29 : decode cX5_init 29 = .ok (.aload_n 0, 1) := by decide +kernel
theorem dX5_init_30 : decode cX5_init 30 = .ok (.aload_n 2, 1) := by decide +kernel
theorem dX5_init_31 : decode cX5_init 31 = .ok (.putfield 27, 3) := by decide +kernel
theorem dX5_init_34 : decode cX5_init 34 = .ok (.aload_n 0, 1) := by decide +kernel
theorem dX5_init_35 : decode cX5_init 35 = .ok (.iload_n 3, 1) := by decide +kernel
theorem dX5_init_36 : decode cX5_init 36 = .ok (.putfield 30, 3) := by decide +kernel
theorem dX5_init_39 : decode cX5_init 39 = .ok (.return_, 1) := by decide +kernel
set_option maxRecDepth 100000 in
theorem in_Person {l : Launch} {k : KC} (hl : l.stackTraces = false) {As : List Nat} {g : Nat → va_E} {b : Nat} (hb : b ∈ As) {p1 : Int32} {p2 : Value} (hp2 : p2 = .null ∨ ∃ a, p2 = .ref a) {p3 : Int32} : MI l k yX5_init (.code yX5_init cX5_init 4 none) rm_in_o [.ref b, .int p1, p2, .int p3] (As, va_up g b (.inr (6, [.int 0, .null, .int 0, .int 0, .null, .long 0, .long 0]))) (pR none (As, va_up g b (.inr (6, [.int p1, p2, .int p3, .int 0, .null, .long 0, .long 0])))) := by
  refine MI.of 0 hl (by decide) (by rcases hp2 with rfl | ⟨_, rfl⟩ <;> exact Nat.le_of_ble_eq_true rfl) ?_
  intro p e s m args below meth c A Q hini G B
  rw [show lp_args [.ref b, .int p1, p2, .int p3] = [some (.ref b), some (.int p1), some (p2), some (.int p3)] from by rcases hp2 with rfl | ⟨_, rfl⟩ <;> rfl]
  show Wx p l e rm_in_o s m args below meth c k A 4 Q 0 0 0 [some (.ref b), some (.int p1), some (p2), some (.int p3)] [] (As, va_up g b (.inr (6, [.int 0, .null, .int 0, .int 0, .null, .long 0, .long 0])))
  refine x_aload0 (pc := 0) G dX5_init_0 ?_
  refine x_objInit (pc := 1) G q_ml_X5_1 q_im_oinit q_co_oinit (Nat.le_of_ble_eq_true rfl) (Nat.le_of_ble_eq_true rfl) dX5_init_1 ?_
  refine x_aload0 (pc := 4) G dX5_init_4 ?_
  refine x_iconst (pc := 5) (v := 0) G dX5_init_5 ic_0 ?_
  refine z_ip (pc := 6) (fs' := [.int 0, .null, .int 0, .int 0, .null, .long 0, .long 0]) G kb_6 gb_X5_7 hb rfl ⟨rfl, rfl⟩ (Nat.le_of_ble_eq_true rfl) rfl dX5_init_6 ?_
  refine x_aload0 (pc := 9) G dX5_init_9 ?_
  refine x_null (pc := 10) G dX5_init_10 ?_
  refine z_ip (pc := 11) (fs' := [.int 0, .null, .int 0, .int 0, .null, .long 0, .long 0]) G kb_6 gb_X5_13 hb rfl ⟨rfl, rfl⟩ (Nat.le_of_ble_eq_true rfl) rfl dX5_init_11 ?_
  refine x_aload0 (pc := 14) G dX5_init_14 ?_
  refine x_lconst (pc := 15) (v := 0) G dX5_init_15 lc_0 ?_
  refine z_ip (pc := 16) (fs' := [.int 0, .null, .int 0, .int 0, .null, .long 0, .long 0]) G kb_6 gb_X5_17 hb rfl ⟨rfl, rfl⟩ (Nat.le_of_ble_eq_true rfl) rfl dX5_init_16 ?_
  refine x_aload0 (pc := 19) G dX5_init_19 ?_
  refine x_lconst (pc := 20) (v := 0) G dX5_init_20 lc_0 ?_
  refine z_ip (pc := 21) (fs' := [.int 0, .null, .int 0, .int 0, .null, .long 0, .long 0]) G kb_6 gb_X5_21 hb rfl ⟨rfl, rfl⟩ (Nat.le_of_ble_eq_true rfl) rfl dX5_init_21 ?_
  refine x_aload0 (pc := 24) G dX5_init_24 ?_
  refine x_iload1 (pc := 25) G dX5_init_25 ?_
  refine z_iP (pc := 26) (fs' := [.int p1, .null, .int 0, .int 0, .null, .long 0, .long 0]) G kb_6 gb_X5_24 hini rfl hb rfl ⟨rfl, rfl⟩ (Nat.le_of_ble_eq_true rfl) rfl dX5_init_26 ?_
  refine x_aload0 (pc := 29) G dX5_init_29 ?_
  refine z_aload2 (pc := 30) G hp2 dX5_init_30 ?_
  refine z_iP (pc := 31) (fs' := [.int p1, p2, .int 0, .int 0, .null, .long 0, .long 0]) G kb_6 gb_X5_27 hini rfl hb rfl (nf_o ⟨_, rfl⟩ hp2) (Nat.le_of_ble_eq_true rfl) rfl dX5_init_31 ?_
  refine x_aload0 (pc := 34) G dX5_init_34 ?_
  refine x_iload3 (pc := 35) G dX5_init_35 ?_
  refine z_iP (pc := 36) (fs' := [.int p1, p2, .int p3, .int 0, .null, .long 0, .long 0]) G kb_6 gb_X5_30 hini rfl hb rfl ⟨rfl, rfl⟩ (Nat.le_of_ble_eq_true rfl) rfl dX5_init_36 ?_
  exact x_vret G B rfl dX5_init_39 ⟨rfl, rfl⟩
theorem dX3_init_0 : decode cX3_init 0 = .ok (.aload_n 0, 1) := by decide +kernel
theorem dX3_init_1 : decode cX3_init 1 = .ok (.invokespecial 1, 3) := by decide +kernel
theorem dX3_init_4 : decode cX3_init 4 = .ok (.aload_n 0, 1) := by decide +kernel
theorem dX3_init_5 : decode cX3_init 5 = .ok (.iconst 0, 1) := by decide +kernel
theorem dX3_init_6 : decode cX3_init 6 = .ok (.putfield 7, 3) := by decide +kernel
theorem dX3_init_9 : decode cX3_init 9 = .ok (.aload_n 0, 1) := by decide +kernel
theorem dX3_init_10 : decode cX3_init 10 = .ok (.iconst 0, 1) := by decide +kernel
theorem dX3_init_11 : decode cX3_init 11 = .ok (.putfield 13, 3) := by decide +kernel
theorem dX3_init_14 : decode cX3_init 14 = .ok (.aload_n 0, 1) := by decide +kernel
theorem dX3_init_15 : decode cX3_init 15 = .ok (.iconst 0, 1) := by decide +kernel
theorem dX3_init_16 : decode cX3_init 16 = .ok (.putfield 16, 3) := by decide +kernel
theorem dX3_init_19 : decode cX3_init 19 = .ok (.aload_n 0, 1) := by decide +kernel
theorem dX3_init_20 : decode cX3_init 20 = .ok (.iload_n 1, 1) := by decide +kernel
theorem dX3_init_21 : decode cX3_init 21 = .ok (.putfield 19, 3) := by decide +kernel
theorem dX3_init_24 : decode cX3_init 24 = .ok (.aload_n 0, 1) := by decide +kernel
theorem dX3_init_25 : decode cX3_init 25 = .ok (.iload_n 2, 1) := by decide +kernel
theorem dX3_init_26 : decode cX3_init 26 = .ok (.putfield 23, 3) := by decide +kernel
theorem dX3_init_29 : decode cX3_init 29 = .ok (.aload_n 0, 1) := by decide +kernel
theorem dX3_init_30 : decode cX3_init 30 = .ok (.iload_n 3, 1) := by decide +kernel
theorem dX3_init_31 : decode cX3_init 31 = .ok (.putfield 26, 3) := by decide +kernel
theorem dX3_init_34 : decode cX3_init 34 = .ok (.return_, 1) := by decide +kernel
set_option maxRecDepth 100000 in
theorem in_Line {l : Launch} {k : KC} (hl : l.stackTraces = false) {As : List Nat} {g : Nat → va_E} {b : Nat} (hb : b ∈ As) {p1 : Int32} (hzp1 : narrow .boolean (.int p1) = .int p1 ∧ fits .boolean (.int p1) = true) {p2 : Int32} {p3 : Int32} : MI l k yX3_init (.code yX3_init cX3_init 4 none) rm_in_o [.ref b, .int p1, .int p2, .int p3] (As, va_up g b (.inr (4, [.int 0, .int 0, .int 0, .int 0, .int 0, .int 0]))) (pR none (As, va_up g b (.inr (4, [.int p1, .int p3, .int p2, .int 0, .int 0, .int 0])))) := by
  refine MI.of 0 hl (by decide) (Nat.le_of_ble_eq_true rfl) ?_
  intro p e s m args below meth c A Q hini G B
  show Wx p l e rm_in_o s m args below meth c k A 4 Q 0 0 0 [some (.ref b), some (.int p1), some (.int p2), some (.int p3)] [] (As, va_up g b (.inr (4, [.int 0, .int 0, .int 0, .int 0, .int 0, .int 0])))
  refine x_aload0 (pc := 0) G dX3_init_0 ?_
  refine x_objInit (pc := 1) G q_ml_X3_1 q_im_oinit q_co_oinit (Nat.le_of_ble_eq_true rfl) (Nat.le_of_ble_eq_true rfl) dX3_init_1 ?_
  refine x_aload0 (pc := 4) G dX3_init_4 ?_
  refine x_iconst (pc := 5) (v := 0) G dX3_init_5 ic_0 ?_
  refine z_ip (pc := 6) (fs' := [.int 0, .int 0, .int 0, .int 0, .int 0, .int 0]) G kb_4 gb_X3_7 hb rfl ⟨rfl, rfl⟩ (Nat.le_of_ble_eq_true rfl) rfl dX3_init_6 ?_
  refine x_aload0 (pc := 9) G dX3_init_9 ?_
  refine x_iconst (pc := 10) (v := 0) G dX3_init_10 ic_0 ?_
  refine z_ip (pc := 11) (fs' := [.int 0, .int 0, .int 0, .int 0, .int 0, .int 0]) G kb_4 gb_X3_13 hb rfl ⟨rfl, rfl⟩ (Nat.le_of_ble_eq_true rfl) rfl dX3_init_11 ?_
  refine x_aload0 (pc := 14) G dX3_init_14 ?_
  refine x_iconst (pc := 15) (v := 0) G dX3_init_15 ic_0 ?_
  refine z_ip (pc := 16) (fs' := [.int 0, .int 0, .int 0, .int 0, .int 0, .int 0]) G kb_4 gb_X3_16 hb rfl ⟨rfl, rfl⟩ (Nat.le_of_ble_eq_true rfl) rfl dX3_init_16 ?_
  refine x_aload0 (pc := 19) G dX3_init_19 ?_
  refine x_iload1 (pc := 20) G dX3_init_20 ?_
  refine z_iP (pc := 21) (fs' := [.int p1, .int 0, .int 0, .int 0, .int 0, .int 0]) G kb_4 gb_X3_19 hini rfl hb rfl hzp1 (Nat.le_of_ble_eq_true rfl) rfl dX3_init_21 ?_
  refine x_aload0 (pc := 24) G dX3_init_24 ?_
  refine x_iload2 (pc := 25) G dX3_init_25 ?_
  refine z_ip (pc := 26) (fs' := [.int p1, .int 0, .int p2, .int 0, .int 0, .int 0]) G kb_4 gb_X3_23 hb rfl ⟨rfl, rfl⟩ (Nat.le_of_ble_eq_true rfl) rfl dX3_init_26 ?_
  refine x_aload0 (pc := 29) G dX3_init_29 ?_
  refine x_iload3 (pc := 30) G dX3_init_30 ?_
  refine z_iP (pc := 31) (fs' := [.int p1, .int p3, .int p2, .int 0, .int 0, .int 0]) G kb_4 gb_X3_26 hini rfl hb rfl ⟨rfl, rfl⟩ (Nat.le_of_ble_eq_true rfl) rfl dX3_init_31 ?_
  exact x_vret G B rfl dX3_init_34 ⟨rfl, rfl⟩
theorem dX9_init_0 : decode cX9_init 0 = .ok (.aload_n 0, 1) := by decide +kernel
theorem dX9_init_1 : decode cX9_init 1 = .ok (.invokespecial 1, 3) := by decide +kernel
theorem dX9_init_4 : decode cX9_init 4 = .ok (.aload_n 0, 1) := by decide +kernel
theorem dX9_init_5 : decode cX9_init 5 = .ok (.lload_n 1, 1) := by decide +kernel
theorem dX9_init_6 : decode cX9_init 6 = .ok (.putfield 7, 3) := by decide +kernel
theorem dX9_init_9 : decode cX9_init 9 = .ok (.return_, 1) := by decide +kernel
set_option maxRecDepth 100000 in
theorem in_Trip {l : Launch} {k : KC} (hl : l.stackTraces = false) {As : List Nat} {g : Nat → va_E} {b : Nat} (hb : b ∈ As) {p1 : Int64} : MI l k yX9_init (.code yX9_init cX9_init 3 none) rm_in_o [.ref b, .long p1] (As, va_up g b (.inr (10, [.long 0]))) (pR none (As, va_up g b (.inr (10, [.long p1])))) := by
  refine MI.of 0 hl (by decide) (Nat.le_of_ble_eq_true rfl) ?_
  intro p e s m args below meth c A Q hini G B
  show Wx p l e rm_in_o s m args below meth c k A 3 Q 0 0 0 [some (.ref b), some (.long p1), none] [] (As, va_up g b (.inr (10, [.long 0])))
  refine x_aload0 (pc := 0) G dX9_init_0 ?_
  refine x_objInit (pc := 1) G q_ml_X9_1 q_im_oinit q_co_oinit (Nat.le_of_ble_eq_true rfl) (Nat.le_of_ble_eq_true rfl) dX9_init_1 ?_
  refine x_aload0 (pc := 4) G dX9_init_4 ?_
  refine x_lload1 (pc := 5) G dX9_init_5 ?_
  refine z_iP (pc := 6) (fs' := [.long p1]) G kb_10 gb_X9_7 hini rfl hb rfl ⟨rfl, rfl⟩ (Nat.le_of_ble_eq_true rfl) rfl dX9_init_6 ?_
  exact x_vret G B rfl dX9_init_9 ⟨rfl, rfl⟩
theorem dX1_init_0 : decode cX1_init 0 = .ok (.aload_n 0, 1) := by decide +kernel
theorem dX1_init_1 : decode cX1_init 1 = .ok (.invokespecial 1, 3) := by decide +kernel
theorem dX1_init_4 : decode cX1_init 4 = .ok (.aload_n 0, 1) := by decide +kernel
theorem dX1_init_5 : decode cX1_init 5 = .ok (.iconst 0, 1) := by decide +kernel
theorem dX1_init_6 : decode cX1_init 6 = .ok (.putfield 7, 3) := by decide +kernel
theorem dX1_init_9 : decode cX1_init 9 = .ok (.aload_n 0, 1) := by decide +kernel
theorem dX1_init_10 : decode cX1_init 10 = .ok (.aload_n 1, 1) := by decide +kernel
theorem dX1_init_11 : decode cX1_init 11 = .ok (.putfield 13, 3) := by decide +kernel
theorem dX1_init_14 : decode cX1_init 14 = .ok (.aload_n 0, 1) := by decide +kernel
theorem dX1_init_15 : decode cX1_init 15 = .ok (.iload_n 2, 1) := by decide +kernel
theorem dX1_init_16 : decode cX1_init 16 = .ok (.putfield 17, 3) := by decide +kernel
theorem dX1_init_19 : decode cX1_init 19 = .ok (.return_, 1) := by decide +kernel
set_option maxRecDepth 100000 in
theorem in_Entry {l : Launch} {k : KC} (hl : l.stackTraces = false) {As : List Nat} {g : Nat → va_E} {b : Nat} (hb : b ∈ As) {p1 : Value} (hp1 : p1 = .null ∨ ∃ a, p1 = .ref a) {p2 : Int32} : MI l k yX1_init (.code yX1_init cX1_init 3 none) rm_in_o [.ref b, p1, .int p2] (As, va_up g b (.inr (2, [.null, .int 0, .int 0]))) (pR none (As, va_up g b (.inr (2, [p1, .int p2, .int 0])))) := by
  refine MI.of 0 hl (by decide) (by rcases hp1 with rfl | ⟨_, rfl⟩ <;> exact Nat.le_of_ble_eq_true rfl) ?_
  intro p e s m args below meth c A Q hini G B
  rw [show lp_args [.ref b, p1, .int p2] = [some (.ref b), some (p1), some (.int p2)] from by rcases hp1 with rfl | ⟨_, rfl⟩ <;> rfl]
  show Wx p l e rm_in_o s m args below meth c k A 3 Q 0 0 0 [some (.ref b), some (p1), some (.int p2)] [] (As, va_up g b (.inr (2, [.null, .int 0, .int 0])))
  refine x_aload0 (pc := 0) G dX1_init_0 ?_
  refine x_objInit (pc := 1) G q_ml_X1_1 q_im_oinit q_co_oinit (Nat.le_of_ble_eq_true rfl) (Nat.le_of_ble_eq_true rfl) dX1_init_1 ?_
  refine x_aload0 (pc := 4) G dX1_init_4 ?_
  refine x_iconst (pc := 5) (v := 0) G dX1_init_5 ic_0 ?_
  refine z_ip (pc := 6) (fs' := [.null, .int 0, .int 0]) G kb_2 gb_X1_7 hb rfl ⟨by decide, by decide⟩ (Nat.le_of_ble_eq_true rfl) rfl dX1_init_6 ?_
  refine x_aload0 (pc := 9) G dX1_init_9 ?_
  refine z_aload1 (pc := 10) G hp1 dX1_init_10 ?_
  refine z_iP (pc := 11) (fs' := [p1, .int 0, .int 0]) G kb_2 gb_X1_13 hini rfl hb rfl (nf_o ⟨_, rfl⟩ hp1) (Nat.le_of_ble_eq_true rfl) rfl dX1_init_11 ?_
  refine x_aload0 (pc := 14) G dX1_init_14 ?_
  refine x_iload2 (pc := 15) G dX1_init_15 ?_
  refine z_iP (pc := 16) (fs' := [p1, .int p2, .int 0]) G kb_2 gb_X1_17 hini rfl hb rfl ⟨rfl, rfl⟩ (Nat.le_of_ble_eq_true rfl) rfl dX1_init_16 ?_
  exact x_vret G B rfl dX1_init_19 ⟨rfl, rfl⟩
theorem dX6_init_0 : decode cX6_init 0 = .ok (.aload_n 0, 1) := by decide +kernel
theorem dX6_init_1 : decode cX6_init 1 = .ok (.invokespecial 1, 3) := by decide +kernel
theorem dX6_init_4 : decode cX6_init 4 = .ok (.aload_n 0, 1) := by decide +kernel
theorem dX6_init_5 : decode cX6_init 5 = .ok (.lconst 0, 1) := by decide +kernel
theorem dX6_init_6 : decode cX6_init 6 = .ok (.putfield 7, 3) := by decide +kernel
theorem dX6_init_9 : decode cX6_init 9 = .ok (.aload_n 0, 1) := by decide +kernel
theorem dX6_init_10 : decode cX6_init 10 = .ok (.lconst 0, 1) := by decide +kernel
theorem dX6_init_11 : decode cX6_init 11 = .ok (.putfield 13, 3) := by decide +kernel
theorem dX6_init_14 : decode cX6_init 14 = .ok (.aload_n 0, 1) := by decide +kernel
theorem dX6_init_15 : decode cX6_init 15 = .ok (.lconst 0, 1) := by decide +kernel
theorem dX6_init_16 : decode cX6_init 16 = .ok (.putfield 16, 3) := by decide +kernel
theorem dX6_init_19 : decode cX6_init 19 = .ok (.return_, 1) := by decide +kernel
set_option maxRecDepth 100000 in
theorem in_Purse {l : Launch} {k : KC} (hl : l.stackTraces = false) {As : List Nat} {g : Nat → va_E} {b : Nat} (hb : b ∈ As)  : MI l k yX6_init (.code yX6_init cX6_init 1 none) rm_in_o [.ref b] (As, va_up g b (.inr (7, [.long 0, .long 0, .long 0]))) (pR none (As, va_up g b (.inr (7, [.long 0, .long 0, .long 0])))) := by
  refine MI.of 0 hl (by decide) (Nat.le_of_ble_eq_true rfl) ?_
  intro p e s m args below meth c A Q hini G B
  show Wx p l e rm_in_o s m args below meth c k A 1 Q 0 0 0 [some (.ref b)] [] (As, va_up g b (.inr (7, [.long 0, .long 0, .long 0])))
  refine x_aload0 (pc := 0) G dX6_init_0 ?_
  refine x_objInit (pc := 1) G q_ml_X6_1 q_im_oinit q_co_oinit (Nat.le_of_ble_eq_true rfl) (Nat.le_of_ble_eq_true rfl) dX6_init_1 ?_
  refine x_aload0 (pc := 4) G dX6_init_4 ?_
  refine x_lconst (pc := 5) (v := 0) G dX6_init_5 lc_0 ?_
  refine z_ip (pc := 6) (fs' := [.long 0, .long 0, .long 0]) G kb_7 gb_X6_7 hb rfl ⟨rfl, rfl⟩ (Nat.le_of_ble_eq_true rfl) rfl dX6_init_6 ?_
  refine x_aload0 (pc := 9) G dX6_init_9 ?_
  refine x_lconst (pc := 10) (v := 0) G dX6_init_10 lc_0 ?_
  refine z_ip (pc := 11) (fs' := [.long 0, .long 0, .long 0]) G kb_7 gb_X6_13 hb rfl ⟨rfl, rfl⟩ (Nat.le_of_ble_eq_true rfl) rfl dX6_init_11 ?_
  refine x_aload0 (pc := 14) G dX6_init_14 ?_
  refine x_lconst (pc := 15) (v := 0) G dX6_init_15 lc_0 ?_
  refine z_ip (pc := 16) (fs' := [.long 0, .long 0, .long 0]) G kb_7 gb_X6_16 hb rfl ⟨rfl, rfl⟩ (Nat.le_of_ble_eq_true rfl) rfl dX6_init_16 ?_
  exact x_vret G B rfl dX6_init_19 ⟨rfl, rfl⟩
theorem dX4_init_0 : decode cX4_init 0 = .ok (.aload_n 0, 1) := by decide +kernel
theorem dX4_init_1 : decode cX4_init 1 = .ok (.invokespecial 3, 3) := by decide +kernel
theorem dX4_init_4 : decode cX4_init 4 = .ok (.aload_n 0, 1) := by decide +kernel
theorem dX4_init_5 : decode cX4_init 5 = .ok (.sipush 1000, 3) := by decide +kernel
theorem dX4_init_8 : decode cX4_init 8 = .ok (.putfield 9, 3) := by decide +kernel
theorem dX4_init_11 : decode cX4_init 11 = .ok (.return_, 1) := by decide +kernel
set_option maxRecDepth 100000 in
theorem in_Money {l : Launch} {k : KC} (hl : l.stackTraces = false) {As : List Nat} {g : Nat → va_E} {b : Nat} (hb : b ∈ As)  : MI l k yX4_init (.code yX4_init cX4_init 1 none) rm_in_o [.ref b] (As, va_up g b (.inr (5, [.int 0]))) (pR none (As, va_up g b (.inr (5, [.int 1000])))) := by
  refine MI.of 0 hl (by decide) (Nat.le_of_ble_eq_true rfl) ?_
  intro p e s m args below meth c A Q hini G B
  show Wx p l e rm_in_o s m args below meth c k A 1 Q 0 0 0 [some (.ref b)] [] (As, va_up g b (.inr (5, [.int 0])))
  refine x_aload0 (pc := 0) G dX4_init_0 ?_
  refine x_objInit (pc := 1) G q_ml_X4_3 q_im_oinit q_co_oinit (Nat.le_of_ble_eq_true rfl) (Nat.le_of_ble_eq_true rfl) dX4_init_1 ?_
  refine x_aload0 (pc := 4) G dX4_init_4 ?_
  refine x_sipush (pc := 5) (v := 1000) G dX4_init_5 sp_1000 ?_
  refine z_ip (pc := 8) (fs' := [.int 1000]) G kb_5 gb_X4_9 hb rfl ⟨rfl, rfl⟩ (Nat.le_of_ble_eq_true rfl) rfl dX4_init_8 ?_
  exact x_vret G B rfl dX4_init_11 ⟨rfl, rfl⟩
theorem dX8_init_0 : decode cX8_init 0 = .ok (.aload_n 0, 1) := by decide +kernel
theorem dX8_init_1 : decode cX8_init 1 = .ok (.invokespecial 3, 3) := by decide +kernel
theorem dX8_init_4 : decode cX8_init 4 = .ok (.aload_n 0, 1) := by decide +kernel
theorem dX8_init_5 : decode cX8_init 5 = .ok (.iconst 0, 1) := by decide +kernel
theorem dX8_init_6 : decode cX8_init 6 = .ok (.putfield 9, 3) := by decide +kernel
theorem dX8_init_9 : decode cX8_init 9 = .ok (.aload_n 0, 1) := by decide +kernel
theorem dX8_init_10 : decode cX8_init 10 = .ok (.iconst 0, 1) := by decide +kernel
theorem dX8_init_11 : decode cX8_init 11 = .ok (.putfield 15, 3) := by decide +kernel
theorem dX8_init_14 : decode cX8_init 14 = .ok (.aload_n 0, 1) := by decide +kernel
theorem dX8_init_15 : decode cX8_init 15 = .ok (.iconst 0, 1) := by decide +kernel
theorem dX8_init_16 : decode cX8_init 16 = .ok (.putfield 18, 3) := by decide +kernel
theorem dX8_init_19 : decode cX8_init 19 = .ok (.aload_n 0, 1) := by decide +kernel
theorem dX8_init_20 : decode cX8_init 20 = .ok (.iconst 0, 1) := by decide +kernel
theorem dX8_init_21 : decode cX8_init 21 = .ok (.putfield 21, 3) := by decide +kernel
theorem dX8_init_24 : decode cX8_init 24 = .ok (.aload_n 0, 1) := by decide +kernel
theorem dX8_init_25 : decode cX8_init 25 = .ok (.iload_n 1, 1) := by decide +kernel
theorem dX8_init_26 : decode cX8_init 26 = .ok (.putfield 24, 3) := by decide +kernel
theorem dX8_init_29 : decode cX8_init 29 = .ok (.aload_n 0, 1) := by decide +kernel
theorem dX8_init_30 : decode cX8_init 30 = .ok (.aload_n 2, 1) := by decide +kernel
theorem dX8_init_31 : decode cX8_init 31 = .ok (.putfield 27, 3) := by decide +kernel
theorem dX8_init_34 : decode cX8_init 34 = .ok (.return_, 1) := by decide +kernel
set_option maxRecDepth 100000 in
theorem in_Supplier {l : Launch} {k : KC} (hl : l.stackTraces = false) {As : List Nat} {g : Nat → va_E} {b : Nat} (hb : b ∈ As) {p1 : Int32} {p2 : Value} (hp2 : p2 = .null ∨ ∃ a, p2 = .ref a) : MI l k yX8_init (.code yX8_init cX8_init 3 none) rm_in_o [.ref b, .int p1, p2] (As, va_up g b (.inr (9, [.int 0, .null, .int 0, .int 0, .int 0, .int 0]))) (pR none (As, va_up g b (.inr (9, [.int p1, p2, .int 0, .int 0, .int 0, .int 0])))) := by
  refine MI.of 0 hl (by decide) (by rcases hp2 with rfl | ⟨_, rfl⟩ <;> exact Nat.le_of_ble_eq_true rfl) ?_
  intro p e s m args below meth c A Q hini G B
  rw [show lp_args [.ref b, .int p1, p2] = [some (.ref b), some (.int p1), some (p2)] from by rcases hp2 with rfl | ⟨_, rfl⟩ <;> rfl]
  show Wx p l e rm_in_o s m args below meth c k A 3 Q 0 0 0 [some (.ref b), some (.int p1), some (p2)] [] (As, va_up g b (.inr (9, [.int 0, .null, .int 0, .int 0, .int 0, .int 0])))
  refine x_aload0 (pc := 0) G dX8_init_0 ?_
  refine x_objInit (pc := 1) G q_ml_X8_3 q_im_oinit q_co_oinit (Nat.le_of_ble_eq_true rfl) (Nat.le_of_ble_eq_true rfl) dX8_init_1 ?_
  refine x_aload0 (pc := 4) G dX8_init_4 ?_
  refine x_iconst (pc := 5) (v := 0) G dX8_init_5 ic_0 ?_
  refine z_ip (pc := 6) (fs' := [.int 0, .null, .int 0, .int 0, .int 0, .int 0]) G kb_9 gb_X8_9 hb rfl ⟨rfl, rfl⟩ (Nat.le_of_ble_eq_true rfl) rfl dX8_init_6 ?_
  refine x_aload0 (pc := 9) G dX8_init_9 ?_
  refine x_iconst (pc := 10) (v := 0) G dX8_init_10 ic_0 ?_
  refine z_ip (pc := 11) (fs' := [.int 0, .null, .int 0, .int 0, .int 0, .int 0]) G kb_9 gb_X8_15 hb rfl ⟨rfl, rfl⟩ (Nat.le_of_ble_eq_true rfl) rfl dX8_init_11 ?_
  refine x_aload0 (pc := 14) G dX8_init_14 ?_
  refine x_iconst (pc := 15) (v := 0) G dX8_init_15 ic_0 ?_
  refine z_ip (pc := 16) (fs' := [.int 0, .null, .int 0, .int 0, .int 0, .int 0]) G kb_9 gb_X8_18 hb rfl ⟨rfl, rfl⟩ (Nat.le_of_ble_eq_true rfl) rfl dX8_init_16 ?_
  refine x_aload0 (pc := 19) G dX8_init_19 ?_
  refine x_iconst (pc := 20) (v := 0) G dX8_init_20 ic_0 ?_
  refine z_ip (pc := 21) (fs' := [.int 0, .null, .int 0, .int 0, .int 0, .int 0]) G kb_9 gb_X8_21 hb rfl ⟨rfl, rfl⟩ (Nat.le_of_ble_eq_true rfl) rfl dX8_init_21 ?_
  refine x_aload0 (pc := 24) G dX8_init_24 ?_
  refine x_iload1 (pc := 25) G dX8_init_25 ?_
  refine z_iP (pc := 26) (fs' := [.int p1, .null, .int 0, .int 0, .int 0, .int 0]) G kb_9 gb_X8_24 hini rfl hb rfl ⟨rfl, rfl⟩ (Nat.le_of_ble_eq_true rfl) rfl dX8_init_26 ?_
  refine x_aload0 (pc := 29) G dX8_init_29 ?_
  refine z_aload2 (pc := 30) G hp2 dX8_init_30 ?_
  refine z_ip (pc := 31) (fs' := [.int p1, p2, .int 0, .int 0, .int 0, .int 0]) G kb_9 gb_X8_27 hb rfl (nf_o ⟨_, rfl⟩ hp2) (Nat.le_of_ble_eq_true rfl) rfl dX8_init_31 ?_
  exact x_vret G B rfl dX8_init_34 ⟨rfl, rfl⟩
theorem dX7_init_0 : decode cX7_init 0 = .ok (.aload_n 0, 1) := by decide +kernel
theorem dX7_init_1 : decode cX7_init 1 = .ok (.invokespecial 3, 3) := by decide +kernel
theorem dX7_init_4 : decode cX7_init 4 = .ok (.aload_n 0, 1) := by decide +kernel
theorem dX7_init_5 : decode cX7_init 5 = .ok (.new 9, 3) := by decide +kernel
theorem dX7_init_8 : decode cX7_init 8 = .ok (.dup, 1) := by decide +kernel
theorem dX7_init_9 : decode cX7_init 9 = .ok (.invokespecial 11, 3) := by decide +kernel
theorem dX7_init_12 : decode cX7_init 12 = .ok (.putfield 12, 3) := by decide +kernel
theorem dX7_init_15 : decode cX7_init 15 = .ok (.aload_n 0, 1) := by decide +kernel
theorem dX7_init_16 : decode cX7_init 16 = .ok (.iconst 0, 1) := by decide +kernel
theorem dX7_init_17 : decode cX7_init 17 = .ok (.putfield 18, 3) := by decide +kernel
theorem dX7_init_20 : decode cX7_init 20 = .ok (.aload_n 0, 1) := by decide +kernel
theorem dX7_init_21 : decode cX7_init 21 = .ok (.iconst (-1), 1) := by decide +kernel
theorem dX7_init_22 : decode cX7_init 22 = .ok (.putfield 22, 3) := by decide +kernel
theorem dX7_init_25 : decode cX7_init 25 = .ok (.aload_n 0, 1) := by decide +kernel
theorem dX7_init_26 : decode cX7_init 26 = .ok (.lconst 0, 1) := by decide +kernel
theorem dX7_init_27 : decode cX7_init 27 = .ok (.putfield 25, 3) := by decide +kernel
theorem dX7_init_30 : decode cX7_init 30 = .ok (.aload_n 0, 1) := by decide +kernel
theorem dX7_init_31 : decode cX7_init 31 = .ok (.aconst_null, 1) := by decide +kernel
theorem dX7_init_32 : decode cX7_init 32 = .ok (.putfield 29, 3) := by decide +kernel
theorem dX7_init_35 : decode cX7_init 35 = .ok (.aload_n 0, 1) := by decide +kernel
theorem dX7_init_36 : decode cX7_init 36 = .ok (.aconst_null, 1) := by decide +kernel
theorem dX7_init_37 : decode cX7_init 37 = .ok (.putfield 33, 3) := by decide +kernel
theorem dX7_init_40 : decode cX7_init 40 = .ok (.aload_n 0, 1) := by decide +kernel
theorem dX7_init_41 : decode cX7_init 41 = .ok (.aconst_null, 1) := by decide +kernel
theorem dX7_init_42 : decode cX7_init 42 = .ok (.putfield 36, 3) := by decide +kernel
theorem dX7_init_45 : decode cX7_init 45 = .ok (.aload_n 0, 1) := by decide +kernel
theorem dX7_init_46 : decode cX7_init 46 = .ok (.lconst 0, 1) := by decide +kernel
theorem dX7_init_47 : decode cX7_init 47 = .ok (.putfield 40, 3) := by decide +kernel
theorem dX7_init_50 : decode cX7_init 50 = .ok (.aload_n 0, 1) := by decide +kernel
theorem dX7_init_51 : decode cX7_init 51 = .ok (.aload_n 1, 1) := by decide +kernel
theorem dX7_init_52 : decode cX7_init 52 = .ok (.putfield 43, 3) := by decide +kernel
theorem dX7_init_55 : decode cX7_init 55 = .ok (.aload_n 0, 1) := by decide +kernel
theorem dX7_init_56 : decode cX7_init 56 = .ok (.aload_n 2, 1) := by decide +kernel
theorem dX7_init_57 : decode cX7_init 57 = .ok (.putfield 46, 3) := by decide +kernel
theorem dX7_init_60 : decode cX7_init 60 = .ok (.return_, 1) := by decide +kernel
set_option maxRecDepth 100000 in
theorem in_Request {l : Launch} {k : KC} (hl : l.stackTraces = false) {As : List Nat} {g : Nat → va_E} {b : Nat} (hb : b ∈ As) {p1 : Value} (hp1 : p1 = .null ∨ ∃ a, p1 = .ref a) {p2 : Value} (hp2 : p2 = .null ∨ ∃ a, p2 = .ref a) : MI l k yX7_init (.code yX7_init cX7_init 3 none) rm_in_q [.ref b, p1, p2] (As, va_up g b (.inr (8, [.null, .null, .null, .int 0, .int 0, .long 0, .null, .null, .null, .long 0]))) (fun o h' => ∃ q, q ∉ As ∧ o = .inl none ∧ h' = (As ++ [q], va_up (va_up g q (.inr (0, [.int 0, .ref k.2.2.2.2.2.1, .int 0]))) b (.inr (8, [p1, p2, .ref q, .int 0, .int (-1), .long 0, .null, .null, .null, .long 0])))) := by
  refine MI.of 0 hl (by decide) (by rcases hp1 with rfl | ⟨_, rfl⟩ <;> rcases hp2 with rfl | ⟨_, rfl⟩ <;> exact Nat.le_of_ble_eq_true rfl) ?_
  intro p e s m args below meth c A Q hini G B
  rw [show lp_args [.ref b, p1, p2] = [some (.ref b), some (p1), some (p2)] from by rcases hp1 with rfl | ⟨_, rfl⟩ <;> rcases hp2 with rfl | ⟨_, rfl⟩ <;> rfl]
  show Wx p l e rm_in_q s m args below meth c k A 3 Q 1 3 0 [some (.ref b), some (p1), some (p2)] [] (As, va_up g b (.inr (8, [.null, .null, .null, .int 0, .int 0, .long 0, .null, .null, .null, .long 0])))
  refine x_aload0 (pc := 0) G dX7_init_0 ?_
  refine x_objInit (pc := 1) G q_ml_X7_3 q_im_oinit q_co_oinit (Nat.le_of_ble_eq_true rfl) (Nat.le_of_ble_eq_true rfl) dX7_init_1 ?_
  refine x_aload0 (pc := 4) G dX7_init_4 ?_
  refine x_new (pc := 5) (ci := 0) (N := 3) (C := RJx4a65c) (T := TJx4a65c) (fs := [.int 0, .null, .int 0]) (bc1 := 0) (bs1 := 0) G i_Jx4a65c tyJx4a65c tyJx4a65c_ok q_cl_X7_9 q_it_Jx4a65c q_in_Jx4a65c rfl (by decide) (Nat.le_refl _) (Nat.le_refl _) dX7_init_5 (fun q hq => ?_)
  refine x_dup (pc := 8) G dX7_init_8 rfl ?_
  refine x_callI (pc := 9) (n := 0) (As := []) (st := [.ref q, .ref b]) G (in_AL hl (List.mem_append_right _ List.mem_cons_self)) q_ml_X7_11 q_im_yJx4a65c_init_da8c8 q_in_Jx4a65c q_co_yJx4a65c_init_da8c8 rfl ⟨by decide +kernel, by decide +kernel, by decide +kernel⟩ ⟨Nat.le_of_ble_eq_true rfl, Nat.le_of_ble_eq_true rfl⟩ (Nat.le_of_ble_eq_true rfl) (Nat.le_refl _) (Nat.le_refl _) rfl rfl dX7_init_9 (fun v h9 hp => ?_)
  obtain ⟨e1, rfl⟩ := hp
  cases e1
  have hbq : b ≠ q := ne_of hb hq
  have hb2 : b ∈ As ++ [q] := mem_ap hb
  rw [up_sw hbq]
  refine z_iP (pc := 12) (fs' := [.null, .null, .ref q, .int 0, .int 0, .long 0, .null, .null, .null, .long 0]) G kb_8 gb_X7_12 hini rfl hb2 rfl ⟨rfl, rfl⟩ (Nat.le_of_ble_eq_true rfl) rfl dX7_init_12 ?_
  refine x_aload0 (pc := 15) G dX7_init_15 ?_
  refine x_iconst (pc := 16) (v := 0) G dX7_init_16 ic_0 ?_
  refine z_ip (pc := 17) (fs' := [.null, .null, .ref q, .int 0, .int 0, .long 0, .null, .null, .null, .long 0]) G kb_8 gb_X7_18 hb2 rfl ⟨rfl, rfl⟩ (Nat.le_of_ble_eq_true rfl) rfl dX7_init_17 ?_
  refine x_aload0 (pc := 20) G dX7_init_20 ?_
  refine x_iconst (pc := 21) (v := (-1)) G dX7_init_21 ic_m1 ?_
  refine z_ip (pc := 22) (fs' := [.null, .null, .ref q, .int 0, .int (-1), .long 0, .null, .null, .null, .long 0]) G kb_8 gb_X7_22 hb2 rfl ⟨rfl, rfl⟩ (Nat.le_of_ble_eq_true rfl) rfl dX7_init_22 ?_
  refine x_aload0 (pc := 25) G dX7_init_25 ?_
  refine x_lconst (pc := 26) (v := 0) G dX7_init_26 lc_0 ?_
  refine z_ip (pc := 27) (fs' := [.null, .null, .ref q, .int 0, .int (-1), .long 0, .null, .null, .null, .long 0]) G kb_8 gb_X7_25 hb2 rfl ⟨rfl, rfl⟩ (Nat.le_of_ble_eq_true rfl) rfl dX7_init_27 ?_
  refine x_aload0 (pc := 30) G dX7_init_30 ?_
  refine x_null (pc := 31) G dX7_init_31 ?_
  refine z_ip (pc := 32) (fs' := [.null, .null, .ref q, .int 0, .int (-1), .long 0, .null, .null, .null, .long 0]) G kb_8 gb_X7_29 hb2 rfl ⟨rfl, rfl⟩ (Nat.le_of_ble_eq_true rfl) rfl dX7_init_32 ?_
  refine x_aload0 (pc := 35) G dX7_init_35 ?_
  refine x_null (pc := 36) G dX7_init_36 ?_
  refine z_ip (pc := 37) (fs' := [.null, .null, .ref q, .int 0, .int (-1), .long 0, .null, .null, .null, .long 0]) G kb_8 gb_X7_33 hb2 rfl ⟨rfl, rfl⟩ (Nat.le_of_ble_eq_true rfl) rfl dX7_init_37 ?_
  refine x_aload0 (pc := 40) G dX7_init_40 ?_
  refine x_null (pc := 41) G dX7_init_41 ?_
  refine z_ip (pc := 42) (fs' := [.null, .null, .ref q, .int 0, .int (-1), .long 0, .null, .null, .null, .long 0]) G kb_8 gb_X7_36 hb2 rfl ⟨rfl, rfl⟩ (Nat.le_of_ble_eq_true rfl) rfl dX7_init_42 ?_
  refine x_aload0 (pc := 45) G dX7_init_45 ?_
  refine x_lconst (pc := 46) (v := 0) G dX7_init_46 lc_0 ?_
  refine z_ip (pc := 47) (fs' := [.null, .null, .ref q, .int 0, .int (-1), .long 0, .null, .null, .null, .long 0]) G kb_8 gb_X7_40 hb2 rfl ⟨rfl, rfl⟩ (Nat.le_of_ble_eq_true rfl) rfl dX7_init_47 ?_
  refine x_aload0 (pc := 50) G dX7_init_50 ?_
  refine z_aload1 (pc := 51) G hp1 dX7_init_51 ?_
  refine z_iP (pc := 52) (fs' := [p1, .null, .ref q, .int 0, .int (-1), .long 0, .null, .null, .null, .long 0]) G kb_8 gb_X7_43 hini rfl hb2 rfl (nf_o ⟨_, rfl⟩ hp1) (Nat.le_of_ble_eq_true rfl) rfl dX7_init_52 ?_
  refine x_aload0 (pc := 55) G dX7_init_55 ?_
  refine z_aload2 (pc := 56) G hp2 dX7_init_56 ?_
  refine z_iP (pc := 57) (fs' := [p1, p2, .ref q, .int 0, .int (-1), .long 0, .null, .null, .null, .long 0]) G kb_8 gb_X7_46 hini rfl hb2 rfl (nf_o ⟨_, rfl⟩ hp2) (Nat.le_of_ble_eq_true rfl) rfl dX7_init_57 ?_
  exact x_vret G B rfl dX7_init_60 ⟨q, hq, rfl, rfl⟩
theorem dX2_init_0 : decode cX2_init 0 = .ok (.aload_n 0, 1) := by decide +kernel
theorem dX2_init_1 : decode cX2_init 1 = .ok (.invokespecial 3, 3) := by decide +kernel
theorem dX2_init_4 : decode cX2_init 4 = .ok (.aload_n 0, 1) := by decide +kernel
theorem dX2_init_5 : decode cX2_init 5 = .ok (.iconst 0, 1) := by decide +kernel
theorem dX2_init_6 : decode cX2_init 6 = .ok (.putfield 9, 3) := by decide +kernel
theorem dX2_init_9 : decode cX2_init 9 = .ok (.aload_n 0, 1) := by decide +kernel
theorem dX2_init_10 : decode cX2_init 10 = .ok (.iconst 0, 1) := by decide +kernel
theorem dX2_init_11 : decode cX2_init 11 = .ok (.putfield 15, 3) := by decide +kernel
theorem dX2_init_14 : decode cX2_init 14 = .ok (.aload_n 0, 1) := by decide +kernel
theorem dX2_init_15 : decode cX2_init 15 = .ok (.iconst 1, 1) := by decide +kernel
theorem dX2_init_16 : decode cX2_init 16 = .ok (.putfield 19, 3) := by decide +kernel
theorem dX2_init_19 : decode cX2_init 19 = .ok (.aload_n 0, 1) := by decide +kernel
theorem dX2_init_20 : decode cX2_init 20 = .ok (.iconst 0, 1) := by decide +kernel
theorem dX2_init_21 : decode cX2_init 21 = .ok (.putfield 22, 3) := by decide +kernel
theorem dX2_init_24 : decode cX2_init 24 = .ok (.aload_n 0, 1) := by decide +kernel
theorem dX2_init_25 : decode cX2_init 25 = .ok (.lconst 0, 1) := by decide +kernel
theorem dX2_init_26 : decode cX2_init 26 = .ok (.putfield 25, 3) := by decide +kernel
theorem dX2_init_29 : decode cX2_init 29 = .ok (.aload_n 0, 1) := by decide +kernel
theorem dX2_init_30 : decode cX2_init 30 = .ok (.lconst 0, 1) := by decide +kernel
theorem dX2_init_31 : decode cX2_init 31 = .ok (.putfield 29, 3) := by decide +kernel
theorem dX2_init_34 : decode cX2_init 34 = .ok (.aload_n 0, 1) := by decide +kernel
theorem dX2_init_35 : decode cX2_init 35 = .ok (.lconst 0, 1) := by decide +kernel
theorem dX2_init_36 : decode cX2_init 36 = .ok (.putfield 32, 3) := by decide +kernel
theorem dX2_init_39 : decode cX2_init 39 = .ok (.aload_n 0, 1) := by decide +kernel
theorem dX2_init_40 : decode cX2_init 40 = .ok (.iconst (-1), 1) := by decide +kernel
theorem dX2_init_41 : decode cX2_init 41 = .ok (.putfield 35, 3) := by decide +kernel
theorem dX2_init_44 : decode cX2_init 44 = .ok (.aload_n 0, 1) := by decide +kernel
theorem dX2_init_45 : decode cX2_init 45 = .ok (.iconst (-1), 1) := by decide +kernel
theorem dX2_init_46 : decode cX2_init 46 = .ok (.putfield 38, 3) := by decide +kernel
theorem dX2_init_49 : decode cX2_init 49 = .ok (.aload_n 0, 1) := by decide +kernel
theorem dX2_init_50 : decode cX2_init 50 = .ok (.iconst 0, 1) := by decide +kernel
theorem dX2_init_51 : decode cX2_init 51 = .ok (.putfield 41, 3) := by decide +kernel
theorem dX2_init_54 : decode cX2_init 54 = .ok (.aload_n 0, 1) := by decide +kernel
theorem dX2_init_55 : decode cX2_init 55 = .ok (.lconst 0, 1) := by decide +kernel
theorem dX2_init_56 : decode cX2_init 56 = .ok (.putfield 44, 3) := by decide +kernel
theorem dX2_init_59 : decode cX2_init 59 = .ok (.aload_n 0, 1) := by decide +kernel
theorem dX2_init_60 : decode cX2_init 60 = .ok (.lconst 0, 1) := by decide +kernel
theorem dX2_init_61 : decode cX2_init 61 = .ok (.putfield 47, 3) := by decide +kernel
theorem dX2_init_64 : decode cX2_init 64 = .ok (.aload_n 0, 1) := by decide +kernel
theorem dX2_init_65 : decode cX2_init 65 = .ok (.aload_n 1, 1) := by decide +kernel
theorem dX2_init_66 : decode cX2_init 66 = .ok (.putfield 50, 3) := by decide +kernel
theorem dX2_init_69 : decode cX2_init 69 = .ok (.aload_n 0, 1) := by decide +kernel
theorem dX2_init_70 : decode cX2_init 70 = .ok (.aload_n 2, 1) := by decide +kernel
theorem dX2_init_71 : decode cX2_init 71 = .ok (.putfield 54, 3) := by decide +kernel
theorem dX2_init_74 : decode cX2_init 74 = .ok (.aload_n 0, 1) := by decide +kernel
theorem dX2_init_75 : decode cX2_init 75 = .ok (.aload_n 3, 1) := by decide +kernel
theorem dX2_init_76 : decode cX2_init 76 = .ok (.putfield 58, 3) := by decide +kernel
theorem dX2_init_79 : decode cX2_init 79 = .ok (.aload_n 0, 1) := by decide +kernel
theorem dX2_init_80 : decode cX2_init 80 = .ok (.iload 4, 2) := by decide +kernel
theorem dX2_init_82 : decode cX2_init 82 = .ok (.putfield 62, 3) := by decide +kernel
theorem dX2_init_85 : decode cX2_init 85 = .ok (.aload_n 0, 1) := by decide +kernel
theorem dX2_init_86 : decode cX2_init 86 = .ok (.iload 5, 2) := by decide +kernel
theorem dX2_init_88 : decode cX2_init 88 = .ok (.putfield 65, 3) := by decide +kernel
theorem dX2_init_91 : decode cX2_init 91 = .ok (.aload_n 0, 1) := by decide +kernel
theorem dX2_init_92 : decode cX2_init 92 = .ok (.iload 4, 2) := by decide +kernel
theorem dX2_init_94 : decode cX2_init 94 = .ok (.i2l, 1) := by decide +kernel
theorem dX2_init_95 : decode cX2_init 95 = .ok (.iload 5, 2) := by decide +kernel
theorem dX2_init_97 : decode cX2_init 97 = .ok (.i2l, 1) := by decide +kernel
theorem dX2_init_98 : decode cX2_init 98 = .ok (.lmul, 1) := by decide +kernel
theorem dX2_init_99 : decode cX2_init 99 = .ok (.aload_n 3, 1) := by decide +kernel
theorem dX2_init_100 : decode cX2_init 100 = .ok (.getfield 68, 3) := by decide +kernel
theorem dX2_init_103 : decode cX2_init 103 = .ok (.getfield 74, 3) := by decide +kernel
theorem dX2_init_106 : decode cX2_init 106 = .ok (.i2l, 1) := by decide +kernel
theorem dX2_init_107 : decode cX2_init 107 = .ok (.lmul, 1) := by decide +kernel
theorem dX2_init_108 : decode cX2_init 108 = .ok (.ldc2_w 79, 3) := by decide +kernel
theorem dX2_init_111 : decode cX2_init 111 = .ok (.ldiv, 1) := by decide +kernel
theorem dX2_init_112 : decode cX2_init 112 = .ok (.putfield 81, 3) := by decide +kernel
theorem dX2_init_115 : decode cX2_init 115 = .ok (.return_, 1) := by decide +kernel
set_option maxRecDepth 100000 in
theorem in_Invoice {l : Launch} {k : KC} (hl : l.stackTraces = false) {As : List Nat} {g : Nat → va_E} {b : Nat} (hb : b ∈ As) {p1 : Value} (hp1 : p1 = .null ∨ ∃ a, p1 = .ref a) {p2 : Value} (hp2 : p2 = .null ∨ ∃ a, p2 = .ref a) {p3 : Value} (hp3 : p3 = .null ∨ ∃ a, p3 = .ref a) {p4 : Int32} {p5 : Int32} {sA mA : Nat} {sf : List Value} {per : Int32} (h3e : p3 = .ref sA) (hsA : sA ∈ As) (hsb : sA ≠ b) (hsf : g sA = .inr (9, sf)) (hs1 : sf[1]? = some (.ref mA)) (hmA : mA ∈ As) (hmb : mA ≠ b) (hmf : g mA = .inr (5, [.int per])) : MI l k yX2_init (.code yX2_init cX2_init 6 none) rm_in_o [.ref b, p1, p2, p3, .int p4, .int p5] (As, va_up g b (.inr (3, [.null, .null, .null, .int 0, .int 0, .long 0, .int 0, .int 0, .int 0, .int 0, .long 0, .long 0, .long 0, .int 0, .int 0, .int 0, .long 0, .long 0]))) (pR none (As, va_up g b (.inr (3, [p1, p2, p3, .int p4, .int p5, .long ((((p4.toInt64) * (p5.toInt64)) * (per.toInt64)) / 1000), .int 0, .int 0, .int 1, .int 0, .long 0, .long 0, .long 0, .int (-1), .int (-1), .int 0, .long 0, .long 0])))) := by
  refine MI.of 0 hl (by decide) (by rcases hp1 with rfl | ⟨_, rfl⟩ <;> rcases hp2 with rfl | ⟨_, rfl⟩ <;> rcases hp3 with rfl | ⟨_, rfl⟩ <;> exact Nat.le_of_ble_eq_true rfl) ?_
  intro p e s m args below meth c A Q hini G B
  rw [show lp_args [.ref b, p1, p2, p3, .int p4, .int p5] = [some (.ref b), some (p1), some (p2), some (p3), some (.int p4), some (.int p5)] from by rcases hp1 with rfl | ⟨_, rfl⟩ <;> rcases hp2 with rfl | ⟨_, rfl⟩ <;> rcases hp3 with rfl | ⟨_, rfl⟩ <;> rfl]
  show Wx p l e rm_in_o s m args below meth c k A 6 Q 0 0 0 [some (.ref b), some (p1), some (p2), some (p3), some (.int p4), some (.int p5)] [] (As, va_up g b (.inr (3, [.null, .null, .null, .int 0, .int 0, .long 0, .int 0, .int 0, .int 0, .int 0, .long 0, .long 0, .long 0, .int 0, .int 0, .int 0, .long 0, .long 0])))
  refine x_aload0 (pc := 0) G dX2_init_0 ?_
  refine x_objInit (pc := 1) G q_ml_X2_3 q_im_oinit q_co_oinit (Nat.le_of_ble_eq_true rfl) (Nat.le_of_ble_eq_true rfl) dX2_init_1 ?_
  refine x_aload0 (pc := 4) G dX2_init_4 ?_
  refine x_iconst (pc := 5) (v := 0) G dX2_init_5 ic_0 ?_
  refine z_ip (pc := 6) (fs' := [.null, .null, .null, .int 0, .int 0, .long 0, .int 0, .int 0, .int 0, .int 0, .long 0, .long 0, .long 0, .int 0, .int 0, .int 0, .long 0, .long 0]) G kb_3 gb_X2_9 hb rfl ⟨rfl, rfl⟩ (Nat.le_of_ble_eq_true rfl) rfl dX2_init_6 ?_
  refine x_aload0 (pc := 9) G dX2_init_9 ?_
  refine x_iconst (pc := 10) (v := 0) G dX2_init_10 ic_0 ?_
  refine z_ip (pc := 11) (fs' := [.null, .null, .null, .int 0, .int 0, .long 0, .int 0, .int 0, .int 0, .int 0, .long 0, .long 0, .long 0, .int 0, .int 0, .int 0, .long 0, .long 0]) G kb_3 gb_X2_15 hb rfl ⟨by decide, by decide⟩ (Nat.le_of_ble_eq_true rfl) rfl dX2_init_11 ?_
  refine x_aload0 (pc := 14) G dX2_init_14 ?_
  refine x_iconst (pc := 15) (v := 1) G dX2_init_15 ic_1 ?_
  refine z_ip (pc := 16) (fs' := [.null, .null, .null, .int 0, .int 0, .long 0, .int 0, .int 0, .int 1, .int 0, .long 0, .long 0, .long 0, .int 0, .int 0, .int 0, .long 0, .long 0]) G kb_3 gb_X2_19 hb rfl ⟨by decide, by decide⟩ (Nat.le_of_ble_eq_true rfl) rfl dX2_init_16 ?_
  refine x_aload0 (pc := 19) G dX2_init_19 ?_
  refine x_iconst (pc := 20) (v := 0) G dX2_init_20 ic_0 ?_
  refine z_ip (pc := 21) (fs' := [.null, .null, .null, .int 0, .int 0, .long 0, .int 0, .int 0, .int 1, .int 0, .long 0, .long 0, .long 0, .int 0, .int 0, .int 0, .long 0, .long 0]) G kb_3 gb_X2_22 hb rfl ⟨rfl, rfl⟩ (Nat.le_of_ble_eq_true rfl) rfl dX2_init_21 ?_
  refine x_aload0 (pc := 24) G dX2_init_24 ?_
  refine x_lconst (pc := 25) (v := 0) G dX2_init_25 lc_0 ?_
  refine z_ip (pc := 26) (fs' := [.null, .null, .null, .int 0, .int 0, .long 0, .int 0, .int 0, .int 1, .int 0, .long 0, .long 0, .long 0, .int 0, .int 0, .int 0, .long 0, .long 0]) G kb_3 gb_X2_25 hb rfl ⟨rfl, rfl⟩ (Nat.le_of_ble_eq_true rfl) rfl dX2_init_26 ?_
  refine x_aload0 (pc := 29) G dX2_init_29 ?_
  refine x_lconst (pc := 30) (v := 0) G dX2_init_30 lc_0 ?_
  refine z_ip (pc := 31) (fs' := [.null, .null, .null, .int 0, .int 0, .long 0, .int 0, .int 0, .int 1, .int 0, .long 0, .long 0, .long 0, .int 0, .int 0, .int 0, .long 0, .long 0]) G kb_3 gb_X2_29 hb rfl ⟨rfl, rfl⟩ (Nat.le_of_ble_eq_true rfl) rfl dX2_init_31 ?_
  refine x_aload0 (pc := 34) G dX2_init_34 ?_
  refine x_lconst (pc := 35) (v := 0) G dX2_init_35 lc_0 ?_
  refine z_ip (pc := 36) (fs' := [.null, .null, .null, .int 0, .int 0, .long 0, .int 0, .int 0, .int 1, .int 0, .long 0, .long 0, .long 0, .int 0, .int 0, .int 0, .long 0, .long 0]) G kb_3 gb_X2_32 hb rfl ⟨rfl, rfl⟩ (Nat.le_of_ble_eq_true rfl) rfl dX2_init_36 ?_
  refine x_aload0 (pc := 39) G dX2_init_39 ?_
  refine x_iconst (pc := 40) (v := (-1)) G dX2_init_40 ic_m1 ?_
  refine z_ip (pc := 41) (fs' := [.null, .null, .null, .int 0, .int 0, .long 0, .int 0, .int 0, .int 1, .int 0, .long 0, .long 0, .long 0, .int (-1), .int 0, .int 0, .long 0, .long 0]) G kb_3 gb_X2_35 hb rfl ⟨rfl, rfl⟩ (Nat.le_of_ble_eq_true rfl) rfl dX2_init_41 ?_
  refine x_aload0 (pc := 44) G dX2_init_44 ?_
  refine x_iconst (pc := 45) (v := (-1)) G dX2_init_45 ic_m1 ?_
  refine z_ip (pc := 46) (fs' := [.null, .null, .null, .int 0, .int 0, .long 0, .int 0, .int 0, .int 1, .int 0, .long 0, .long 0, .long 0, .int (-1), .int (-1), .int 0, .long 0, .long 0]) G kb_3 gb_X2_38 hb rfl ⟨rfl, rfl⟩ (Nat.le_of_ble_eq_true rfl) rfl dX2_init_46 ?_
  refine x_aload0 (pc := 49) G dX2_init_49 ?_
  refine x_iconst (pc := 50) (v := 0) G dX2_init_50 ic_0 ?_
  refine z_ip (pc := 51) (fs' := [.null, .null, .null, .int 0, .int 0, .long 0, .int 0, .int 0, .int 1, .int 0, .long 0, .long 0, .long 0, .int (-1), .int (-1), .int 0, .long 0, .long 0]) G kb_3 gb_X2_41 hb rfl ⟨by decide, by decide⟩ (Nat.le_of_ble_eq_true rfl) rfl dX2_init_51 ?_
  refine x_aload0 (pc := 54) G dX2_init_54 ?_
  refine x_lconst (pc := 55) (v := 0) G dX2_init_55 lc_0 ?_
  refine z_ip (pc := 56) (fs' := [.null, .null, .null, .int 0, .int 0, .long 0, .int 0, .int 0, .int 1, .int 0, .long 0, .long 0, .long 0, .int (-1), .int (-1), .int 0, .long 0, .long 0]) G kb_3 gb_X2_44 hb rfl ⟨rfl, rfl⟩ (Nat.le_of_ble_eq_true rfl) rfl dX2_init_56 ?_
  refine x_aload0 (pc := 59) G dX2_init_59 ?_
  refine x_lconst (pc := 60) (v := 0) G dX2_init_60 lc_0 ?_
  refine z_ip (pc := 61) (fs' := [.null, .null, .null, .int 0, .int 0, .long 0, .int 0, .int 0, .int 1, .int 0, .long 0, .long 0, .long 0, .int (-1), .int (-1), .int 0, .long 0, .long 0]) G kb_3 gb_X2_47 hb rfl ⟨rfl, rfl⟩ (Nat.le_of_ble_eq_true rfl) rfl dX2_init_61 ?_
  refine x_aload0 (pc := 64) G dX2_init_64 ?_
  refine z_aload1 (pc := 65) G hp1 dX2_init_65 ?_
  refine z_iP (pc := 66) (fs' := [p1, .null, .null, .int 0, .int 0, .long 0, .int 0, .int 0, .int 1, .int 0, .long 0, .long 0, .long 0, .int (-1), .int (-1), .int 0, .long 0, .long 0]) G kb_3 gb_X2_50 hini rfl hb rfl (nf_o ⟨_, rfl⟩ hp1) (Nat.le_of_ble_eq_true rfl) rfl dX2_init_66 ?_
  refine x_aload0 (pc := 69) G dX2_init_69 ?_
  refine z_aload2 (pc := 70) G hp2 dX2_init_70 ?_
  refine z_iP (pc := 71) (fs' := [p1, p2, .null, .int 0, .int 0, .long 0, .int 0, .int 0, .int 1, .int 0, .long 0, .long 0, .long 0, .int (-1), .int (-1), .int 0, .long 0, .long 0]) G kb_3 gb_X2_54 hini rfl hb rfl (nf_o ⟨_, rfl⟩ hp2) (Nat.le_of_ble_eq_true rfl) rfl dX2_init_71 ?_
  refine x_aload0 (pc := 74) G dX2_init_74 ?_
  refine z_aload3 (pc := 75) G hp3 dX2_init_75 ?_
  refine z_iP (pc := 76) (fs' := [p1, p2, p3, .int 0, .int 0, .long 0, .int 0, .int 0, .int 1, .int 0, .long 0, .long 0, .long 0, .int (-1), .int (-1), .int 0, .long 0, .long 0]) G kb_3 gb_X2_58 hini rfl hb rfl (nf_o ⟨_, rfl⟩ hp3) (Nat.le_of_ble_eq_true rfl) rfl dX2_init_76 ?_
  refine x_aload0 (pc := 79) G dX2_init_79 ?_
  refine x_iload4 (pc := 80) G dX2_init_80 ?_
  refine z_iP (pc := 82) (fs' := [p1, p2, p3, .int p4, .int 0, .long 0, .int 0, .int 0, .int 1, .int 0, .long 0, .long 0, .long 0, .int (-1), .int (-1), .int 0, .long 0, .long 0]) G kb_3 gb_X2_62 hini rfl hb rfl ⟨rfl, rfl⟩ (Nat.le_of_ble_eq_true rfl) rfl dX2_init_82 ?_
  refine x_aload0 (pc := 85) G dX2_init_85 ?_
  refine x_iload5 (pc := 86) G dX2_init_86 ?_
  refine z_iP (pc := 88) (fs' := [p1, p2, p3, .int p4, .int p5, .long 0, .int 0, .int 0, .int 1, .int 0, .long 0, .long 0, .long 0, .int (-1), .int (-1), .int 0, .long 0, .long 0]) G kb_3 gb_X2_65 hini rfl hb rfl ⟨rfl, rfl⟩ (Nat.le_of_ble_eq_true rfl) rfl dX2_init_88 ?_
  refine x_aload0 (pc := 91) G dX2_init_91 ?_
  refine x_iload4 (pc := 92) G dX2_init_92 ?_
  refine x_i2l (pc := 94) G dX2_init_94 ?_
  refine x_iload5 (pc := 95) G dX2_init_95 ?_
  refine x_i2l (pc := 97) G dX2_init_97 ?_
  refine x_lmul (pc := 98) G dX2_init_98 ?_
  refine z_aload3 (pc := 99) G hp3 dX2_init_99 ?_
  refine x_getfE (pc := 100) (ci := 9) (fs := sf) G h3e hsA ((va_up_ne _ _ hsb).trans hsf) kb_9.2.2.2.1 kb_9.2.2.2.2.1 gb_X2_68.1 gb_X2_68.2.1 (fun _ h => h) hs1 dX2_init_100 ?_
  refine x_getf (pc := 103) (ci := 5) (fs := [.int per]) G hmA ((va_up_ne _ _ hmb).trans hmf) kb_5.2.2.2.1 kb_5.2.2.2.2.1 gb_X2_74.1 gb_X2_74.2.1 (fun _ h => h) rfl dX2_init_103 ?_
  refine x_i2l (pc := 106) G dX2_init_106 ?_
  refine x_lmul (pc := 107) G dX2_init_107 ?_
  refine x_ldc2 (pc := 108) G q_cL_X2_79 dX2_init_108 ?_
  refine x_ldiv (pc := 111) G dX2_init_111 (by decide) ?_
  refine z_iP (pc := 112) (fs' := [p1, p2, p3, .int p4, .int p5, .long ((((p4.toInt64) * (p5.toInt64)) * (per.toInt64)) / 1000), .int 0, .int 0, .int 1, .int 0, .long 0, .long 0, .long 0, .int (-1), .int (-1), .int 0, .long 0, .long 0]) G kb_3 gb_X2_81 hini rfl hb rfl ⟨rfl, rfl⟩ (Nat.le_of_ble_eq_true rfl) rfl dX2_init_112 ?_
  exact x_vret G B rfl dX2_init_115 ⟨rfl, rfl⟩
