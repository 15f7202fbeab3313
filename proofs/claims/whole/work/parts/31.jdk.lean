theorem q_sf_mc : Cond.sameField RJx4a65c "java/util/AbstractList" "modCount" "I" ∈ TB := tb_i 54 (by decide +kernel) (by decide +kernel)
theorem q_in_System : Cond.initialized "java/lang/System" ∈ TB := tb_i 10 (by decide +kernel) (by decide +kernel)
section JD
variable {p : Program} {l : Launch} {e : Env} {R : Room} {s : State} {m : MethodId} {args : Array Value} {below : List Frame} {meth : Method} {c : Code}
variable {k : KC} {A : Nat → Prop} {nL : Nat} {Q : State → Prop} {bc bs pc : Nat} {L : List (Option Value)} {st : List Value} {h h1 : Wd} {own : String} {cc : ByteArray} {ret : Option FieldType}
theorem x_fcA (G : GX p l R s m args meth c k A own cc nL ret) : s.vm.findClass "[Ljava/lang/Object;" = some k.2.2.2.2.1 := va_nmO (G.2.2.2.2.2.2.1.1.2 3 (k.2.2.2.2.1, .object "java/lang/Object") rfl).2 (by decide)
theorem vp_cell_c {cA : ClassId} {x : vp_A} : (vp_cell cA x).vm = .none ∧ (vp_cell cA x).cls = cA := by
  obtain ⟨n, f | f | f | f | f⟩ := x <;> exact ⟨rfl, rfl⟩
theorem x_getCA (G : GX p l R s m args meth c k A own cc nL ret) {idx a : Nat} {x : vp_A} (ha : a ∈ h.1) (hf : h.2 a = .inl (k.2.2.2.2.1, x)) (hlink : Cond.methodLink own idx (⟨"java/lang/Object", "getClass", "()Ljava/lang/Class;"⟩ : MethodName) ∈ TB) (hfr : 1 ≤ R.frames) (hlo : (st.map fun v => v.category).sum + 14 ≤ R.locals) (d : decode cc pc = .ok (.invokevirtual idx, 3)) (kk : Wx p l e R s m args below meth c k A nL Q bc bs (pc + 3) L (.ref k.2.2.2.2.2.2 :: st) h) : Wx p l e R s m args below meth c k A nL Q bc bs pc L (.ref a :: st) h := by
  intro H locs ls cells slots h1 h2 hP hS hl
  obtain ⟨q0, he⟩ := wl_get ha hf
  have hd : (Cond.declares (⟨"java/lang/Object", "getClass", "()Ljava/lang/Class;"⟩ : MethodName)).before args s = true := va_Nw.use rfl (G.2.2.2.2.2.2.1.2.2.2.2.1 _ (by decide))
  exact va_getC G.1 G.2.1 (by rw [hl.1]; exact G.2.2.1) G.2.2.2.1 (G.2.2.2.2.1 _ hlink) hd (G.2.2.2.2.1 _ q_se_getClass) (G.2.2.2.2.1 _ q_im_getClass) (G.2.2.2.2.1 _ q_na_getClass) G.2.2.2.2.2.2.1.2.2.2.2.2.1 ⟨_, hP.1 q0 _ he, by rw [vp_cell_c.1]; rfl, by rw [vp_cell_c.2]; exact x_fcA G⟩ hfr hlo d (kk H locs ls cells slots h1 h2 hP hS hl)
theorem x_ldcMA (G : GX p l R s m args meth c k A own cc nL ret) {idx : Nat} (hlink : Cond.classLink own idx "[Ljava/lang/Object;" ∈ TB) (d : decode cc pc = .ok (.ldc idx, 2)) (kk : Wx p l e R s m args below meth c k A nL Q bc bs (pc + 2) L (.ref k.2.2.2.2.2.2 :: st) h) : Wx p l e R s m args below meth c k A nL Q bc bs pc L st h := by
  intro H locs ls cells slots h1 h2 hP hS hl
  exact va_ldcM G.1 G.2.1 G.2.2.2.1 (G.2.2.2.2.1 _ hlink) G.2.2.2.2.2.2.1.2.2.2.2.2.1 d (kk H locs ls cells slots h1 h2 hP hS hl)
theorem x_castAQ (G : GX p l R s m args meth c k A own cc nL ret) {idx a : Nat} {x : vp_A} (ha : a ∈ h.1) (hf : h.2 a = .inl (k.2.2.2.2.1, x)) (hlink : Cond.classLink own idx "[Ljava/lang/Object;" ∈ TB) (d : decode cc pc = .ok (.checkcast idx, 3)) (kk : Wx p l e R s m args below meth c k A nL Q bc bs (pc + 3) L (.ref a :: st) h) : Wx p l e R s m args below meth c k A nL Q bc bs pc L (.ref a :: st) h := by
  intro H locs ls cells slots h1 h2 hP hS hl
  obtain ⟨q0, he⟩ := wl_get ha hf
  exact va_castA G.1 G.2.1 G.2.2.2.1 (G.2.2.2.2.1 _ hlink) hP.1 q0 he (x_fcA G) d (kk H locs ls cells slots h1 h2 hP hS hl)
theorem x_copyq (G : GX p l R s m args meth c k A own cc nL ret) {idx a0 a n0 n1 ci : Nat} {f g : Nat → Option Nat} {r : vw_C} {sp dp n : Int32} (ha0 : a0 ∈ h.1) (hf0 : h.2 a0 = .inl (k.2.2.2.2.1, n0, .inr (.inr (.inr (.inr f))))) (ha : a ∈ h.1) (hf : h.2 a = .inl (k.2.2.2.2.1, n1, .inr (.inr (.inr (.inr g))))) (hlink : Cond.methodLink own idx (⟨"java/lang/System", "arraycopy", "(Ljava/lang/Object;ILjava/lang/Object;II)V"⟩ : MethodName) ∈ TB) (hc : vwCl[ci]? = some r) (hca : (r.1, "java/lang/Object") ∈ xs_cast) (g1 : ¬ sp < 0) (g2 : ¬ dp < 0) (g3 : ¬ n < 0) (g4 : sp.toNatClampNeg + n.toNatClampNeg ≤ n0) (g5 : dp.toNatClampNeg + n.toNatClampNeg ≤ n1) (hel : ∀ i : Nat, i < n.toNatClampNeg → ∀ y : Nat, f (sp.toNatClampNeg + i) = some y → y ∈ h.1 ∧ ∃ fs, h.2 y = .inr (ci, fs)) (hfr : 1 ≤ R.frames) (hlo : (st.map fun v => v.category).sum + (nativeFrameWords "java/lang/System" "arraycopy" 5 + 11) ≤ R.locals) (d : decode cc pc = .ok (.invokestatic idx, 3)) (kk : Wx p l e R s m args below meth c k A nL Q bc bs (pc + 3) L st (h.1, va_up h.2 a (.inl (k.2.2.2.2.1, n1, .inr (.inr (.inr (.inr (va_cpy f g sp.toNatClampNeg dp.toNatClampNeg n.toNatClampNeg)))))))) : Wx p l e R s m args below meth c k A nL Q bc bs pc L (.int n :: .int dp :: .ref a :: .int sp :: .ref a0 :: st) h := by
  intro H locs ls cells slots h1 h2 hP hS hl
  obtain ⟨q0, he0⟩ := wl_get ha0 hf0
  obtain ⟨q1, he⟩ := wl_get ha hf
  refine va_copyq (C := r.1) (E0 := "java/lang/Object") (E1 := "java/lang/Object") G.1 G.2.1 (by rw [hl.1]; exact G.2.2.1) G.2.2.2.1 (G.2.2.2.2.1 _ hlink) (G.2.2.2.2.1 _ q_na_arraycopy) (G.2.2.2.2.1 _ q_st_arraycopy) (G.2.2.2.2.1 _ q_in_System) G.2.2.2.2.2.2.1.1 hP.1 hP.2 hS q0 q1 3 3 he0 he rfl rfl g1 g2 g3 g4 g5 (fun i hi y hy => ?_) (fun comp c0 k1 k2 => ?_) hfr hlo d (fun H1 l1 p1 d1 s1 => ?_)
  · obtain ⟨y1, fs, y2⟩ := hel i hi y hy
    obtain ⟨q2, he2⟩ := wl_get y1 y2
    exact va_recv G.2.2.2.2.2.2.1.1 hP.1 hc he2
  · obtain ⟨c1, t1, f1, f2, f3⟩ := Cond.castable_spec (va_Nw.use (A := args) rfl (G.2.2.2.2.2.2.1.2.2.1 _ hca))
    cases f1.symm.trans k2
    cases f2.symm.trans k1
    exact f3
  rw [wl_set hP.2 ha hf he] at p1 d1
  exact kk H1 l1 ls cells slots h1 h2 ⟨p1, d1⟩ s1 hl
theorem x_qlenN (G : GX p l R s m args meth c k A own cc nL ret) {a n : Nat} {f : Nat → Option Nat} (ha : a ∈ h.1) (hf : h.2 a = .inl (k.2.2.2.2.1, n, .inr (.inr (.inr (.inr f))))) (d : decode cc pc = .ok (.arraylength, 1)) (kk : Wx p l e R s m args below meth c k A nL Q bc bs (pc + 1) L (.int (nI n) :: st) h) : Wx p l e R s m args below meth c k A nL Q bc bs pc L (.ref a :: st) h := x_qlen (x := (n, .inr (.inr (.inr (.inr f))))) G ha hf d kk
end JD
theorem nI_0lt {n : Nat} (h0 : 0 < n) (h : n < 2 ^ 31) : 0 < nI n := by
  have h9 := nI_lt h0 h
  rwa [nI_0] at h9
abbrev rm_al_nl : Room := { frames := 1, cells := 0, slots := 0, locals := 40 }
abbrev rm_al_c3 : Room := { frames := 1, cells := 1, slots := 73, locals := 60 }
abbrev rm_al_c2 : Room := { frames := 2, cells := 1, slots := 73, locals := 90 }
abbrev rm_al_g1 : Room := { frames := 3, cells := 1, slots := 73, locals := 120 }
abbrev rm_al_g0 : Room := { frames := 4, cells := 1, slots := 73, locals := 150 }
abbrev rm_al_a3 : Room := { frames := 5, cells := 1, slots := 73, locals := 180 }
abbrev rm_al_ad : Room := { frames := 6, cells := 1, slots := 73, locals := 210 }
theorem dJ8_newLength_cabcc_0 : decode cJ8_newLength_cabcc 0 = .ok (.iload_n 0, 1) := by decide +kernel
theorem dJ8_newLength_cabcc_1 : decode cJ8_newLength_cabcc 1 = .ok (.iload_n 1, 1) := by decide +kernel
theorem dJ8_newLength_cabcc_2 : decode cJ8_newLength_cabcc 2 = .ok (.iload_n 2, 1) := by decide +kernel
theorem dJ8_newLength_cabcc_3 : decode cJ8_newLength_cabcc 3 = .ok (.invokestatic 194, 3) := by decide +kernel
theorem dJ8_newLength_cabcc_6 : decode cJ8_newLength_cabcc 6 = .ok (.iadd, 1) := by decide +kernel
theorem dJ8_newLength_cabcc_7 : decode cJ8_newLength_cabcc 7 = .ok (.istore_n 3, 1) := by decide +kernel
theorem dJ8_newLength_cabcc_8 : decode cJ8_newLength_cabcc 8 = .ok (.iconst 0, 1) := by decide +kernel
theorem dJ8_newLength_cabcc_9 : decode cJ8_newLength_cabcc 9 = .ok (.iload_n 3, 1) := by decide +kernel
theorem dJ8_newLength_cabcc_10 : decode cJ8_newLength_cabcc 10 = .ok (.if_icmp .ge 11, 3) := by decide +kernel
theorem dJ8_newLength_cabcc_13 : decode cJ8_newLength_cabcc 13 = .ok (.iload_n 3, 1) := by decide +kernel
theorem dJ8_newLength_cabcc_14 : decode cJ8_newLength_cabcc 14 = .ok (.ldc 200, 2) := by decide +kernel
theorem dJ8_newLength_cabcc_16 : decode cJ8_newLength_cabcc 16 = .ok (.if_icmp .gt 5, 3) := by decide +kernel
theorem dJ8_newLength_cabcc_19 : decode cJ8_newLength_cabcc 19 = .ok (.iload_n 3, 1) := by decide +kernel
theorem dJ8_newLength_cabcc_20 : decode cJ8_newLength_cabcc 20 = .ok (.ireturn, 1) := by decide +kernel
theorem dJ8_newLength_cabcc_21 : decode cJ8_newLength_cabcc 21 = .ok (.iload_n 0, 1) := by decide +kernel
theorem dJ8_newLength_cabcc_22 : decode cJ8_newLength_cabcc 22 = .ok (.iload_n 1, 1) := by decide +kernel
theorem dJ8_newLength_cabcc_23 : decode cJ8_newLength_cabcc 23 = .ok (.invokestatic 201, 3) := by decide +kernel
theorem dJ8_newLength_cabcc_26 : decode cJ8_newLength_cabcc 26 = .ok (.ireturn, 1) := by decide +kernel
set_option maxRecDepth 100000 in
theorem c_newLen {l : Launch} {k : KC} (hl : l.stackTraces = false) {h : Wd} {o x y r : Int32} (hr : o + (if x < y then y else x) = r) (h1 : 0 < r) (h2 : r ≤ 2147483639) : MC l k yJ8_newLength_cabcc (.code yJ8_newLength_cabcc cJ8_newLength_cabcc 4 (some .int)) rm_al_nl [.int o, .int x, .int y] h (pR (some (.int r)) h) := by
  refine MC.of 1 hl (by decide) (Nat.le_of_ble_eq_true rfl) ?_
  intro p e s m args below meth c A Q G B _ _
  show Wx p l e rm_al_nl s m args below meth c k A 4 Q 0 0 0 [some (.int o), some (.int x), some (.int y), none] [] h
  refine x_iload0 (pc := 0) G dJ8_newLength_cabcc_0 ?_
  refine x_iload1 (pc := 1) G dJ8_newLength_cabcc_1 ?_
  refine x_iload2 (pc := 2) G dJ8_newLength_cabcc_2 ?_
  refine x_mmax (pc := 3) G q_ml_J8_194 q_st_max q_in_J9 q_co_max (Nat.le_of_ble_eq_true rfl) (Nat.le_of_ble_eq_true rfl) dJ8_newLength_cabcc_3 ?_
  refine x_iadd (pc := 6) G dJ8_newLength_cabcc_6 ?_
  rw [hr]
  refine x_istore3 (pc := 7) G dJ8_newLength_cabcc_7 (Nat.le_of_ble_eq_true rfl) rfl ?_
  refine x_iconst (pc := 8) (v := 0) G dJ8_newLength_cabcc_8 ic_0 ?_
  refine x_iload3 (pc := 9) G dJ8_newLength_cabcc_9 ?_
  refine x_icmp_ge (pc := 10) (tgt := 21) G dJ8_newLength_cabcc_10 rfl (fun q => absurd h1 (Int32.not_lt.mpr q)) (fun _ => ?_)
  refine x_iload3 (pc := 13) G dJ8_newLength_cabcc_13 ?_
  refine x_ldc (pc := 14) (v := 2147483639) G q_cs_J8_200 dJ8_newLength_cabcc_14 ?_
  refine x_icmp_gt (pc := 16) (tgt := 21) G dJ8_newLength_cabcc_16 rfl (fun q => absurd q (Int32.not_lt.mpr h2)) (fun _ => ?_)
  refine x_iload3 (pc := 19) G dJ8_newLength_cabcc_19 ?_
  exact x_iret G B rfl dJ8_newLength_cabcc_20 ⟨rfl, rfl⟩
theorem dJ7_copyOf_6403c_0 : decode cJ7_copyOf_6403c 0 = .ok (.aload_n 2, 1) := by decide +kernel
theorem dJ7_copyOf_6403c_1 : decode cJ7_copyOf_6403c 1 = .ok (.ldc 110, 2) := by decide +kernel
theorem dJ7_copyOf_6403c_3 : decode cJ7_copyOf_6403c 3 = .ok (.if_acmp .ne 10, 3) := by decide +kernel
theorem dJ7_copyOf_6403c_6 : decode cJ7_copyOf_6403c 6 = .ok (.iload_n 1, 1) := by decide +kernel
theorem dJ7_copyOf_6403c_7 : decode cJ7_copyOf_6403c 7 = .ok (.anewarray 2, 3) := by decide +kernel
theorem dJ7_copyOf_6403c_10 : decode cJ7_copyOf_6403c 10 = .ok (.goto 14, 3) := by decide +kernel
theorem dJ7_copyOf_6403c_13 : decode cJ7_copyOf_6403c 13 = .ok (.aload_n 2, 1) := by decide +kernel
theorem dJ7_copyOf_6403c_14 : decode cJ7_copyOf_6403c 14 = .ok (.invokevirtual 90, 3) := by decide +kernel
theorem dJ7_copyOf_6403c_17 : decode cJ7_copyOf_6403c 17 = .ok (.iload_n 1, 1) := by decide +kernel
theorem dJ7_copyOf_6403c_18 : decode cJ7_copyOf_6403c 18 = .ok (.invokestatic 95, 3) := by decide +kernel
theorem dJ7_copyOf_6403c_21 : decode cJ7_copyOf_6403c 21 = .ok (.checkcast 110, 3) := by decide +kernel
theorem dJ7_copyOf_6403c_24 : decode cJ7_copyOf_6403c 24 = .ok (.astore_n 3, 1) := by decide +kernel
theorem dJ7_copyOf_6403c_25 : decode cJ7_copyOf_6403c 25 = .ok (.aload_n 0, 1) := by decide +kernel
theorem dJ7_copyOf_6403c_26 : decode cJ7_copyOf_6403c 26 = .ok (.iconst 0, 1) := by decide +kernel
theorem dJ7_copyOf_6403c_27 : decode cJ7_copyOf_6403c 27 = .ok (.aload_n 3, 1) := by decide +kernel
theorem dJ7_copyOf_6403c_28 : decode cJ7_copyOf_6403c 28 = .ok (.iconst 0, 1) := by decide +kernel
theorem dJ7_copyOf_6403c_29 : decode cJ7_copyOf_6403c 29 = .ok (.aload_n 0, 1) := by decide +kernel
theorem dJ7_copyOf_6403c_30 : decode cJ7_copyOf_6403c 30 = .ok (.arraylength, 1) := by decide +kernel
theorem dJ7_copyOf_6403c_31 : decode cJ7_copyOf_6403c 31 = .ok (.iload_n 1, 1) := by decide +kernel
theorem dJ7_copyOf_6403c_32 : decode cJ7_copyOf_6403c 32 = .ok (.invokestatic 304, 3) := by decide +kernel
theorem dJ7_copyOf_6403c_35 : decode cJ7_copyOf_6403c 35 = .ok (.invokestatic 150, 3) := by decide +kernel
theorem dJ7_copyOf_6403c_38 : decode cJ7_copyOf_6403c 38 = .ok (.aload_n 3, 1) := by decide +kernel
theorem dJ7_copyOf_6403c_39 : decode cJ7_copyOf_6403c 39 = .ok (.areturn, 1) := by decide +kernel
theorem cpy_eq {f : Nat → Option Nat} {N0 : Nat} : va_cpy f (fun _ => none) 0 0 N0 = (fun i => if i < N0 then f i else none) := by
  funext i
  unfold va_cpy
  by_cases h : i < N0
  · rw [if_pos ⟨Nat.zero_le _, by omega⟩, if_pos h]; simp
  · rw [if_neg (by omega), if_neg h]
theorem mem_ap {L : List Nat} {a q : Nat} (h : a ∈ L) : a ∈ L ++ [q] := List.mem_append_left _ h
theorem ne_of {L : List Nat} {a q : Nat} (h : a ∈ L) (hq : q ∉ L) : a ≠ q := fun e => hq (e ▸ h)
theorem up_up {α : Type} {f : Nat → α} {a : Nat} {x y : α} : va_up (va_up f a x) a y = va_up f a y := by
  funext j
  unfold va_up
  split <;> rfl
set_option maxRecDepth 100000 in
theorem c_cpy3 {l : Launch} {k : KC} (hl : l.stackTraces = false) {h : Wd} {a0 N0 M : Nat} {f : Nat → Option Nat} (ha0 : a0 ∈ h.1) (hf0 : h.2 a0 = .inl (k.2.2.2.2.1, N0, .inr (.inr (.inr (.inr f))))) (hM : N0 ≤ M) (hM2 : M ≤ 73) {ci : Nat} {r : vw_C} (hc : vwCl[ci]? = some r) (hca : (r.1, "java/lang/Object") ∈ xs_cast) (hel : ∀ i : Nat, i < N0 → ∀ y : Nat, f i = some y → y ∈ h.1 ∧ ∃ fs, h.2 y = .inr (ci, fs)) : MC l k yJ7_copyOf_6403c (.code yJ7_copyOf_6403c cJ7_copyOf_6403c 4 (some (.array (.object "java/lang/Object")))) rm_al_c3 [.ref a0, .int (nI M), .ref k.2.2.2.2.2.2] h (fun o h' => ∃ q, q ∉ h.1 ∧ o = .inl (some (.ref q)) ∧ h' = (h.1 ++ [q], va_up h.2 q (.inl (k.2.2.2.2.1, M, .inr (.inr (.inr (.inr (fun i => if i < N0 then f i else none)))))))) := by
  refine MC.of 1 hl (by decide) (Nat.le_of_ble_eq_true rfl) ?_
  intro p e s m args below meth c A Q G B _ _
  show Wx p l e rm_al_c3 s m args below meth c k A 4 Q 1 73 0 [some (.ref a0), some (.int (nI M)), some (.ref k.2.2.2.2.2.2), none] [] h
  refine x_aload2 (pc := 0) G dJ7_copyOf_6403c_0 ?_
  refine x_ldcMA (pc := 1) G q_cl_J7_110 dJ7_copyOf_6403c_1 ?_
  refine x_acmp_ne (pc := 3) (rx := some k.2.2.2.2.2.2) (ry := some k.2.2.2.2.2.2) (tgt := 13) G dJ7_copyOf_6403c_3 rfl (fun q => absurd rfl q) (fun _ => ?_)
  refine x_iload1 (pc := 6) G dJ7_copyOf_6403c_6 ?_
  refine x_qnewa (pc := 7) (N := M) (bc1 := 0) (bs1 := 73 - M) G q_cl_J7_2 (nI_pos (by omega)) (nI_clamp (by omega)) (by omega) (by omega) (by omega) dJ7_copyOf_6403c_7 (fun q hq => ?_)
  refine x_goto (pc := 10) (tgt := 24) G dJ7_copyOf_6403c_10 rfl ?_
  refine x_astore3 (pc := 24) G dJ7_copyOf_6403c_24 (Nat.le_of_ble_eq_true rfl) rfl ?_
  refine x_aload0 (pc := 25) G dJ7_copyOf_6403c_25 ?_
  refine x_iconst (pc := 26) (v := 0) G dJ7_copyOf_6403c_26 ic_0 ?_
  refine x_aload3 (pc := 27) G dJ7_copyOf_6403c_27 ?_
  refine x_iconst (pc := 28) (v := 0) G dJ7_copyOf_6403c_28 ic_0 ?_
  refine x_aload0 (pc := 29) G dJ7_copyOf_6403c_29 ?_
  have hne := ne_of ha0 hq
  have hf1 : (va_up h.2 q (.inl (k.2.2.2.2.1, M, .inr (.inr (.inr (.inr (fun _ => none))))))) a0 = .inl (k.2.2.2.2.1, N0, .inr (.inr (.inr (.inr f)))) := (va_up_ne _ _ hne).trans hf0
  refine x_qlenN (pc := 30) (n := N0) G (mem_ap ha0) hf1 dJ7_copyOf_6403c_30 ?_
  refine x_iload1 (pc := 31) G dJ7_copyOf_6403c_31 ?_
  refine x_mmin (pc := 32) G q_ml_J7_304 q_st_min q_in_J9 q_co_min (Nat.le_of_ble_eq_true rfl) (Nat.le_of_ble_eq_true rfl) dJ7_copyOf_6403c_32 ?_
  rw [show (if nI M < nI N0 then nI M else nI N0) = nI N0 from if_neg (fun q => by have := (nI_ltI (by omega) (by omega)).mp q; omega)]
  have hcl : (nI N0).toNatClampNeg = N0 := nI_clamp (by omega)
  have hcz : (0 : Int32).toNatClampNeg = 0 := by decide
  refine x_copyq (pc := 35) (ci := ci) (n0 := N0) (n1 := M) (f := f) (g := fun _ => none) G (mem_ap ha0) hf1 (List.mem_append_right _ List.mem_cons_self) (va_up_self _ _ _) q_ml_J7_150 hc hca (by decide) (by decide) (nI_pos (by omega)) (by rw [hcl, hcz]; omega) (by rw [hcl, hcz]; omega) (fun i hi y hy => ?_) (Nat.le_of_ble_eq_true rfl) (Nat.le_of_ble_eq_true rfl) dJ7_copyOf_6403c_35 ?_
  · rw [hcl] at hi
    rw [hcz, Nat.zero_add] at hy
    obtain ⟨y1, fs, y2⟩ := hel i hi y hy
    exact ⟨mem_ap y1, fs, (va_up_ne _ _ (ne_of y1 hq)).trans y2⟩
  rw [hcl, hcz, cpy_eq]
  refine x_aload3 (pc := 38) G dJ7_copyOf_6403c_38 ?_
  exact x_aret G B rfl (Or.inr ⟨_, rfl⟩) (Or.inr ⟨_, rfl⟩) dJ7_copyOf_6403c_39 ⟨q, hq, rfl, by rw [up_up]⟩
theorem dJ7_copyOf_1904c_0 : decode cJ7_copyOf_1904c 0 = .ok (.aload_n 0, 1) := by decide +kernel
theorem dJ7_copyOf_1904c_1 : decode cJ7_copyOf_1904c 1 = .ok (.iload_n 1, 1) := by decide +kernel
theorem dJ7_copyOf_1904c_2 : decode cJ7_copyOf_1904c 2 = .ok (.aload_n 0, 1) := by decide +kernel
theorem dJ7_copyOf_1904c_3 : decode cJ7_copyOf_1904c 3 = .ok (.invokevirtual 86, 3) := by decide +kernel
theorem dJ7_copyOf_1904c_6 : decode cJ7_copyOf_1904c 6 = .ok (.invokestatic 300, 3) := by decide +kernel
theorem dJ7_copyOf_1904c_9 : decode cJ7_copyOf_1904c 9 = .ok (.areturn, 1) := by decide +kernel
set_option maxRecDepth 100000 in
theorem c_cpy2 {l : Launch} {k : KC} (hl : l.stackTraces = false) {h : Wd} {a0 N0 M : Nat} {f : Nat → Option Nat} (ha0 : a0 ∈ h.1) (hf0 : h.2 a0 = .inl (k.2.2.2.2.1, N0, .inr (.inr (.inr (.inr f))))) (hM : N0 ≤ M) (hM2 : M ≤ 73) {ci : Nat} {r : vw_C} (hc : vwCl[ci]? = some r) (hca : (r.1, "java/lang/Object") ∈ xs_cast) (hel : ∀ i : Nat, i < N0 → ∀ y : Nat, f i = some y → y ∈ h.1 ∧ ∃ fs, h.2 y = .inr (ci, fs)) : MC l k yJ7_copyOf_1904c (.code yJ7_copyOf_1904c cJ7_copyOf_1904c 2 (some (.array (.object "java/lang/Object")))) rm_al_c2 [.ref a0, .int (nI M)] h (fun o h' => ∃ q, q ∉ h.1 ∧ o = .inl (some (.ref q)) ∧ h' = (h.1 ++ [q], va_up h.2 q (.inl (k.2.2.2.2.1, M, .inr (.inr (.inr (.inr (fun i => if i < N0 then f i else none)))))))) := by
  refine MC.of 0 hl (by decide) (Nat.le_of_ble_eq_true rfl) ?_
  intro p e s m args below meth c A Q G B _ _
  show Wx p l e rm_al_c2 s m args below meth c k A 2 Q 1 73 0 [some (.ref a0), some (.int (nI M))] [] h
  refine x_aload0 (pc := 0) G dJ7_copyOf_1904c_0 ?_
  refine x_iload1 (pc := 1) G dJ7_copyOf_1904c_1 ?_
  refine x_aload0 (pc := 2) G dJ7_copyOf_1904c_2 ?_
  refine x_getCA (pc := 3) (x := (N0, .inr (.inr (.inr (.inr f))))) G ha0 hf0 q_ml_J7_86 (Nat.le_of_ble_eq_true rfl) (Nat.le_of_ble_eq_true rfl) dJ7_copyOf_1904c_3 ?_
  refine x_callS (pc := 6) (n := 3) (As := [.ref a0, .int (nI M), .ref k.2.2.2.2.2.2]) (st := []) G (c_cpy3 hl ha0 hf0 hM hM2 hc hca hel) q_ml_J7_300 h_J7_copyOf_6403c.1 h_J7_copyOf_6403c.2.1 h_J7_copyOf_6403c.2.2.1 h_J7_copyOf_6403c.2.2.2 ⟨Nat.le_of_ble_eq_true rfl, Nat.le_of_ble_eq_true rfl⟩ (Nat.le_of_ble_eq_true rfl) (Nat.le_refl _) (Nat.le_refl _) rfl rfl dJ7_copyOf_1904c_6 (fun v h9 hp => ?_) (fun E h9 hp => ?_)
  · obtain ⟨q, hq, e1, rfl⟩ := hp
    cases e1
    exact x_aret G B rfl (Or.inr ⟨_, rfl⟩) (Or.inr ⟨_, rfl⟩) dJ7_copyOf_1904c_9 ⟨q, hq, rfl, rfl⟩
  · obtain ⟨q, hq, e1, -⟩ := hp
    cases e1
theorem dJx4a65c_grow_92f84_0 : decode cJx4a65c_grow_92f84 0 = .ok (.aload_n 0, 1) := by decide +kernel
theorem dJx4a65c_grow_92f84_1 : decode cJx4a65c_grow_92f84 1 = .ok (.getfield 9, 3) := by decide +kernel
theorem dJx4a65c_grow_92f84_4 : decode cJx4a65c_grow_92f84 4 = .ok (.arraylength, 1) := by decide +kernel
theorem dJx4a65c_grow_92f84_5 : decode cJx4a65c_grow_92f84 5 = .ok (.istore_n 2, 1) := by decide +kernel
theorem dJx4a65c_grow_92f84_6 : decode cJx4a65c_grow_92f84 6 = .ok (.iload_n 2, 1) := by decide +kernel
theorem dJx4a65c_grow_92f84_7 : decode cJx4a65c_grow_92f84 7 = .ok (.ifCond .gt 13, 3) := by decide +kernel
theorem dJx4a65c_grow_92f84_10 : decode cJx4a65c_grow_92f84 10 = .ok (.aload_n 0, 1) := by decide +kernel
theorem dJx4a65c_grow_92f84_11 : decode cJx4a65c_grow_92f84 11 = .ok (.getfield 9, 3) := by decide +kernel
theorem dJx4a65c_grow_92f84_14 : decode cJx4a65c_grow_92f84 14 = .ok (.getstatic 39, 3) := by decide +kernel
theorem dJx4a65c_grow_92f84_17 : decode cJx4a65c_grow_92f84 17 = .ok (.if_acmp .eq 28, 3) := by decide +kernel
theorem dJx4a65c_grow_92f84_20 : decode cJx4a65c_grow_92f84 20 = .ok (.iload_n 2, 1) := by decide +kernel
theorem dJx4a65c_grow_92f84_21 : decode cJx4a65c_grow_92f84 21 = .ok (.iload_n 1, 1) := by decide +kernel
theorem dJx4a65c_grow_92f84_22 : decode cJx4a65c_grow_92f84 22 = .ok (.iload_n 2, 1) := by decide +kernel
theorem dJx4a65c_grow_92f84_23 : decode cJx4a65c_grow_92f84 23 = .ok (.isub, 1) := by decide +kernel
theorem dJx4a65c_grow_92f84_24 : decode cJx4a65c_grow_92f84 24 = .ok (.iload_n 2, 1) := by decide +kernel
theorem dJx4a65c_grow_92f84_25 : decode cJx4a65c_grow_92f84 25 = .ok (.iconst 1, 1) := by decide +kernel
theorem dJx4a65c_grow_92f84_26 : decode cJx4a65c_grow_92f84 26 = .ok (.ishr, 1) := by decide +kernel
theorem dJx4a65c_grow_92f84_27 : decode cJx4a65c_grow_92f84 27 = .ok (.invokestatic 73, 3) := by decide +kernel
theorem dJx4a65c_grow_92f84_30 : decode cJx4a65c_grow_92f84 30 = .ok (.istore_n 3, 1) := by decide +kernel
theorem dJx4a65c_grow_92f84_31 : decode cJx4a65c_grow_92f84 31 = .ok (.aload_n 0, 1) := by decide +kernel
theorem dJx4a65c_grow_92f84_32 : decode cJx4a65c_grow_92f84 32 = .ok (.aload_n 0, 1) := by decide +kernel
theorem dJx4a65c_grow_92f84_33 : decode cJx4a65c_grow_92f84 33 = .ok (.getfield 9, 3) := by decide +kernel
theorem dJx4a65c_grow_92f84_36 : decode cJx4a65c_grow_92f84 36 = .ok (.iload_n 3, 1) := by decide +kernel
theorem dJx4a65c_grow_92f84_37 : decode cJx4a65c_grow_92f84 37 = .ok (.invokestatic 66, 3) := by decide +kernel
theorem dJx4a65c_grow_92f84_40 : decode cJx4a65c_grow_92f84 40 = .ok (.dup_x1, 1) := by decide +kernel
theorem dJx4a65c_grow_92f84_41 : decode cJx4a65c_grow_92f84 41 = .ok (.putfield 9, 3) := by decide +kernel
theorem dJx4a65c_grow_92f84_44 : decode cJx4a65c_grow_92f84 44 = .ok (.areturn, 1) := by decide +kernel
theorem dJx4a65c_grow_92f84_45 : decode cJx4a65c_grow_92f84 45 = .ok (.aload_n 0, 1) := by decide +kernel
theorem dJx4a65c_grow_92f84_46 : decode cJx4a65c_grow_92f84 46 = .ok (.bipush 10, 2) := by decide +kernel
theorem dJx4a65c_grow_92f84_48 : decode cJx4a65c_grow_92f84 48 = .ok (.iload_n 1, 1) := by decide +kernel
theorem dJx4a65c_grow_92f84_49 : decode cJx4a65c_grow_92f84 49 = .ok (.invokestatic 79, 3) := by decide +kernel
theorem dJx4a65c_grow_92f84_52 : decode cJx4a65c_grow_92f84 52 = .ok (.anewarray 7, 3) := by decide +kernel
theorem dJx4a65c_grow_92f84_55 : decode cJx4a65c_grow_92f84 55 = .ok (.dup_x1, 1) := by decide +kernel
theorem dJx4a65c_grow_92f84_56 : decode cJx4a65c_grow_92f84 56 = .ok (.putfield 9, 3) := by decide +kernel
theorem dJx4a65c_grow_92f84_59 : decode cJx4a65c_grow_92f84 59 = .ok (.areturn, 1) := by decide +kernel
set_option maxRecDepth 100000 in
theorem c_grow1 {l : Launch} {k : KC} (hl : l.stackTraces = false) {h : Wd} {a0 N0 M : Nat} {f : Nat → Option Nat} (ha0 : a0 ∈ h.1) (hf0 : h.2 a0 = .inl (k.2.2.2.2.1, N0, .inr (.inr (.inr (.inr f))))) (hN0 : 0 < N0) (hM : N0 ≤ M) (hM2 : M ≤ 73) {ci : Nat} {r : vw_C} (hc : vwCl[ci]? = some r) (hca : (r.1, "java/lang/Object") ∈ xs_cast) (hel : ∀ i : Nat, i < N0 → ∀ y : Nat, f i = some y → y ∈ h.1 ∧ ∃ fs, h.2 y = .inr (ci, fs)) {b : Nat} {mc sz : Int32} (hb : b ∈ h.1) (hf : h.2 b = .inr (0, [.int mc, .ref a0, .int sz])) {mn : Int32} (hn : nI N0 + (if mn - nI N0 < nI N0 >>> ((1 : Int32) &&& 31) then nI N0 >>> ((1 : Int32) &&& 31) else mn - nI N0) = nI M) : MC l k yJx4a65c_grow_92f84 (.code yJx4a65c_grow_92f84 cJx4a65c_grow_92f84 4 (some (.array (.object "java/lang/Object")))) rm_al_g1 [.ref b, .int mn] h (fun o h' => ∃ q, q ∉ h.1 ∧ o = .inl (some (.ref q)) ∧ h' = (h.1 ++ [q], va_up (va_up h.2 q (.inl (k.2.2.2.2.1, M, .inr (.inr (.inr (.inr (fun i => if i < N0 then f i else none))))))) b (.inr (0, [.int mc, .ref q, .int sz])))) := by
  refine MC.of 2 hl (by decide) (Nat.le_of_ble_eq_true rfl) ?_
  intro p e s m args below meth c A Q G B _ _
  show Wx p l e rm_al_g1 s m args below meth c k A 4 Q 1 73 0 [some (.ref b), some (.int mn), none, none] [] h
  refine x_aload0 (pc := 0) G dJx4a65c_grow_92f84_0 ?_
  refine x_getf (pc := 1) (j := 1) G hb hf (ci := 0) (fs := [.int mc, .ref a0, .int sz]) (C := RJx4a65c) (T := TJx4a65c) (N := 3) rfl i_Jx4a65c (by decide) q_fl_Jx4a65c_9 (fun _ h => h) rfl dJx4a65c_grow_92f84_1 ?_
  refine x_qlenN (pc := 4) (n := N0) G ha0 hf0 dJx4a65c_grow_92f84_4 ?_
  refine x_istore2 (pc := 5) G dJx4a65c_grow_92f84_5 (Nat.le_of_ble_eq_true rfl) rfl ?_
  refine x_iload2 (pc := 6) G dJx4a65c_grow_92f84_6 ?_
  refine x_if_gt (pc := 7) (y := 0) (tgt := 20) G dJx4a65c_grow_92f84_7 rfl (fun _ => ?_) (fun q => absurd (nI_0lt hN0 (by omega)) q)
  refine x_iload2 (pc := 20) G dJx4a65c_grow_92f84_20 ?_
  refine x_iload1 (pc := 21) G dJx4a65c_grow_92f84_21 ?_
  refine x_iload2 (pc := 22) G dJx4a65c_grow_92f84_22 ?_
  refine x_isub (pc := 23) G dJx4a65c_grow_92f84_23 ?_
  refine x_iload2 (pc := 24) G dJx4a65c_grow_92f84_24 ?_
  refine x_iconst (pc := 25) (v := 1) G dJx4a65c_grow_92f84_25 ic_1 ?_
  refine x_ishr (pc := 26) G dJx4a65c_grow_92f84_26 ?_
  refine x_cS3 (pc := 27) G (c_newLen hl hn (nI_0lt (by omega) (by omega)) (show nI M ≤ nI 2147483639 from nI_le (by omega) (by decide))) q_ml_Jx4a65c_73 h_J8_newLength_cabcc ⟨Nat.le_of_ble_eq_true rfl, Nat.le_of_ble_eq_true rfl⟩ (Nat.le_of_ble_eq_true rfl) (Nat.le_refl _) (Nat.le_refl _) dJx4a65c_grow_92f84_27 ?_
  refine x_istore3 (pc := 30) G dJx4a65c_grow_92f84_30 (Nat.le_of_ble_eq_true rfl) rfl ?_
  refine x_aload0 (pc := 31) G dJx4a65c_grow_92f84_31 ?_
  refine x_aload0 (pc := 32) G dJx4a65c_grow_92f84_32 ?_
  refine x_getf (pc := 33) (j := 1) G hb hf (ci := 0) (fs := [.int mc, .ref a0, .int sz]) (C := RJx4a65c) (T := TJx4a65c) (N := 3) rfl i_Jx4a65c (by decide) q_fl_Jx4a65c_9 (fun _ h => h) rfl dJx4a65c_grow_92f84_33 ?_
  refine x_iload3 (pc := 36) G dJx4a65c_grow_92f84_36 ?_
  refine x_callS (pc := 37) (n := 2) (As := [.ref a0, .int (nI M)]) (st := [.ref b]) G (c_cpy2 hl ha0 hf0 hM hM2 hc hca hel) q_ml_Jx4a65c_66 h_J7_copyOf_1904c.1 h_J7_copyOf_1904c.2.1 h_J7_copyOf_1904c.2.2.1 h_J7_copyOf_1904c.2.2.2 ⟨Nat.le_of_ble_eq_true rfl, Nat.le_of_ble_eq_true rfl⟩ (Nat.le_of_ble_eq_true rfl) (Nat.le_refl _) (Nat.le_refl _) rfl rfl dJx4a65c_grow_92f84_37 (fun v h9 hp => ?_) (fun E h9 hp => ?_)
  · obtain ⟨q, hq, e1, rfl⟩ := hp
    cases e1
    have hne := ne_of hb hq
    refine x_dup_x1 (pc := 40) G dJx4a65c_grow_92f84_40 rfl rfl ?_
    refine x_putf (pc := 41) (j := 1) G (mem_ap hb) ((va_up_ne _ _ hne).trans hf) (ci := 0) (fs := [.int mc, .ref a0, .int sz]) (C := RJx4a65c) (T := TJx4a65c) (N := 3) rfl i_Jx4a65c (by decide) q_fl_Jx4a65c_9 (fun _ h => h) tyJx4a65c tyJx4a65c_ok nmJx4a65c rfl rfl rfl (Nat.le_of_ble_eq_true rfl) dJx4a65c_grow_92f84_41 ?_
    exact x_aret G B rfl (Or.inr ⟨_, rfl⟩) (Or.inr ⟨_, rfl⟩) dJx4a65c_grow_92f84_44 ⟨q, hq, rfl, rfl⟩
  · obtain ⟨q, hq, e1, -⟩ := hp
    cases e1
set_option maxRecDepth 100000 in
theorem c_grow1z {l : Launch} {k : KC} (hl : l.stackTraces = false) {h : Wd} {b : Nat} {mc sz : Int32} (hb : b ∈ h.1) (hf : h.2 b = .inr (0, [.int mc, .ref k.2.2.2.2.2.1, .int sz])) {mn : Int32} (hn : (if (10 : Int32) < mn then mn else 10) = 10) : MC l k yJx4a65c_grow_92f84 (.code yJx4a65c_grow_92f84 cJx4a65c_grow_92f84 4 (some (.array (.object "java/lang/Object")))) rm_al_g1 [.ref b, .int mn] h (fun o h' => ∃ q, q ∉ h.1 ∧ o = .inl (some (.ref q)) ∧ h' = (h.1 ++ [q], va_up (va_up h.2 q (.inl (k.2.2.2.2.1, 10, .inr (.inr (.inr (.inr (fun _ => none))))))) b (.inr (0, [.int mc, .ref q, .int sz])))) := by
  refine MC.of 2 hl (by decide) (Nat.le_of_ble_eq_true rfl) ?_
  intro p e s m args below meth c A Q G B _ _
  show Wx p l e rm_al_g1 s m args below meth c k A 4 Q 1 73 0 [some (.ref b), some (.int mn), none, none] [] h
  refine x_aload0 (pc := 0) G dJx4a65c_grow_92f84_0 ?_
  refine x_getf (pc := 1) (j := 1) G hb hf (ci := 0) (fs := [.int mc, .ref k.2.2.2.2.2.1, .int sz]) (C := RJx4a65c) (T := TJx4a65c) (N := 3) rfl i_Jx4a65c (by decide) q_fl_Jx4a65c_9 (fun _ h => h) rfl dJx4a65c_grow_92f84_1 ?_
  refine x_zzlen (pc := 4) G rfl dJx4a65c_grow_92f84_4 ?_
  refine x_istore2 (pc := 5) G dJx4a65c_grow_92f84_5 (Nat.le_of_ble_eq_true rfl) rfl ?_
  refine x_iload2 (pc := 6) G dJx4a65c_grow_92f84_6 ?_
  refine x_if_gt (pc := 7) (y := 0) (tgt := 20) G dJx4a65c_grow_92f84_7 rfl (fun q => absurd q (by decide)) (fun _ => ?_)
  refine x_aload0 (pc := 10) G dJx4a65c_grow_92f84_10 ?_
  refine x_getf (pc := 11) (j := 1) G hb hf (ci := 0) (fs := [.int mc, .ref k.2.2.2.2.2.1, .int sz]) (C := RJx4a65c) (T := TJx4a65c) (N := 3) rfl i_Jx4a65c (by decide) q_fl_Jx4a65c_9 (fun _ h => h) rfl dJx4a65c_grow_92f84_11 ?_
  refine x_getz (pc := 14) G q_fl_Jx4a65c_39 dJx4a65c_grow_92f84_14 ?_
  refine x_acmp_eq (pc := 17) (rx := some k.2.2.2.2.2.1) (ry := some k.2.2.2.2.2.1) (tgt := 45) G dJx4a65c_grow_92f84_17 rfl (fun _ => ?_) (fun q => absurd rfl q)
  refine x_aload0 (pc := 45) G dJx4a65c_grow_92f84_45 ?_
  refine x_bipush (pc := 46) (v := 10) G dJx4a65c_grow_92f84_46 bp_10 ?_
  refine x_iload1 (pc := 48) G dJx4a65c_grow_92f84_48 ?_
  refine x_mmax (pc := 49) G q_ml_Jx4a65c_79 q_st_max q_in_J9 q_co_max (Nat.le_of_ble_eq_true rfl) (Nat.le_of_ble_eq_true rfl) dJx4a65c_grow_92f84_49 ?_
  rw [hn]
  refine x_qnewa (pc := 52) (N := 10) (bc1 := 0) (bs1 := 63) G q_cl_Jx4a65c_7 (by decide) (by decide) (by decide) (by decide) (by decide) dJx4a65c_grow_92f84_52 (fun q hq => ?_)
  have hne := ne_of hb hq
  refine x_dup_x1 (pc := 55) G dJx4a65c_grow_92f84_55 rfl rfl ?_
  refine x_putf (pc := 56) (j := 1) G (mem_ap hb) ((va_up_ne _ _ hne).trans hf) (ci := 0) (fs := [.int mc, .ref k.2.2.2.2.2.1, .int sz]) (C := RJx4a65c) (T := TJx4a65c) (N := 3) rfl i_Jx4a65c (by decide) q_fl_Jx4a65c_9 (fun _ h => h) tyJx4a65c tyJx4a65c_ok nmJx4a65c rfl rfl rfl (Nat.le_of_ble_eq_true rfl) dJx4a65c_grow_92f84_56 ?_
  exact x_aret G B rfl (Or.inr ⟨_, rfl⟩) (Or.inr ⟨_, rfl⟩) dJx4a65c_grow_92f84_59 ⟨q, hq, rfl, rfl⟩
theorem dJx4a65c_grow_d5877_0 : decode cJx4a65c_grow_d5877 0 = .ok (.aload_n 0, 1) := by decide +kernel
theorem dJx4a65c_grow_d5877_1 : decode cJx4a65c_grow_d5877 1 = .ok (.aload_n 0, 1) := by decide +kernel
theorem dJx4a65c_grow_d5877_2 : decode cJx4a65c_grow_d5877 2 = .ok (.getfield 48, 3) := by decide +kernel
theorem dJx4a65c_grow_d5877_5 : decode cJx4a65c_grow_d5877 5 = .ok (.iconst 1, 1) := by decide +kernel
theorem dJx4a65c_grow_d5877_6 : decode cJx4a65c_grow_d5877 6 = .ok (.iadd, 1) := by decide +kernel
theorem dJx4a65c_grow_d5877_7 : decode cJx4a65c_grow_d5877 7 = .ok (.invokevirtual 69, 3) := by decide +kernel
theorem dJx4a65c_grow_d5877_10 : decode cJx4a65c_grow_d5877 10 = .ok (.areturn, 1) := by decide +kernel
set_option maxRecDepth 100000 in
theorem c_grow0 {l : Launch} {k : KC} (hl : l.stackTraces = false) {h : Wd} {a0 N0 M : Nat} {f : Nat → Option Nat} (ha0 : a0 ∈ h.1) (hf0 : h.2 a0 = .inl (k.2.2.2.2.1, N0, .inr (.inr (.inr (.inr f))))) (hN0 : 0 < N0) (hM : N0 ≤ M) (hM2 : M ≤ 73) {ci : Nat} {r : vw_C} (hc : vwCl[ci]? = some r) (hca : (r.1, "java/lang/Object") ∈ xs_cast) (hel : ∀ i : Nat, i < N0 → ∀ y : Nat, f i = some y → y ∈ h.1 ∧ ∃ fs, h.2 y = .inr (ci, fs)) {b : Nat} {mc sz : Int32} (hb : b ∈ h.1) (hf : h.2 b = .inr (0, [.int mc, .ref a0, .int sz])) (hn : nI N0 + (if sz + (1 : Int32) - nI N0 < nI N0 >>> ((1 : Int32) &&& 31) then nI N0 >>> ((1 : Int32) &&& 31) else sz + (1 : Int32) - nI N0) = nI M) : MC l k yJx4a65c_grow_d5877 (.code yJx4a65c_grow_d5877 cJx4a65c_grow_d5877 1 (some (.array (.object "java/lang/Object")))) rm_al_g0 [.ref b] h (fun o h' => ∃ q, q ∉ h.1 ∧ o = .inl (some (.ref q)) ∧ h' = (h.1 ++ [q], va_up (va_up h.2 q (.inl (k.2.2.2.2.1, M, .inr (.inr (.inr (.inr (fun i => if i < N0 then f i else none))))))) b (.inr (0, [.int mc, .ref q, .int sz])))) := by
  refine MC.of 0 hl (by decide) (Nat.le_of_ble_eq_true rfl) ?_
  intro p e s m args below meth c A Q G B _ _
  show Wx p l e rm_al_g0 s m args below meth c k A 1 Q 1 73 0 [some (.ref b)] [] h
  refine x_aload0 (pc := 0) G dJx4a65c_grow_d5877_0 ?_
  refine x_aload0 (pc := 1) G dJx4a65c_grow_d5877_1 ?_
  refine x_getf (pc := 2) (j := 2) G hb hf (ci := 0) (fs := [.int mc, .ref a0, .int sz]) (C := RJx4a65c) (T := TJx4a65c) (N := 3) rfl i_Jx4a65c (by decide) q_fl_Jx4a65c_48 (fun _ h => h) rfl dJx4a65c_grow_d5877_2 ?_
  refine x_iconst (pc := 5) (v := 1) G dJx4a65c_grow_d5877_5 ic_1 ?_
  refine x_iadd (pc := 6) G dJx4a65c_grow_d5877_6 ?_
  have hv := h_Jx4a65c_grow_92f84
  refine x_callV (pc := 7) (n := 1) (ci := 0) (T := TJx4a65c) (N := 3) (As := [.int (sz + 1)]) (st := []) G (c_grow1 hl ha0 hf0 hN0 hM hM2 hc hca hel hb hf hn) hb hf rfl q_ml_Jx4a65c_69 hv.1 hv.2.1 hv.2.2.1 hv.2.2.2.1 hv.2.2.2.2 ⟨Nat.le_of_ble_eq_true rfl, Nat.le_of_ble_eq_true rfl⟩ (Nat.le_of_ble_eq_true rfl) (Nat.le_refl _) (Nat.le_refl _) rfl rfl dJx4a65c_grow_d5877_7 (fun v h9 hp => ?_) (fun E h9 hp => ?_)
  · obtain ⟨q, hq, e1, rfl⟩ := hp
    cases e1
    exact x_aret G B rfl (Or.inr ⟨_, rfl⟩) (Or.inr ⟨_, rfl⟩) dJx4a65c_grow_d5877_10 ⟨q, hq, rfl, rfl⟩
  · obtain ⟨q, hq, e1, -⟩ := hp
    cases e1
set_option maxRecDepth 100000 in
theorem c_grow0z {l : Launch} {k : KC} (hl : l.stackTraces = false) {h : Wd} {b : Nat} {mc sz : Int32} (hb : b ∈ h.1) (hf : h.2 b = .inr (0, [.int mc, .ref k.2.2.2.2.2.1, .int sz])) (hn : (if (10 : Int32) < sz + 1 then sz + 1 else 10) = 10) : MC l k yJx4a65c_grow_d5877 (.code yJx4a65c_grow_d5877 cJx4a65c_grow_d5877 1 (some (.array (.object "java/lang/Object")))) rm_al_g0 [.ref b] h (fun o h' => ∃ q, q ∉ h.1 ∧ o = .inl (some (.ref q)) ∧ h' = (h.1 ++ [q], va_up (va_up h.2 q (.inl (k.2.2.2.2.1, 10, .inr (.inr (.inr (.inr (fun _ => none))))))) b (.inr (0, [.int mc, .ref q, .int sz])))) := by
  refine MC.of 0 hl (by decide) (Nat.le_of_ble_eq_true rfl) ?_
  intro p e s m args below meth c A Q G B _ _
  show Wx p l e rm_al_g0 s m args below meth c k A 1 Q 1 73 0 [some (.ref b)] [] h
  refine x_aload0 (pc := 0) G dJx4a65c_grow_d5877_0 ?_
  refine x_aload0 (pc := 1) G dJx4a65c_grow_d5877_1 ?_
  refine x_getf (pc := 2) (j := 2) G hb hf (ci := 0) (fs := [.int mc, .ref k.2.2.2.2.2.1, .int sz]) (C := RJx4a65c) (T := TJx4a65c) (N := 3) rfl i_Jx4a65c (by decide) q_fl_Jx4a65c_48 (fun _ h => h) rfl dJx4a65c_grow_d5877_2 ?_
  refine x_iconst (pc := 5) (v := 1) G dJx4a65c_grow_d5877_5 ic_1 ?_
  refine x_iadd (pc := 6) G dJx4a65c_grow_d5877_6 ?_
  have hv := h_Jx4a65c_grow_92f84
  refine x_callV (pc := 7) (n := 1) (ci := 0) (T := TJx4a65c) (N := 3) (As := [.int (sz + 1)]) (st := []) G (c_grow1z hl hb hf hn) hb hf rfl q_ml_Jx4a65c_69 hv.1 hv.2.1 hv.2.2.1 hv.2.2.2.1 hv.2.2.2.2 ⟨Nat.le_of_ble_eq_true rfl, Nat.le_of_ble_eq_true rfl⟩ (Nat.le_of_ble_eq_true rfl) (Nat.le_refl _) (Nat.le_refl _) rfl rfl dJx4a65c_grow_d5877_7 (fun v h9 hp => ?_) (fun E h9 hp => ?_)
  · obtain ⟨q, hq, e1, rfl⟩ := hp
    cases e1
    exact x_aret G B rfl (Or.inr ⟨_, rfl⟩) (Or.inr ⟨_, rfl⟩) dJx4a65c_grow_d5877_10 ⟨q, hq, rfl, rfl⟩
  · obtain ⟨q, hq, e1, -⟩ := hp
    cases e1
theorem up_3 {α : Type} {g : Nat → α} {a b : Nat} {x y z : α} (hab : a ≠ b) : va_up (va_up (va_up g b x) a y) b z = va_up (va_up g a y) b z := by
  funext j
  by_cases h1 : j = b
  · subst h1
    simp [va_up]
  · by_cases h2 : j = a
    · subst h2
      simp [va_up, h1]
    · simp [va_up, h1, h2]
theorem up_4 {α : Type} {g : Nat → α} {a b : Nat} {x y z u : α} (hab : a ≠ b) : va_up (va_up (va_up (va_up g a x) b y) a z) b u = va_up (va_up g a z) b u := by
  rw [up_3 hab]
  congr 1
  exact up_up
theorem dJx4a65c_add_72be8_0 : decode cJx4a65c_add_72be8 0 = .ok (.iload_n 3, 1) := by decide +kernel
theorem dJx4a65c_add_72be8_1 : decode cJx4a65c_add_72be8 1 = .ok (.aload_n 2, 1) := by decide +kernel
theorem dJx4a65c_add_72be8_2 : decode cJx4a65c_add_72be8 2 = .ok (.arraylength, 1) := by decide +kernel
theorem dJx4a65c_add_72be8_3 : decode cJx4a65c_add_72be8 3 = .ok (.if_icmp .ne 8, 3) := by decide +kernel
theorem dJx4a65c_add_72be8_6 : decode cJx4a65c_add_72be8 6 = .ok (.aload_n 0, 1) := by decide +kernel
theorem dJx4a65c_add_72be8_7 : decode cJx4a65c_add_72be8 7 = .ok (.invokevirtual 129, 3) := by decide +kernel
theorem dJx4a65c_add_72be8_10 : decode cJx4a65c_add_72be8 10 = .ok (.astore_n 2, 1) := by decide +kernel
theorem dJx4a65c_add_72be8_11 : decode cJx4a65c_add_72be8 11 = .ok (.aload_n 2, 1) := by decide +kernel
theorem dJx4a65c_add_72be8_12 : decode cJx4a65c_add_72be8 12 = .ok (.iload_n 3, 1) := by decide +kernel
theorem dJx4a65c_add_72be8_13 : decode cJx4a65c_add_72be8 13 = .ok (.aload_n 1, 1) := by decide +kernel
theorem dJx4a65c_add_72be8_14 : decode cJx4a65c_add_72be8 14 = .ok (.aastore, 1) := by decide +kernel
theorem dJx4a65c_add_72be8_15 : decode cJx4a65c_add_72be8 15 = .ok (.aload_n 0, 1) := by decide +kernel
theorem dJx4a65c_add_72be8_16 : decode cJx4a65c_add_72be8 16 = .ok (.iload_n 3, 1) := by decide +kernel
theorem dJx4a65c_add_72be8_17 : decode cJx4a65c_add_72be8 17 = .ok (.iconst 1, 1) := by decide +kernel
theorem dJx4a65c_add_72be8_18 : decode cJx4a65c_add_72be8 18 = .ok (.iadd, 1) := by decide +kernel
theorem dJx4a65c_add_72be8_19 : decode cJx4a65c_add_72be8 19 = .ok (.putfield 48, 3) := by decide +kernel
theorem dJx4a65c_add_72be8_22 : decode cJx4a65c_add_72be8 22 = .ok (.return_, 1) := by decide +kernel
set_option maxRecDepth 100000 in
theorem c_add3 {l : Launch} {k : KC} (hl : l.stackTraces = false) {h : Wd} {ci : Nat} {r : vw_C} (hc : vwCl[ci]? = some r) (hca : (r.1, "java/lang/Object") ∈ xs_cast) {v : Nat} {vs : List Value} (hv : v ∈ h.1) (hvf : h.2 v = .inr (ci, vs)) {a0 b n : Nat} {mc : Int32} (hb : b ∈ h.1) (hf : h.2 b = .inr (0, [.int mc, .ref a0, .int (nI n)])) {N0 : Nat} {f : Nat → Option Nat} (ha0 : a0 ∈ h.1) (hf0 : h.2 a0 = .inl (k.2.2.2.2.1, N0, .inr (.inr (.inr (.inr f))))) (hn : n < N0) (hN : N0 < 2 ^ 30)  : MC l k yJx4a65c_add_72be8 (.code yJx4a65c_add_72be8 cJx4a65c_add_72be8 4 none) rm_al_a3 [.ref b, .ref v, .ref a0, .int (nI n)] h (pR none (h.1, va_up (va_up h.2 a0 (.inl (k.2.2.2.2.1, N0, .inr (.inr (.inr (.inr (va_up f n (some v)))))))) b (.inr (0, [.int mc, .ref a0, .int (nI (n + 1))])))) := by
  refine MC.of 0 hl (by decide) (Nat.le_of_ble_eq_true rfl) ?_
  intro p e s m args below meth c A Q G B _ _
  show Wx p l e rm_al_a3 s m args below meth c k A 4 Q 1 73 0 [some (.ref b), some (.ref v), some (.ref a0), some (.int (nI n))] [] h
  have hne : b ≠ a0 := fun e => by rw [e, hf0] at hf; cases hf
  refine x_iload3 (pc := 0) G dJx4a65c_add_72be8_0 ?_
  refine x_aload2 (pc := 1) G dJx4a65c_add_72be8_1 ?_
  refine x_qlenN (pc := 2) (n := N0) G ha0 hf0 dJx4a65c_add_72be8_2 ?_
  refine x_icmp_ne (pc := 3) (y := nI N0) (tgt := 11) G dJx4a65c_add_72be8_3 rfl (fun _ => ?_) (fun q => absurd ((nI_eq (by omega) (by omega)).mp q) (by omega))
  refine x_aload2 (pc := 11) G dJx4a65c_add_72be8_11 ?_
  refine x_iload3 (pc := 12) G dJx4a65c_add_72be8_12 ?_
  refine x_aload1 (pc := 13) G dJx4a65c_add_72be8_13 ?_
  refine x_qast (pc := 14) (ci := ci) (f := f) (n := N0) G ha0 hf0 hv hvf hc hca (vp_in_nI hn (by omega)) dJx4a65c_add_72be8_14 ?_
  rw [nI_clamp (by omega : n < 2 ^ 31)]
  refine x_aload0 (pc := 15) G dJx4a65c_add_72be8_15 ?_
  refine x_iload3 (pc := 16) G dJx4a65c_add_72be8_16 ?_
  refine x_iconst (pc := 17) (v := 1) G dJx4a65c_add_72be8_17 ic_1 ?_
  refine x_iadd (pc := 18) G dJx4a65c_add_72be8_18 ?_
  rw [nI_1]
  refine x_putf (pc := 19) (j := 2) G hb ((va_up_ne _ _ hne).trans hf) (ci := 0) (fs := [.int mc, .ref a0, .int (nI n)]) (C := RJx4a65c) (T := TJx4a65c) (N := 3) rfl i_Jx4a65c (by decide) q_fl_Jx4a65c_48 (fun _ h => h) tyJx4a65c tyJx4a65c_ok nmJx4a65c rfl rfl rfl (Nat.le_of_ble_eq_true rfl) dJx4a65c_add_72be8_19 ?_
  exact x_vret G B rfl dJx4a65c_add_72be8_22 ⟨rfl, rfl⟩
set_option maxRecDepth 100000 in
theorem c_add3g {l : Launch} {k : KC} (hl : l.stackTraces = false) {h : Wd} {ci : Nat} {r : vw_C} (hc : vwCl[ci]? = some r) (hca : (r.1, "java/lang/Object") ∈ xs_cast) {v : Nat} {vs : List Value} (hv : v ∈ h.1) (hvf : h.2 v = .inr (ci, vs)) {a0 N0 M : Nat} {f : Nat → Option Nat} (ha0 : a0 ∈ h.1) (hf0 : h.2 a0 = .inl (k.2.2.2.2.1, N0, .inr (.inr (.inr (.inr f))))) (hN0 : 0 < N0) (hM : N0 < M) (hM2 : M ≤ 73) (hel : ∀ i : Nat, i < N0 → ∀ y : Nat, f i = some y → y ∈ h.1 ∧ ∃ fs, h.2 y = .inr (ci, fs)) (hn : nI N0 + (if nI N0 + (1 : Int32) - nI N0 < nI N0 >>> ((1 : Int32) &&& 31) then nI N0 >>> ((1 : Int32) &&& 31) else nI N0 + (1 : Int32) - nI N0) = nI M) {b : Nat} {mc : Int32} (hb : b ∈ h.1) (hf : h.2 b = .inr (0, [.int mc, .ref a0, .int (nI N0)])) (hvb : v ≠ b)  : MC l k yJx4a65c_add_72be8 (.code yJx4a65c_add_72be8 cJx4a65c_add_72be8 4 none) rm_al_a3 [.ref b, .ref v, .ref a0, .int (nI N0)] h (fun o h' => ∃ q, q ∉ h.1 ∧ o = .inl none ∧ h' = (h.1 ++ [q], va_up (va_up h.2 q (.inl (k.2.2.2.2.1, M, .inr (.inr (.inr (.inr (va_up (fun i => if i < N0 then f i else none) N0 (some v)))))))) b (.inr (0, [.int mc, .ref q, .int (nI (N0 + 1))])))) := by
  refine MC.of 0 hl (by decide) (Nat.le_of_ble_eq_true rfl) ?_
  intro p e s m args below meth c A Q G B _ _
  show Wx p l e rm_al_a3 s m args below meth c k A 4 Q 1 73 0 [some (.ref b), some (.ref v), some (.ref a0), some (.int (nI N0))] [] h
  refine x_iload3 (pc := 0) G dJx4a65c_add_72be8_0 ?_
  refine x_aload2 (pc := 1) G dJx4a65c_add_72be8_1 ?_
  refine x_qlenN (pc := 2) (n := N0) G ha0 hf0 dJx4a65c_add_72be8_2 ?_
  refine x_icmp_ne (pc := 3) (x := (nI N0)) (y := (nI N0)) (tgt := 11) G dJx4a65c_add_72be8_3 rfl (fun q => absurd rfl q) (fun _ => ?_)
  refine x_aload0 (pc := 6) G dJx4a65c_add_72be8_6 ?_
  have hV := h_Jx4a65c_grow_d5877
  refine x_callV (pc := 7) (n := 0) (ci := 0) (T := TJx4a65c) (N := 3) (As := []) (st := []) G (c_grow0 hl ha0 hf0 hN0 (by omega) hM2 hc hca hel hb hf hn) hb hf rfl q_ml_Jx4a65c_129 hV.1 hV.2.1 hV.2.2.1 hV.2.2.2.1 hV.2.2.2.2 ⟨Nat.le_of_ble_eq_true rfl, Nat.le_of_ble_eq_true rfl⟩ (Nat.le_of_ble_eq_true rfl) (bc1 := 0) (bs1 := 0) (Nat.le_refl _) (Nat.le_refl _) rfl rfl dJx4a65c_add_72be8_7 (fun v9 h9 hp => ?_) (fun E h9 hp => ?_)
  · obtain ⟨q, hq, e1, rfl⟩ := hp
    cases e1
    have hne : q ≠ b := (ne_of hb hq).symm
    refine x_astore2 (pc := 10) G dJx4a65c_add_72be8_10 (Nat.le_of_ble_eq_true rfl) rfl ?_
    refine x_aload2 (pc := 11) G dJx4a65c_add_72be8_11 ?_
    refine x_iload3 (pc := 12) G dJx4a65c_add_72be8_12 ?_
    refine x_aload1 (pc := 13) G dJx4a65c_add_72be8_13 ?_
    obtain ⟨vs', hvs'⟩ : ∃ vs', (va_up (va_up h.2 q (.inl (k.2.2.2.2.1, M, .inr (.inr (.inr (.inr (fun i => if i < N0 then f i else none))))))) b (.inr (0, [.int mc, .ref q, .int (nI N0)]))) v = .inr (ci, vs') := ⟨_, (va_up_ne _ _ hvb).trans ((va_up_ne _ _ (ne_of hv hq)).trans hvf)⟩
    refine x_qast (pc := 14) (ci := ci) (f := (fun i => if i < N0 then f i else none)) (n := M) G (List.mem_append_right _ List.mem_cons_self) ((va_up_ne _ _ hne).trans (va_up_self _ _ _)) (mem_ap hv) hvs' hc hca (vp_in_nI (by omega) (by omega)) dJx4a65c_add_72be8_14 ?_
    rw [show (nI N0).toNatClampNeg = N0 from nI_clamp (by omega)]
    refine x_aload0 (pc := 15) G dJx4a65c_add_72be8_15 ?_
    refine x_iload3 (pc := 16) G dJx4a65c_add_72be8_16 ?_
    refine x_iconst (pc := 17) (v := 1) G dJx4a65c_add_72be8_17 ic_1 ?_
    refine x_iadd (pc := 18) G dJx4a65c_add_72be8_18 ?_
    rw [nI_1]
    refine x_putf (pc := 19) (j := 2) G (mem_ap hb) ((va_up_ne _ _ hne.symm).trans (va_up_self _ _ _)) (ci := 0) (fs := [.int mc, .ref q, .int (nI N0)]) (C := RJx4a65c) (T := TJx4a65c) (N := 3) rfl i_Jx4a65c (by decide) q_fl_Jx4a65c_48 (fun _ h => h) tyJx4a65c tyJx4a65c_ok nmJx4a65c rfl rfl rfl (Nat.le_of_ble_eq_true rfl) dJx4a65c_add_72be8_19 ?_
    exact x_vret G B rfl dJx4a65c_add_72be8_22 ⟨q, hq, rfl, by rw [up_4 hne]; rfl⟩
  · obtain ⟨q, hq, e1, -⟩ := hp
    cases e1
set_option maxRecDepth 100000 in
theorem c_add3z {l : Launch} {k : KC} (hl : l.stackTraces = false) {h : Wd} {ci : Nat} {r : vw_C} (hc : vwCl[ci]? = some r) (hca : (r.1, "java/lang/Object") ∈ xs_cast) {v : Nat} {vs : List Value} (hv : v ∈ h.1) (hvf : h.2 v = .inr (ci, vs)) {b : Nat} {mc : Int32} (hb : b ∈ h.1) (hf : h.2 b = .inr (0, [.int mc, .ref k.2.2.2.2.2.1, .int 0])) (hvb : v ≠ b)  : MC l k yJx4a65c_add_72be8 (.code yJx4a65c_add_72be8 cJx4a65c_add_72be8 4 none) rm_al_a3 [.ref b, .ref v, .ref k.2.2.2.2.2.1, .int 0] h (fun o h' => ∃ q, q ∉ h.1 ∧ o = .inl none ∧ h' = (h.1 ++ [q], va_up (va_up h.2 q (.inl (k.2.2.2.2.1, 10, .inr (.inr (.inr (.inr (va_up (fun _ => none) 0 (some v)))))))) b (.inr (0, [.int mc, .ref q, .int (nI 1)])))) := by
  refine MC.of 0 hl (by decide) (Nat.le_of_ble_eq_true rfl) ?_
  intro p e s m args below meth c A Q G B _ _
  show Wx p l e rm_al_a3 s m args below meth c k A 4 Q 1 73 0 [some (.ref b), some (.ref v), some (.ref k.2.2.2.2.2.1), some (.int (0 : Int32))] [] h
  refine x_iload3 (pc := 0) G dJx4a65c_add_72be8_0 ?_
  refine x_aload2 (pc := 1) G dJx4a65c_add_72be8_1 ?_
  refine x_zzlen (pc := 2) G rfl dJx4a65c_add_72be8_2 ?_
  refine x_icmp_ne (pc := 3) (x := (0 : Int32)) (y := (0 : Int32)) (tgt := 11) G dJx4a65c_add_72be8_3 rfl (fun q => absurd rfl q) (fun _ => ?_)
  refine x_aload0 (pc := 6) G dJx4a65c_add_72be8_6 ?_
  have hV := h_Jx4a65c_grow_d5877
  refine x_callV (pc := 7) (n := 0) (ci := 0) (T := TJx4a65c) (N := 3) (As := []) (st := []) G (c_grow0z hl hb hf (by decide)) hb hf rfl q_ml_Jx4a65c_129 hV.1 hV.2.1 hV.2.2.1 hV.2.2.2.1 hV.2.2.2.2 ⟨Nat.le_of_ble_eq_true rfl, Nat.le_of_ble_eq_true rfl⟩ (Nat.le_of_ble_eq_true rfl) (bc1 := 0) (bs1 := 0) (Nat.le_refl _) (Nat.le_refl _) rfl rfl dJx4a65c_add_72be8_7 (fun v9 h9 hp => ?_) (fun E h9 hp => ?_)
  · obtain ⟨q, hq, e1, rfl⟩ := hp
    cases e1
    have hne : q ≠ b := (ne_of hb hq).symm
    refine x_astore2 (pc := 10) G dJx4a65c_add_72be8_10 (Nat.le_of_ble_eq_true rfl) rfl ?_
    refine x_aload2 (pc := 11) G dJx4a65c_add_72be8_11 ?_
    refine x_iload3 (pc := 12) G dJx4a65c_add_72be8_12 ?_
    refine x_aload1 (pc := 13) G dJx4a65c_add_72be8_13 ?_
    obtain ⟨vs', hvs'⟩ : ∃ vs', (va_up (va_up h.2 q (.inl (k.2.2.2.2.1, 10, .inr (.inr (.inr (.inr (fun _ => none))))))) b (.inr (0, [.int mc, .ref q, .int (0 : Int32)]))) v = .inr (ci, vs') := ⟨_, (va_up_ne _ _ hvb).trans ((va_up_ne _ _ (ne_of hv hq)).trans hvf)⟩
    refine x_qast (pc := 14) (ci := ci) (f := (fun _ => none)) (n := 10) G (List.mem_append_right _ List.mem_cons_self) ((va_up_ne _ _ hne).trans (va_up_self _ _ _)) (mem_ap hv) hvs' hc hca (vp_in_nI (n := 0) (by decide) (by decide)) dJx4a65c_add_72be8_14 ?_
    rw [show (0 : Int32).toNatClampNeg = 0 from by decide]
    refine x_aload0 (pc := 15) G dJx4a65c_add_72be8_15 ?_
    refine x_iload3 (pc := 16) G dJx4a65c_add_72be8_16 ?_
    refine x_iconst (pc := 17) (v := 1) G dJx4a65c_add_72be8_17 ic_1 ?_
    refine x_iadd (pc := 18) G dJx4a65c_add_72be8_18 ?_
    rw [show (0 : Int32) + 1 = nI 1 from by decide]
    refine x_putf (pc := 19) (j := 2) G (mem_ap hb) ((va_up_ne _ _ hne.symm).trans (va_up_self _ _ _)) (ci := 0) (fs := [.int mc, .ref q, .int (0 : Int32)]) (C := RJx4a65c) (T := TJx4a65c) (N := 3) rfl i_Jx4a65c (by decide) q_fl_Jx4a65c_48 (fun _ h => h) tyJx4a65c tyJx4a65c_ok nmJx4a65c rfl rfl rfl (Nat.le_of_ble_eq_true rfl) dJx4a65c_add_72be8_19 ?_
    exact x_vret G B rfl dJx4a65c_add_72be8_22 ⟨q, hq, rfl, by rw [up_4 hne]; rfl⟩
  · obtain ⟨q, hq, e1, -⟩ := hp
    cases e1
theorem dJx4a65c_add_9ea2d_0 : decode cJx4a65c_add_9ea2d 0 = .ok (.aload_n 0, 1) := by decide +kernel
theorem dJx4a65c_add_9ea2d_1 : decode cJx4a65c_add_9ea2d 1 = .ok (.dup, 1) := by decide +kernel
theorem dJx4a65c_add_9ea2d_2 : decode cJx4a65c_add_9ea2d 2 = .ok (.getfield 63, 3) := by decide +kernel
theorem dJx4a65c_add_9ea2d_5 : decode cJx4a65c_add_9ea2d 5 = .ok (.iconst 1, 1) := by decide +kernel
theorem dJx4a65c_add_9ea2d_6 : decode cJx4a65c_add_9ea2d 6 = .ok (.iadd, 1) := by decide +kernel
theorem dJx4a65c_add_9ea2d_7 : decode cJx4a65c_add_9ea2d 7 = .ok (.putfield 63, 3) := by decide +kernel
theorem dJx4a65c_add_9ea2d_10 : decode cJx4a65c_add_9ea2d 10 = .ok (.aload_n 0, 1) := by decide +kernel
theorem dJx4a65c_add_9ea2d_11 : decode cJx4a65c_add_9ea2d 11 = .ok (.aload_n 1, 1) := by decide +kernel
theorem dJx4a65c_add_9ea2d_12 : decode cJx4a65c_add_9ea2d 12 = .ok (.aload_n 0, 1) := by decide +kernel
theorem dJx4a65c_add_9ea2d_13 : decode cJx4a65c_add_9ea2d 13 = .ok (.getfield 9, 3) := by decide +kernel
theorem dJx4a65c_add_9ea2d_16 : decode cJx4a65c_add_9ea2d 16 = .ok (.aload_n 0, 1) := by decide +kernel
theorem dJx4a65c_add_9ea2d_17 : decode cJx4a65c_add_9ea2d 17 = .ok (.getfield 48, 3) := by decide +kernel
theorem dJx4a65c_add_9ea2d_20 : decode cJx4a65c_add_9ea2d 20 = .ok (.invokevirtual 131, 3) := by decide +kernel
theorem dJx4a65c_add_9ea2d_23 : decode cJx4a65c_add_9ea2d 23 = .ok (.iconst 1, 1) := by decide +kernel
theorem dJx4a65c_add_9ea2d_24 : decode cJx4a65c_add_9ea2d 24 = .ok (.ireturn, 1) := by decide +kernel
set_option maxRecDepth 100000 in
theorem c_add {l : Launch} {k : KC} (hl : l.stackTraces = false) {h : Wd} {ci : Nat} {r : vw_C} (hc : vwCl[ci]? = some r) (hca : (r.1, "java/lang/Object") ∈ xs_cast) (hci : ci ≠ 0) {v : Nat} {vs : List Value} (hv : v ∈ h.1) (hvf : h.2 v = .inr (ci, vs)) {a0 b n : Nat} {mc : Int32} (hb : b ∈ h.1) (hf : h.2 b = .inr (0, [.int mc, .ref a0, .int (nI n)])) {N0 : Nat} {f : Nat → Option Nat} (ha0 : a0 ∈ h.1) (hf0 : h.2 a0 = .inl (k.2.2.2.2.1, N0, .inr (.inr (.inr (.inr f))))) (hn : n < N0) (hN : N0 < 2 ^ 30)  : MC l k yJx4a65c_add_9ea2d (.code yJx4a65c_add_9ea2d cJx4a65c_add_9ea2d 2 (some .boolean)) rm_al_ad [.ref b, .ref v] h (pR (some (.int 1)) (h.1, va_up (va_up h.2 a0 (.inl (k.2.2.2.2.1, N0, .inr (.inr (.inr (.inr (va_up f n (some v)))))))) b (.inr (0, [.int (mc + 1), .ref a0, .int (nI (n + 1))])))) := by
  refine MC.of 0 hl (by decide) (Nat.le_of_ble_eq_true rfl) ?_
  intro p e s m args below meth c A Q G B _ _
  show Wx p l e rm_al_ad s m args below meth c k A 2 Q 1 73 0 [some (.ref b), some (.ref v)] [] h
  have hvb : v ≠ b := fun e => by rw [e, hf] at hvf; injection hvf with e1; injection e1 with e2; exact hci e2.symm
  refine x_aload0 (pc := 0) G dJx4a65c_add_9ea2d_0 ?_
  refine x_dup (pc := 1) G dJx4a65c_add_9ea2d_1 rfl ?_
  refine x_getf (pc := 2) (j := 0) G hb hf (ci := 0) (fs := [.int mc, .ref a0, .int (nI n)]) (C := RJx4a65c) (T := TJx4a65c) (N := 3) rfl i_Jx4a65c (by decide) q_fl_Jx4a65c_63 (fun x hx => u_same (G.2.2.2.2.1 _ q_sf_mc) x hx) rfl dJx4a65c_add_9ea2d_2 ?_
  refine x_iconst (pc := 5) (v := 1) G dJx4a65c_add_9ea2d_5 ic_1 ?_
  refine x_iadd (pc := 6) G dJx4a65c_add_9ea2d_6 ?_
  refine x_putf (pc := 7) (j := 0) G hb hf (ci := 0) (fs := [.int mc, .ref a0, .int (nI n)]) (C := RJx4a65c) (T := TJx4a65c) (N := 3) rfl i_Jx4a65c (by decide) q_fl_Jx4a65c_63 (fun x hx => u_same (G.2.2.2.2.1 _ q_sf_mc) x hx) tyJx4a65c tyJx4a65c_ok nmJx4a65c rfl rfl rfl (Nat.le_of_ble_eq_true rfl) dJx4a65c_add_9ea2d_7 ?_
  refine x_aload0 (pc := 10) G dJx4a65c_add_9ea2d_10 ?_
  refine x_aload1 (pc := 11) G dJx4a65c_add_9ea2d_11 ?_
  refine x_aload0 (pc := 12) G dJx4a65c_add_9ea2d_12 ?_
  refine x_getf (pc := 13) (j := 1) G hb (va_up_self _ _ _) (ci := 0) (fs := [.int (mc + 1), .ref a0, .int (nI n)]) (C := RJx4a65c) (T := TJx4a65c) (N := 3) rfl i_Jx4a65c (by decide) q_fl_Jx4a65c_9 (fun _ h => h) rfl dJx4a65c_add_9ea2d_13 ?_
  refine x_aload0 (pc := 16) G dJx4a65c_add_9ea2d_16 ?_
  refine x_getf (pc := 17) (j := 2) G hb (va_up_self _ _ _) (ci := 0) (fs := [.int (mc + 1), .ref a0, .int (nI n)]) (C := RJx4a65c) (T := TJx4a65c) (N := 3) rfl i_Jx4a65c (by decide) q_fl_Jx4a65c_48 (fun _ h => h) rfl dJx4a65c_add_9ea2d_17 ?_
  have hV := h_Jx4a65c_add_72be8
  have hv1 : (va_up h.2 b (.inr (0, [.int (mc + 1), .ref a0, .int (nI n)]))) v = .inr (ci, vs) := (va_up_ne _ _ hvb).trans hvf
  have hab : a0 ≠ b := fun e => by rw [← e, hf0] at hf; cases hf
  have ha1 : (va_up h.2 b (.inr (0, [.int (mc + 1), .ref a0, .int (nI n)]))) a0 = .inl (k.2.2.2.2.1, N0, .inr (.inr (.inr (.inr f)))) := (va_up_ne _ _ hab).trans hf0
  have hM9 := c_add3 (k := k) (h := (h.1, va_up h.2 b (.inr (0, [.int (mc + 1), .ref a0, .int (nI n)])))) hl hc hca hv hv1 hb (va_up_self _ _ _) ha0 ha1 hn hN
  refine x_callV (pc := 20) (n := 3) (ci := 0) (T := TJx4a65c) (N := 3) (As := [.ref v, .ref a0, .int (nI n)]) (st := []) G hM9 hb (va_up_self _ _ _) rfl q_ml_Jx4a65c_131 hV.1 hV.2.1 hV.2.2.1 hV.2.2.2.1 hV.2.2.2.2 ⟨Nat.le_of_ble_eq_true rfl, Nat.le_of_ble_eq_true rfl⟩ (Nat.le_of_ble_eq_true rfl) (Nat.le_refl _) (Nat.le_refl _) rfl rfl dJx4a65c_add_9ea2d_20 (fun v9 h9 hp => ?_) (fun E h9 hp => ?_)
  · obtain ⟨e1, rfl⟩ := hp
    cases e1
    refine x_iconst (pc := 23) (v := 1) G dJx4a65c_add_9ea2d_23 ic_1 ?_
    exact x_zret G B rfl (by decide) dJx4a65c_add_9ea2d_24 ⟨rfl, by rw [up_3 hab]⟩
  · obtain ⟨e1, -⟩ := hp
    cases e1
set_option maxRecDepth 100000 in
theorem c_addg {l : Launch} {k : KC} (hl : l.stackTraces = false) {h : Wd} {ci : Nat} {r : vw_C} (hc : vwCl[ci]? = some r) (hca : (r.1, "java/lang/Object") ∈ xs_cast) (hci : ci ≠ 0) {v : Nat} {vs : List Value} (hv : v ∈ h.1) (hvf : h.2 v = .inr (ci, vs)) {a0 N0 M : Nat} {f : Nat → Option Nat} (ha0 : a0 ∈ h.1) (hf0 : h.2 a0 = .inl (k.2.2.2.2.1, N0, .inr (.inr (.inr (.inr f))))) (hN0 : 0 < N0) (hM : N0 < M) (hM2 : M ≤ 73) (hel : ∀ i : Nat, i < N0 → ∀ y : Nat, f i = some y → y ∈ h.1 ∧ ∃ fs, h.2 y = .inr (ci, fs)) (hn : nI N0 + (if nI N0 + (1 : Int32) - nI N0 < nI N0 >>> ((1 : Int32) &&& 31) then nI N0 >>> ((1 : Int32) &&& 31) else nI N0 + (1 : Int32) - nI N0) = nI M) {b : Nat} {mc : Int32} (hb : b ∈ h.1) (hf : h.2 b = .inr (0, [.int mc, .ref a0, .int (nI N0)]))  : MC l k yJx4a65c_add_9ea2d (.code yJx4a65c_add_9ea2d cJx4a65c_add_9ea2d 2 (some .boolean)) rm_al_ad [.ref b, .ref v] h (fun o h' => ∃ q, q ∉ h.1 ∧ o = .inl (some (.int 1)) ∧ h' = (h.1 ++ [q], va_up (va_up h.2 q (.inl (k.2.2.2.2.1, M, .inr (.inr (.inr (.inr (va_up (fun i => if i < N0 then f i else none) N0 (some v)))))))) b (.inr (0, [.int (mc + 1), .ref q, .int (nI (N0 + 1))])))) := by
  refine MC.of 0 hl (by decide) (Nat.le_of_ble_eq_true rfl) ?_
  intro p e s m args below meth c A Q G B _ _
  show Wx p l e rm_al_ad s m args below meth c k A 2 Q 1 73 0 [some (.ref b), some (.ref v)] [] h
  have hvb : v ≠ b := fun e => by rw [e, hf] at hvf; injection hvf with e1; injection e1 with e2; exact hci e2.symm
  refine x_aload0 (pc := 0) G dJx4a65c_add_9ea2d_0 ?_
  refine x_dup (pc := 1) G dJx4a65c_add_9ea2d_1 rfl ?_
  refine x_getf (pc := 2) (j := 0) G hb hf (ci := 0) (fs := [.int mc, .ref a0, .int (nI N0)]) (C := RJx4a65c) (T := TJx4a65c) (N := 3) rfl i_Jx4a65c (by decide) q_fl_Jx4a65c_63 (fun x hx => u_same (G.2.2.2.2.1 _ q_sf_mc) x hx) rfl dJx4a65c_add_9ea2d_2 ?_
  refine x_iconst (pc := 5) (v := 1) G dJx4a65c_add_9ea2d_5 ic_1 ?_
  refine x_iadd (pc := 6) G dJx4a65c_add_9ea2d_6 ?_
  refine x_putf (pc := 7) (j := 0) G hb hf (ci := 0) (fs := [.int mc, .ref a0, .int (nI N0)]) (C := RJx4a65c) (T := TJx4a65c) (N := 3) rfl i_Jx4a65c (by decide) q_fl_Jx4a65c_63 (fun x hx => u_same (G.2.2.2.2.1 _ q_sf_mc) x hx) tyJx4a65c tyJx4a65c_ok nmJx4a65c rfl rfl rfl (Nat.le_of_ble_eq_true rfl) dJx4a65c_add_9ea2d_7 ?_
  refine x_aload0 (pc := 10) G dJx4a65c_add_9ea2d_10 ?_
  refine x_aload1 (pc := 11) G dJx4a65c_add_9ea2d_11 ?_
  refine x_aload0 (pc := 12) G dJx4a65c_add_9ea2d_12 ?_
  refine x_getf (pc := 13) (j := 1) G hb (va_up_self _ _ _) (ci := 0) (fs := [.int (mc + 1), .ref a0, .int (nI N0)]) (C := RJx4a65c) (T := TJx4a65c) (N := 3) rfl i_Jx4a65c (by decide) q_fl_Jx4a65c_9 (fun _ h => h) rfl dJx4a65c_add_9ea2d_13 ?_
  refine x_aload0 (pc := 16) G dJx4a65c_add_9ea2d_16 ?_
  refine x_getf (pc := 17) (j := 2) G hb (va_up_self _ _ _) (ci := 0) (fs := [.int (mc + 1), .ref a0, .int (nI N0)]) (C := RJx4a65c) (T := TJx4a65c) (N := 3) rfl i_Jx4a65c (by decide) q_fl_Jx4a65c_48 (fun _ h => h) rfl dJx4a65c_add_9ea2d_17 ?_
  have hV := h_Jx4a65c_add_72be8
  have hv1 : (va_up h.2 b (.inr (0, [.int (mc + 1), .ref a0, .int (nI N0)]))) v = .inr (ci, vs) := (va_up_ne _ _ hvb).trans hvf
  have hab : a0 ≠ b := fun e => by rw [← e, hf0] at hf; cases hf
  have ha1 : (va_up h.2 b (.inr (0, [.int (mc + 1), .ref a0, .int (nI N0)]))) a0 = .inl (k.2.2.2.2.1, N0, .inr (.inr (.inr (.inr f)))) := (va_up_ne _ _ hab).trans hf0
  have hel1 : ∀ i : Nat, i < N0 → ∀ y : Nat, f i = some y → y ∈ h.1 ∧ ∃ fs, (va_up h.2 b (.inr (0, [.int (mc + 1), .ref a0, .int (nI N0)]))) y = .inr (ci, fs) := fun i hi y hy => by
    obtain ⟨y1, fs, y2⟩ := hel i hi y hy
    exact ⟨y1, fs, (va_up_ne _ _ (fun e => by rw [e, hf] at y2; injection y2 with e1; injection e1 with e2; exact hci e2.symm)).trans y2⟩
  have hM9 := c_add3g (k := k) (h := (h.1, va_up h.2 b (.inr (0, [.int (mc + 1), .ref a0, .int (nI N0)])))) hl hc hca hv hv1 ha0 ha1 hN0 hM hM2 hel1 hn hb (va_up_self _ _ _) hvb
  refine x_callV (pc := 20) (n := 3) (ci := 0) (T := TJx4a65c) (N := 3) (As := [.ref v, .ref a0, .int (nI N0)]) (st := []) G hM9 hb (va_up_self _ _ _) rfl q_ml_Jx4a65c_131 hV.1 hV.2.1 hV.2.2.1 hV.2.2.2.1 hV.2.2.2.2 ⟨Nat.le_of_ble_eq_true rfl, Nat.le_of_ble_eq_true rfl⟩ (Nat.le_of_ble_eq_true rfl) (Nat.le_refl _) (Nat.le_refl _) rfl rfl dJx4a65c_add_9ea2d_20 (fun v9 h9 hp => ?_) (fun E h9 hp => ?_)
  · obtain ⟨q, hq, e1, rfl⟩ := hp
    cases e1
    refine x_iconst (pc := 23) (v := 1) G dJx4a65c_add_9ea2d_23 ic_1 ?_
    exact x_zret G B rfl (by decide) dJx4a65c_add_9ea2d_24 ⟨q, hq, rfl, by rw [up_3 (ne_of hb hq).symm]⟩
  · obtain ⟨q, hq, e1, -⟩ := hp
    cases e1
set_option maxRecDepth 100000 in
theorem c_addz {l : Launch} {k : KC} (hl : l.stackTraces = false) {h : Wd} {ci : Nat} {r : vw_C} (hc : vwCl[ci]? = some r) (hca : (r.1, "java/lang/Object") ∈ xs_cast) (hci : ci ≠ 0) {v : Nat} {vs : List Value} (hv : v ∈ h.1) (hvf : h.2 v = .inr (ci, vs)) {b : Nat} {mc : Int32} (hb : b ∈ h.1) (hf : h.2 b = .inr (0, [.int mc, .ref k.2.2.2.2.2.1, .int 0]))  : MC l k yJx4a65c_add_9ea2d (.code yJx4a65c_add_9ea2d cJx4a65c_add_9ea2d 2 (some .boolean)) rm_al_ad [.ref b, .ref v] h (fun o h' => ∃ q, q ∉ h.1 ∧ o = .inl (some (.int 1)) ∧ h' = (h.1 ++ [q], va_up (va_up h.2 q (.inl (k.2.2.2.2.1, 10, .inr (.inr (.inr (.inr (va_up (fun _ => none) 0 (some v)))))))) b (.inr (0, [.int (mc + 1), .ref q, .int (nI 1)])))) := by
  refine MC.of 0 hl (by decide) (Nat.le_of_ble_eq_true rfl) ?_
  intro p e s m args below meth c A Q G B _ _
  show Wx p l e rm_al_ad s m args below meth c k A 2 Q 1 73 0 [some (.ref b), some (.ref v)] [] h
  have hvb : v ≠ b := fun e => by rw [e, hf] at hvf; injection hvf with e1; injection e1 with e2; exact hci e2.symm
  refine x_aload0 (pc := 0) G dJx4a65c_add_9ea2d_0 ?_
  refine x_dup (pc := 1) G dJx4a65c_add_9ea2d_1 rfl ?_
  refine x_getf (pc := 2) (j := 0) G hb hf (ci := 0) (fs := [.int mc, .ref k.2.2.2.2.2.1, .int 0]) (C := RJx4a65c) (T := TJx4a65c) (N := 3) rfl i_Jx4a65c (by decide) q_fl_Jx4a65c_63 (fun x hx => u_same (G.2.2.2.2.1 _ q_sf_mc) x hx) rfl dJx4a65c_add_9ea2d_2 ?_
  refine x_iconst (pc := 5) (v := 1) G dJx4a65c_add_9ea2d_5 ic_1 ?_
  refine x_iadd (pc := 6) G dJx4a65c_add_9ea2d_6 ?_
  refine x_putf (pc := 7) (j := 0) G hb hf (ci := 0) (fs := [.int mc, .ref k.2.2.2.2.2.1, .int 0]) (C := RJx4a65c) (T := TJx4a65c) (N := 3) rfl i_Jx4a65c (by decide) q_fl_Jx4a65c_63 (fun x hx => u_same (G.2.2.2.2.1 _ q_sf_mc) x hx) tyJx4a65c tyJx4a65c_ok nmJx4a65c rfl rfl rfl (Nat.le_of_ble_eq_true rfl) dJx4a65c_add_9ea2d_7 ?_
  refine x_aload0 (pc := 10) G dJx4a65c_add_9ea2d_10 ?_
  refine x_aload1 (pc := 11) G dJx4a65c_add_9ea2d_11 ?_
  refine x_aload0 (pc := 12) G dJx4a65c_add_9ea2d_12 ?_
  refine x_getf (pc := 13) (j := 1) G hb (va_up_self _ _ _) (ci := 0) (fs := [.int (mc + 1), .ref k.2.2.2.2.2.1, .int 0]) (C := RJx4a65c) (T := TJx4a65c) (N := 3) rfl i_Jx4a65c (by decide) q_fl_Jx4a65c_9 (fun _ h => h) rfl dJx4a65c_add_9ea2d_13 ?_
  refine x_aload0 (pc := 16) G dJx4a65c_add_9ea2d_16 ?_
  refine x_getf (pc := 17) (j := 2) G hb (va_up_self _ _ _) (ci := 0) (fs := [.int (mc + 1), .ref k.2.2.2.2.2.1, .int 0]) (C := RJx4a65c) (T := TJx4a65c) (N := 3) rfl i_Jx4a65c (by decide) q_fl_Jx4a65c_48 (fun _ h => h) rfl dJx4a65c_add_9ea2d_17 ?_
  have hV := h_Jx4a65c_add_72be8
  have hv1 : (va_up h.2 b (.inr (0, [.int (mc + 1), .ref k.2.2.2.2.2.1, .int 0]))) v = .inr (ci, vs) := (va_up_ne _ _ hvb).trans hvf
  have hM9 := c_add3z (k := k) (h := (h.1, va_up h.2 b (.inr (0, [.int (mc + 1), .ref k.2.2.2.2.2.1, .int 0])))) hl hc hca hv hv1 hb (va_up_self _ _ _) hvb
  refine x_callV (pc := 20) (n := 3) (ci := 0) (T := TJx4a65c) (N := 3) (As := [.ref v, .ref k.2.2.2.2.2.1, .int (0 : Int32)]) (st := []) G hM9 hb (va_up_self _ _ _) rfl q_ml_Jx4a65c_131 hV.1 hV.2.1 hV.2.2.1 hV.2.2.2.1 hV.2.2.2.2 ⟨Nat.le_of_ble_eq_true rfl, Nat.le_of_ble_eq_true rfl⟩ (Nat.le_of_ble_eq_true rfl) (Nat.le_refl _) (Nat.le_refl _) rfl rfl dJx4a65c_add_9ea2d_20 (fun v9 h9 hp => ?_) (fun E h9 hp => ?_)
  · obtain ⟨q, hq, e1, rfl⟩ := hp
    cases e1
    refine x_iconst (pc := 23) (v := 1) G dJx4a65c_add_9ea2d_23 ic_1 ?_
    exact x_zret G B rfl (by decide) dJx4a65c_add_9ea2d_24 ⟨q, hq, rfl, by rw [up_3 (ne_of hb hq).symm]⟩
  · obtain ⟨q, hq, e1, -⟩ := hp
    cases e1
