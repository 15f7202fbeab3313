section XC
variable {p : Program} {l : Launch} {e : Env} {R : Room} {s : State} {m : MethodId} {args : Array Value} {below : List Frame} {meth : Method} {c : Code}
variable {k : KC} {A : Nat → Prop} {nL : Nat} {Q : State → Prop} {bc bs pc : Nat} {L : List (Option Value)} {st : List Value} {h : Wd} {own : String} {cc : ByteArray} {ret : Option FieldType}
theorem wl_get {h : Wd} {a : Nat} {e : va_E} (ha : a ∈ h.1) (hf : h.2 a = e) : ∃ q : Nat, (wl h)[q]? = some (a, e) := by
  obtain ⟨q, hq⟩ := va_pl_get (X := []) (f := h.2) ha
  exact ⟨q, by rw [← hf]; exact hq⟩
theorem wl_set {h : Wd} {A : Nat → Prop} {a q : Nat} {e0 e : va_E} (hD : va_D A (wl h)) (ha : a ∈ h.1) (hf : h.2 a = e0) (hq : (wl h)[q]? = some (a, e0)) : (wl h).set q (a, e) = wl (h.1, va_up h.2 a e) := by
  subst hf
  exact va_pl_set (X := []) hD ha hq
theorem wl_push {h : Wd} {a : Nat} {e : va_E} (ha : a ∉ h.1) : wl h ++ [(a, e)] = wl (h.1 ++ [a], va_up h.2 a e) := va_pl_push ha
theorem wl_new {h : Wd} {A : Nat → Prop} {a : Nat} {e : va_E} (hD : va_D A (wl h ++ [(a, e)])) : a ∉ h.1 := by
  intro ha
  obtain ⟨q, hq⟩ := wl_get (h := h) ha rfl
  have hl := (List.getElem?_eq_some_iff.mp hq).1
  have h9 := hD.1 q (wl h).length (a, h.2 a) (a, e) (by rw [List.getElem?_append_left hl]; exact hq) (by simp) rfl
  omega
theorem wl_in {h : Wd} {q : Nat} {x : Nat × va_E} (hq : (wl h)[q]? = some x) : x.1 ∈ h.1 ∧ x.2 = h.2 x.1 := by
  obtain ⟨a, ha, e⟩ := List.mem_map.mp (List.mem_of_getElem? hq)
  subst e
  exact ⟨ha, rfl⟩
theorem fr_in {h : Wd} {sz a : Nat} (ha : a ∈ h.1) : fr h sz a := by
  obtain ⟨q, hq⟩ := wl_get (h := h) ha rfl
  exact Or.inl ⟨q, _, hq⟩
theorem fr_sub {k : KC} {h : Wd} {A : Nat → Prop} {H H0 : Heap} {locs : List Loc} (hP : PP k A h H) (hS : va_S A H0 H locs) (hA : ∀ q : Nat, H0.size ≤ q → A q) : ∀ q, fr h H.size q → A q := by
  rintro q (⟨i, e, hi⟩ | hq)
  · exact hP.2.2 i (q, e) hi
  · exact hA q (Nat.le_trans hS.1 hq)
theorem PP.self {k : KC} {h : Wd} {A : Nat → Prop} {H : Heap} (hP : PP k A h H) : PP k (fr h H.size) h H := ⟨hP.1, hP.2.self⟩
theorem PP.up {k : KC} {h : Wd} {A B : Nat → Prop} {H : Heap} (hP : PP k A h H) (hAB : ∀ q, A q → B q) : PP k B h H := ⟨hP.1, hP.2.weaken fun _ q _ => hAB q.1⟩

theorem x_getf (G : GX p l R s m args meth c k A own cc nL ret) {ci idx N j a : Nat} {ref C : String} {T : u_T} {fs : List Value} {v : Value} (ha : a ∈ h.1) (hf : h.2 a = .inr (ci, fs)) (hc : vwCl[ci]? = some (C, T, N)) (hin : ∀ w ∈ u_ws C T N, w ∈ TB) (hj : j < N) (hlink : Cond.fieldLink own idx ref (T j).2.1 (T j).2.2.1 ∈ TB) (hsame : ∀ x, s.fieldFound? (T j).1 (T j).2.1 (T j).2.2.1 = some x → s.fieldFound? ref (T j).2.1 (T j).2.2.1 = some x) (hv : fs[j]? = some v) (d : decode cc pc = .ok (.getfield idx, 3)) (kk : Wx p l e R s m args below meth c k A nL Q bc bs (pc + 3) L (v :: st) h) : Wx p l e R s m args below meth c k A nL Q bc bs pc L (.ref a :: st) h := by
  intro H locs ls cells slots h1 h2 hP hS hl
  obtain ⟨q0, he⟩ := wl_get ha hf
  exact va_get G.1 G.2.1 G.2.2.2.2.1 hin G.2.2.2.1 G.2.2.2.2.2.2.1.1 hP.1 q0 he hc j hj (G.2.2.2.2.1 _ hlink) hsame hv d (kk H locs ls cells slots h1 h2 hP hS hl)
theorem x_putf (G : GX p l R s m args meth c k A own cc nL ret) {ci idx N j a : Nat} {ref C : String} {T : u_T} {fs : List Value} {v : Value} (ha : a ∈ h.1) (hf : h.2 a = .inr (ci, fs)) (hc : vwCl[ci]? = some (C, T, N)) (hin : ∀ w ∈ u_ws C T N, w ∈ TB) (hj : j < N) (hlink : Cond.fieldLink own idx ref (T j).2.1 (T j).2.2.1 ∈ TB) (hsame : ∀ x, s.fieldFound? (T j).1 (T j).2.1 (T j).2.2.1 = some x → s.fieldFound? ref (T j).2.1 (T j).2.2.1 = some x) (ty : Nat → FieldType) (hty : ∀ k, k < N → parseFieldDescriptor (T k).2.2.1 = some (ty k)) (hnm : ∀ a, a < N → ∀ b, b < N → a ≠ b → (T a).2.1 ≠ (T b).2.1) (hfin : (T j).2.2.2 = false) (hn : narrow (ty j) v = v) (hfit : fits (ty j) v = true) (hlen : j < fs.length) (d : decode cc pc = .ok (.putfield idx, 3)) (kk : Wx p l e R s m args below meth c k A nL Q bc bs (pc + 3) L st (h.1, va_up h.2 a (.inr (ci, fs.set j v)))) : Wx p l e R s m args below meth c k A nL Q bc bs pc L (v :: .ref a :: st) h := by
  intro H locs ls cells slots h1 h2 hP hS hl
  obtain ⟨q0, he⟩ := wl_get ha hf
  refine va_put G.1 G.2.1 G.2.2.2.2.1 hin ty hty hnm G.2.2.2.1 G.2.2.2.2.2.2.1.1 hP.1 hP.2 hS q0 he hc j hj (G.2.2.2.2.1 _ hlink) hsame hfin (hty j hj) hn hfit hlen d (fun H1 l1 p1 d1 s1 => ?_)
  rw [wl_set hP.2 ha hf he] at p1 d1
  exact kk H1 l1 ls cells slots h1 h2 ⟨p1, d1⟩ s1 hl
theorem x_putF (G : GX p l R s m args meth c k A own cc nL ret) {ci idx N j a : Nat} {ref C : String} {T : u_T} {fs : List Value} {v : Value} (ha : a ∈ h.1) (hf : h.2 a = .inr (ci, fs)) (hc : vwCl[ci]? = some (C, T, N)) (hin : ∀ w ∈ u_ws C T N, w ∈ TB) (hj : j < N) (hlink : Cond.fieldLink own idx ref (T j).2.1 (T j).2.2.1 ∈ TB) (hsame : ∀ x, s.fieldFound? (T j).1 (T j).2.1 (T j).2.2.1 = some x → s.fieldFound? ref (T j).2.1 (T j).2.2.1 = some x) (ty : Nat → FieldType) (hty : ∀ k, k < N → parseFieldDescriptor (T k).2.2.1 = some (ty k)) (hnm : ∀ a, a < N → ∀ b, b < N → a ≠ b → (T a).2.1 ≠ (T b).2.1) (hfin : (T j).2.2.2 = true) (hini : meth.name = "<init>") (hdecl : (T j).1 = own) (hn : narrow (ty j) v = v) (hfit : fits (ty j) v = true) (hlen : j < fs.length) (d : decode cc pc = .ok (.putfield idx, 3)) (kk : Wx p l e R s m args below meth c k A nL Q bc bs (pc + 3) L st (h.1, va_up h.2 a (.inr (ci, fs.set j v)))) : Wx p l e R s m args below meth c k A nL Q bc bs pc L (v :: .ref a :: st) h := by
  intro H locs ls cells slots h1 h2 hP hS hl
  obtain ⟨q0, he⟩ := wl_get ha hf
  refine va_putF G.1 G.2.1 G.2.2.2.2.1 hin ty hty hnm G.2.2.2.1 G.2.2.2.2.2.2.1.1 hP.1 hP.2 hS q0 he hc j hj (G.2.2.2.2.1 _ hlink) hsame hfin hini hdecl (hty j hj) hn hfit hlen d (fun H1 l1 p1 d1 s1 => ?_)
  rw [wl_set hP.2 ha hf he] at p1 d1
  exact kk H1 l1 ls cells slots h1 h2 ⟨p1, d1⟩ s1 hl
theorem x_new (G : GX p l R s m args meth c k A own cc nL ret) {ci idx N : Nat} {C : String} {T : u_T} {fs : List Value} {bc1 bs1 : Nat} (hin : ∀ w ∈ u_ws C T N, w ∈ TB) (ty : Nat → FieldType) (hty : ∀ k, k < N → parseFieldDescriptor (T k).2.2.1 = some (ty k)) (hcl : Cond.classLink own idx C ∈ TB) (hinst : Cond.instantiable C N ∈ TB) (hini : Cond.initialized C ∈ TB) (hc : vwCl[ci]? = some (C, T, N)) (hfs : ∀ j, j < N → defaultValue (ty j) = vp_V fs j) (hb1 : bc1 + 1 ≤ bc) (hb2 : bs1 + N ≤ bs) (d : decode cc pc = .ok (.new idx, 3)) (kk : ∀ q : Nat, q ∉ h.1 → Wx p l e R s m args below meth c k A nL Q bc1 bs1 (pc + 3) L (.ref q :: st) (h.1 ++ [q], va_up h.2 q (.inr (ci, fs)))) : Wx p l e R s m args below meth c k A nL Q bc bs pc L st h := by
  intro H locs ls cells slots h1 h2 hP hS hl
  refine va_new G.1 G.2.1 G.2.2.2.2.1 hin ty hty G.2.2.2.1 (G.2.2.2.2.1 _ hcl) (G.2.2.2.2.1 _ hinst) (G.2.2.2.2.1 _ hini) G.2.2.2.2.2.2.1.1 hP.1 hP.2 hS G.2.2.2.2.2.2.2.2.1 hc hfs (by omega) (by omega) d (fun q H1 p1 d1 s1 => ?_)
  have hq := wl_new d1
  rw [wl_push hq] at p1 d1
  exact kk q hq H1 locs ls (cells + 1) (slots + N) (by omega) (by omega) ⟨p1, d1⟩ s1 hl
theorem x_iald (G : GX p l R s m args meth c k A own cc nL ret) {a n : Nat} {f : Nat → Int32} {i : Int32} (ha : a ∈ h.1) (hf : h.2 a = .inl (k.2.1, n, .inl f)) (hi : vp_in i n) (d : decode cc pc = .ok (.iaload, 1)) (kk : Wx p l e R s m args below meth c k A nL Q bc bs (pc + 1) L (.int (f i.toNatClampNeg) :: st) h) : Wx p l e R s m args below meth c k A nL Q bc bs pc L (.int i :: .ref a :: st) h := by
  intro H locs ls cells slots h1 h2 hP hS hl
  obtain ⟨q0, he⟩ := wl_get ha hf
  exact va_iald G.1 G.2.1 G.2.2.2.2.2.2.1.1 hP.1 q0 0 he rfl hi d (kk H locs ls cells slots h1 h2 hP hS hl)
theorem x_iast (G : GX p l R s m args meth c k A own cc nL ret) {a n : Nat} {f : Nat → Int32} {i : Int32} {x : Int32} (ha : a ∈ h.1) (hf : h.2 a = .inl (k.2.1, n, .inl f)) (hi : vp_in i n) (d : decode cc pc = .ok (.iastore, 1)) (kk : Wx p l e R s m args below meth c k A nL Q bc bs (pc + 1) L st (h.1, va_up h.2 a (.inl (k.2.1, n, .inl (upd f i.toNatClampNeg x))))) : Wx p l e R s m args below meth c k A nL Q bc bs pc L (.int x :: .int i :: .ref a :: st) h := by
  intro H locs ls cells slots h1 h2 hP hS hl
  obtain ⟨q0, he⟩ := wl_get ha hf
  refine va_iast G.1 G.2.1 G.2.2.2.2.2.2.1.1 hP.1 hP.2 hS q0 0 he rfl hi d (fun H1 l1 p1 d1 s1 => ?_)
  rw [wl_set hP.2 ha hf he] at p1 d1
  exact kk H1 l1 ls cells slots h1 h2 ⟨p1, d1⟩ s1 hl
theorem x_zald (G : GX p l R s m args meth c k A own cc nL ret) {a n : Nat} {f : Nat → Int32} {i : Int32} (ha : a ∈ h.1) (hf : h.2 a = .inl (k.2.2.2.1, n, .inl f)) (hi : vp_in i n) (d : decode cc pc = .ok (.baload, 1)) (kk : Wx p l e R s m args below meth c k A nL Q bc bs (pc + 1) L (.int (f i.toNatClampNeg) :: st) h) : Wx p l e R s m args below meth c k A nL Q bc bs pc L (.int i :: .ref a :: st) h := by
  intro H locs ls cells slots h1 h2 hP hS hl
  obtain ⟨q0, he⟩ := wl_get ha hf
  exact va_zald G.1 G.2.1 G.2.2.2.2.2.2.1.1 hP.1 q0 2 he rfl hi d (kk H locs ls cells slots h1 h2 hP hS hl)
theorem x_zast (G : GX p l R s m args meth c k A own cc nL ret) {a n : Nat} {f : Nat → Int32} {i : Int32} {x : Int32} (ha : a ∈ h.1) (hf : h.2 a = .inl (k.2.2.2.1, n, .inl f)) (hi : vp_in i n) (d : decode cc pc = .ok (.bastore, 1)) (kk : Wx p l e R s m args below meth c k A nL Q bc bs (pc + 1) L st (h.1, va_up h.2 a (.inl (k.2.2.2.1, n, .inl (upd f i.toNatClampNeg (vp_nar .boolean x)))))) : Wx p l e R s m args below meth c k A nL Q bc bs pc L (.int x :: .int i :: .ref a :: st) h := by
  intro H locs ls cells slots h1 h2 hP hS hl
  obtain ⟨q0, he⟩ := wl_get ha hf
  refine va_zast G.1 G.2.1 G.2.2.2.2.2.2.1.1 hP.1 hP.2 hS q0 2 he rfl hi d (fun H1 l1 p1 d1 s1 => ?_)
  rw [wl_set hP.2 ha hf he] at p1 d1
  exact kk H1 l1 ls cells slots h1 h2 ⟨p1, d1⟩ s1 hl
theorem x_lald (G : GX p l R s m args meth c k A own cc nL ret) {a n : Nat} {f : Nat → Int64} {i : Int32} (ha : a ∈ h.1) (hf : h.2 a = .inl (k.2.2.1, n, .inr (.inl f))) (hi : vp_in i n) (d : decode cc pc = .ok (.laload, 1)) (kk : Wx p l e R s m args below meth c k A nL Q bc bs (pc + 1) L (.long (f i.toNatClampNeg) :: st) h) : Wx p l e R s m args below meth c k A nL Q bc bs pc L (.int i :: .ref a :: st) h := by
  intro H locs ls cells slots h1 h2 hP hS hl
  obtain ⟨q0, he⟩ := wl_get ha hf
  exact va_lald G.1 G.2.1 G.2.2.2.2.2.2.1.1 hP.1 q0 1 he rfl hi d (kk H locs ls cells slots h1 h2 hP hS hl)
theorem x_last (G : GX p l R s m args meth c k A own cc nL ret) {a n : Nat} {f : Nat → Int64} {i : Int32} {x : Int64} (ha : a ∈ h.1) (hf : h.2 a = .inl (k.2.2.1, n, .inr (.inl f))) (hi : vp_in i n) (d : decode cc pc = .ok (.lastore, 1)) (kk : Wx p l e R s m args below meth c k A nL Q bc bs (pc + 1) L st (h.1, va_up h.2 a (.inl (k.2.2.1, n, .inr (.inl (vp_updL f i.toNatClampNeg x)))))) : Wx p l e R s m args below meth c k A nL Q bc bs pc L (.long x :: .int i :: .ref a :: st) h := by
  intro H locs ls cells slots h1 h2 hP hS hl
  obtain ⟨q0, he⟩ := wl_get ha hf
  refine va_last G.1 G.2.1 G.2.2.2.2.2.2.1.1 hP.1 hP.2 hS q0 1 he rfl hi d (fun H1 l1 p1 d1 s1 => ?_)
  rw [wl_set hP.2 ha hf he] at p1 d1
  exact kk H1 l1 ls cells slots h1 h2 ⟨p1, d1⟩ s1 hl
theorem x_qald (G : GX p l R s m args meth c k A own cc nL ret) {a n : Nat} {f : Nat → Option Nat} {i : Int32} (ha : a ∈ h.1) (hf : h.2 a = .inl (k.2.2.2.2.1, n, .inr (.inr (.inr (.inr f))))) (hi : vp_in i n) (d : decode cc pc = .ok (.aaload, 1)) (kk : Wx p l e R s m args below meth c k A nL Q bc bs (pc + 1) L (va_rf (f i.toNatClampNeg) :: st) h) : Wx p l e R s m args below meth c k A nL Q bc bs pc L (.int i :: .ref a :: st) h := by
  intro H locs ls cells slots h1 h2 hP hS hl
  obtain ⟨q0, he⟩ := wl_get ha hf
  exact va_aldq G.1 G.2.1 G.2.2.2.2.2.2.1.1 hP.1 q0 3 he rfl hi d (kk H locs ls cells slots h1 h2 hP hS hl)
theorem x_qast (G : GX p l R s m args meth c k A own cc nL ret) {a n v ci : Nat} {vs : List Value} {r : vw_C} {f : Nat → Option Nat} {i : Int32} (ha : a ∈ h.1) (hf : h.2 a = .inl (k.2.2.2.2.1, n, .inr (.inr (.inr (.inr f))))) (hv : v ∈ h.1) (hvf : h.2 v = .inr (ci, vs)) (hc : vwCl[ci]? = some r) (hca : (r.1, "java/lang/Object") ∈ xs_cast) (hi : vp_in i n) (d : decode cc pc = .ok (.aastore, 1)) (kk : Wx p l e R s m args below meth c k A nL Q bc bs (pc + 1) L st (h.1, va_up h.2 a (.inl (k.2.2.2.2.1, n, .inr (.inr (.inr (.inr (va_up f i.toNatClampNeg (some v))))))))) : Wx p l e R s m args below meth c k A nL Q bc bs pc L (.ref v :: .int i :: .ref a :: st) h := by
  intro H locs ls cells slots h1 h2 hP hS hl
  obtain ⟨q0, he⟩ := wl_get ha hf
  obtain ⟨q1, he1⟩ := wl_get hv hvf
  refine va_astqO G.1 G.2.1 G.2.2.2.2.2.2.1.1 hP.1 hP.2 hS q0 3 q1 ci he rfl (G.2.2.2.2.2.2.1.2.2.1 _ hca) he1 hc hi d (fun H1 l1 p1 d1 s1 => ?_)
  rw [wl_set hP.2 ha hf he] at p1 d1
  exact kk H1 l1 ls cells slots h1 h2 ⟨p1, d1⟩ s1 hl
theorem x_ilen (G : GX p l R s m args meth c k A own cc nL ret) {a : Nat} {x : vp_A} (ha : a ∈ h.1) (hf : h.2 a = .inl (k.2.1, x)) (d : decode cc pc = .ok (.arraylength, 1)) (kk : Wx p l e R s m args below meth c k A nL Q bc bs (pc + 1) L (.int (Int32.ofNat x.1) :: st) h) : Wx p l e R s m args below meth c k A nL Q bc bs pc L (.ref a :: st) h := by
  intro H locs ls cells slots h1 h2 hP hS hl
  obtain ⟨q0, he⟩ := wl_get ha hf
  exact va_alen G.1 G.2.1 G.2.2.2.2.2.2.1.1 hP.1 q0 0 he rfl rfl d (kk H locs ls cells slots h1 h2 hP hS hl)
theorem x_llen (G : GX p l R s m args meth c k A own cc nL ret) {a : Nat} {x : vp_A} (ha : a ∈ h.1) (hf : h.2 a = .inl (k.2.2.1, x)) (d : decode cc pc = .ok (.arraylength, 1)) (kk : Wx p l e R s m args below meth c k A nL Q bc bs (pc + 1) L (.int (Int32.ofNat x.1) :: st) h) : Wx p l e R s m args below meth c k A nL Q bc bs pc L (.ref a :: st) h := by
  intro H locs ls cells slots h1 h2 hP hS hl
  obtain ⟨q0, he⟩ := wl_get ha hf
  exact va_alen G.1 G.2.1 G.2.2.2.2.2.2.1.1 hP.1 q0 1 he rfl rfl d (kk H locs ls cells slots h1 h2 hP hS hl)
theorem x_zlen (G : GX p l R s m args meth c k A own cc nL ret) {a : Nat} {x : vp_A} (ha : a ∈ h.1) (hf : h.2 a = .inl (k.2.2.2.1, x)) (d : decode cc pc = .ok (.arraylength, 1)) (kk : Wx p l e R s m args below meth c k A nL Q bc bs (pc + 1) L (.int (Int32.ofNat x.1) :: st) h) : Wx p l e R s m args below meth c k A nL Q bc bs pc L (.ref a :: st) h := by
  intro H locs ls cells slots h1 h2 hP hS hl
  obtain ⟨q0, he⟩ := wl_get ha hf
  exact va_alen G.1 G.2.1 G.2.2.2.2.2.2.1.1 hP.1 q0 2 he rfl rfl d (kk H locs ls cells slots h1 h2 hP hS hl)
theorem x_qlen (G : GX p l R s m args meth c k A own cc nL ret) {a : Nat} {x : vp_A} (ha : a ∈ h.1) (hf : h.2 a = .inl (k.2.2.2.2.1, x)) (d : decode cc pc = .ok (.arraylength, 1)) (kk : Wx p l e R s m args below meth c k A nL Q bc bs (pc + 1) L (.int (Int32.ofNat x.1) :: st) h) : Wx p l e R s m args below meth c k A nL Q bc bs pc L (.ref a :: st) h := by
  intro H locs ls cells slots h1 h2 hP hS hl
  obtain ⟨q0, he⟩ := wl_get ha hf
  exact va_alen G.1 G.2.1 G.2.2.2.2.2.2.1.1 hP.1 q0 3 he rfl rfl d (kk H locs ls cells slots h1 h2 hP hS hl)
theorem x_zzlen (G : GX p l R s m args meth c k A own cc nL ret) (hA : A = A) (d : decode cc pc = .ok (.arraylength, 1)) (kk : Wx p l e R s m args below meth c k A nL Q bc bs (pc + 1) L (.int 0 :: st) h) : Wx p l e R s m args below meth c k A nL Q bc bs pc L (.ref k.2.2.2.2.2.1 :: st) h := by
  intro H locs ls cells slots h1 h2 hP hS hl
  exact va_tlen G.1 G.2.1 G.2.2.2.2.2.2.2.1.2.2.2 hS rfl d (kk H locs ls cells slots h1 h2 hP hS hl)
theorem x_getz (G : GX p l R s m args meth c k A own cc nL ret) {idx : Nat} (hlink : Cond.fieldLink own idx RJx4a65c "DEFAULTCAPACITY_EMPTY_ELEMENTDATA" "[Ljava/lang/Object;" ∈ TB) (d : decode cc pc = .ok (.getstatic idx, 3)) (kk : Wx p l e R s m args below meth c k A nL Q bc bs (pc + 3) L (.ref k.2.2.2.2.2.1 :: st) h) : Wx p l e R s m args below meth c k A nL Q bc bs pc L st h := by
  intro H locs ls cells slots h1 h2 hP hS hl
  exact va_gets G.1 G.2.1 G.2.2.2.2.2.2.2.1.2.2.1 hS G.2.2.2.1 (G.2.2.2.2.1 _ hlink) (fun _ h => h) d (kk H locs ls cells slots h1 h2 hP hS hl)
theorem ar_eq {k : KC} {s : State} {cA : ClassId} {ty : FieldType} (hK : va_K k.1 vwCl (kcT k) s) (k1 : va_K k.1 vwCl (kcT k ++ [(cA, ty)]) s) (i : Nat) {cB : ClassId} (hi : (kcT k)[i]? = some (cB, ty)) (hty : ∀ C, ty ≠ .object C) : cA = cB := by
  have a1 := (k1.2 4 (cA, ty) rfl).2
  have a2 := (hK.2 i (cB, ty) hi).2
  cases ty <;> first | (exact absurd rfl (hty _)) | exact Option.some.inj (a1.symm.trans a2)
theorem ar_eqQ {k : KC} {s : State} {cA : ClassId} (hK : va_K k.1 vwCl (kcT k) s) (k1 : va_K k.1 vwCl (kcT k ++ [(cA, .object "java/lang/Object")]) s) : cA = k.2.2.2.2.1 := by
  obtain ⟨-, -, -, -, -, a1⟩ := (k1.2 4 (cA, .object "java/lang/Object") rfl).2
  obtain ⟨-, -, -, -, -, a2⟩ := (hK.2 3 (k.2.2.2.2.1, .object "java/lang/Object") rfl).2
  exact Option.some.inj (a1.symm.trans a2)
theorem x_inewa (G : GX p l R s m args meth c k A own cc nL ret) {n : Int32} {N bc1 bs1 : Nat} (harr : Cond.arrayClass .int ∈ TB) (hn : ¬ n < 0) (hN : n.toNatClampNeg = N) (hby : N * componentBytes .int ≤ 536870912) (hb1 : bc1 + 1 ≤ bc) (hb2 : bs1 + N ≤ bs) (d : decode cc pc = .ok (.newarray .int, 2)) (kk : ∀ q : Nat, q ∉ h.1 → Wx p l e R s m args below meth c k A nL Q bc1 bs1 (pc + 2) L (.ref q :: st) (h.1 ++ [q], va_up h.2 q (.inl (k.2.1, N, .inl (fun _ => (0 : Int32)))))) : Wx p l e R s m args below meth c k A nL Q bc bs pc L (.int n :: st) h := by
  intro H locs ls cells slots h1 h2 hP hS hl
  refine va_newa (atype := .int) (ty := .int) (a0 := (N, .inl (fun _ => (0 : Int32)))) G.1 G.2.1 (G.2.2.2.2.1 _ harr) rfl G.2.2.2.2.2.2.1.1 hP.1 hP.2 hS G.2.2.2.2.2.2.2.2.1 (fun cA => rfl) hn hN hby (by omega) (by omega) d (fun q cA H1 k1 p1 d1 s1 => ?_)
  have hcA : cA = k.2.1 := ar_eq G.2.2.2.2.2.2.1.1 k1 0 rfl (fun _ h => by cases h)
  subst hcA
  have hq := wl_new d1
  rw [wl_push hq] at p1 d1
  exact kk q hq H1 locs ls (cells + 1) (slots + N) (by omega) (by omega) ⟨p1, d1⟩ s1 hl
theorem x_lnewa (G : GX p l R s m args meth c k A own cc nL ret) {n : Int32} {N bc1 bs1 : Nat} (harr : Cond.arrayClass .long ∈ TB) (hn : ¬ n < 0) (hN : n.toNatClampNeg = N) (hby : N * componentBytes .long ≤ 536870912) (hb1 : bc1 + 1 ≤ bc) (hb2 : bs1 + N ≤ bs) (d : decode cc pc = .ok (.newarray .long, 2)) (kk : ∀ q : Nat, q ∉ h.1 → Wx p l e R s m args below meth c k A nL Q bc1 bs1 (pc + 2) L (.ref q :: st) (h.1 ++ [q], va_up h.2 q (.inl (k.2.2.1, N, .inr (.inl (fun _ => (0 : Int64))))))) : Wx p l e R s m args below meth c k A nL Q bc bs pc L (.int n :: st) h := by
  intro H locs ls cells slots h1 h2 hP hS hl
  refine va_newa (atype := .long) (ty := .long) (a0 := (N, .inr (.inl (fun _ => (0 : Int64))))) G.1 G.2.1 (G.2.2.2.2.1 _ harr) rfl G.2.2.2.2.2.2.1.1 hP.1 hP.2 hS G.2.2.2.2.2.2.2.2.1 (fun cA => rfl) hn hN hby (by omega) (by omega) d (fun q cA H1 k1 p1 d1 s1 => ?_)
  have hcA : cA = k.2.2.1 := ar_eq G.2.2.2.2.2.2.1.1 k1 1 rfl (fun _ h => by cases h)
  subst hcA
  have hq := wl_new d1
  rw [wl_push hq] at p1 d1
  exact kk q hq H1 locs ls (cells + 1) (slots + N) (by omega) (by omega) ⟨p1, d1⟩ s1 hl
theorem x_znewa (G : GX p l R s m args meth c k A own cc nL ret) {n : Int32} {N bc1 bs1 : Nat} (harr : Cond.arrayClass .boolean ∈ TB) (hn : ¬ n < 0) (hN : n.toNatClampNeg = N) (hby : N * componentBytes .boolean ≤ 536870912) (hb1 : bc1 + 1 ≤ bc) (hb2 : bs1 + N ≤ bs) (d : decode cc pc = .ok (.newarray .boolean, 2)) (kk : ∀ q : Nat, q ∉ h.1 → Wx p l e R s m args below meth c k A nL Q bc1 bs1 (pc + 2) L (.ref q :: st) (h.1 ++ [q], va_up h.2 q (.inl (k.2.2.2.1, N, .inl (fun _ => (0 : Int32)))))) : Wx p l e R s m args below meth c k A nL Q bc bs pc L (.int n :: st) h := by
  intro H locs ls cells slots h1 h2 hP hS hl
  refine va_newa (atype := .boolean) (ty := .boolean) (a0 := (N, .inl (fun _ => (0 : Int32)))) G.1 G.2.1 (G.2.2.2.2.1 _ harr) rfl G.2.2.2.2.2.2.1.1 hP.1 hP.2 hS G.2.2.2.2.2.2.2.2.1 (fun cA => rfl) hn hN hby (by omega) (by omega) d (fun q cA H1 k1 p1 d1 s1 => ?_)
  have hcA : cA = k.2.2.2.1 := ar_eq G.2.2.2.2.2.2.1.1 k1 2 rfl (fun _ h => by cases h)
  subst hcA
  have hq := wl_new d1
  rw [wl_push hq] at p1 d1
  exact kk q hq H1 locs ls (cells + 1) (slots + N) (by omega) (by omega) ⟨p1, d1⟩ s1 hl
theorem x_qnewa (G : GX p l R s m args meth c k A own cc nL ret) {n : Int32} {N idx bc1 bs1 : Nat} (hcl : Cond.classLink own idx "java/lang/Object" ∈ TB) (hn : ¬ n < 0) (hN : n.toNatClampNeg = N) (hby : N * 4 ≤ 536870912) (hb1 : bc1 + 1 ≤ bc) (hb2 : bs1 + N ≤ bs) (d : decode cc pc = .ok (.anewarray idx, 3)) (kk : ∀ q : Nat, q ∉ h.1 → Wx p l e R s m args below meth c k A nL Q bc1 bs1 (pc + 3) L (.ref q :: st) (h.1 ++ [q], va_up h.2 q (.inl (k.2.2.2.2.1, N, .inr (.inr (.inr (.inr (fun _ => none)))))))) : Wx p l e R s m args below meth c k A nL Q bc bs pc L (.int n :: st) h := by
  intro H locs ls cells slots h1 h2 hP hS hl
  refine va_newq G.1 G.2.1 G.2.2.2.1 (G.2.2.2.2.1 _ hcl) G.2.2.2.2.2.2.1.2.2.2.2.2.2.1 G.2.2.2.2.2.2.1.1 hP.1 hP.2 hS G.2.2.2.2.2.2.2.2.1 hn hN hby (by omega) (by omega) d (fun q cA H1 k1 p1 d1 s1 => ?_)
  have hcA : cA = k.2.2.2.2.1 := ar_eqQ G.2.2.2.2.2.2.1.1 k1
  subst hcA
  have hq := wl_new d1
  rw [wl_push hq] at p1 d1
  exact kk q hq H1 locs ls (cells + 1) (slots + N) (by omega) (by omega) ⟨p1, d1⟩ s1 hl
theorem x_cast (G : GX p l R s m args meth c k A own cc nL ret) {ci idx N a : Nat} {C : String} {T : u_T} {fs : List Value} (ha : a ∈ h.1) (hf : h.2 a = .inr (ci, fs)) (hc : vwCl[ci]? = some (C, T, N)) (hlink : Cond.classLink own idx C ∈ TB) (d : decode cc pc = .ok (.checkcast idx, 3)) (kk : Wx p l e R s m args below meth c k A nL Q bc bs (pc + 3) L (.ref a :: st) h) : Wx p l e R s m args below meth c k A nL Q bc bs pc L (.ref a :: st) h := by
  intro H locs ls cells slots h1 h2 hP hS hl
  obtain ⟨q0, he⟩ := wl_get ha hf
  exact va_castS G.1 G.2.1 G.2.2.2.1 (G.2.2.2.2.1 _ hlink) (G.2.2.2.2.2.2.1.1.1 ci _ hc).2 (va_recv G.2.2.2.2.2.2.1.1 hP.1 hc he) d (kk H locs ls cells slots h1 h2 hP hS hl)
theorem x_castN (G : GX p l R s m args meth c k A own cc nL ret) {idx : Nat} (d : decode cc pc = .ok (.checkcast idx, 3)) (kk : Wx p l e R s m args below meth c k A nL Q bc bs (pc + 3) L (.null :: st) h) : Wx p l e R s m args below meth c k A nL Q bc bs pc L (.null :: st) h := by
  intro H locs ls cells slots h1 h2 hP hS hl
  exact lv_castN G.1 G.2.1 d (kk H locs ls cells slots h1 h2 hP hS hl)
theorem x_mmax (G : GX p l R s m args meth c k A own cc nL ret) {idx : Nat} {x y : Int32} (hlink : Cond.methodLink own idx Lib.Math.max.name ∈ TB) (hst : Cond.static Lib.Math.max.name ∈ TB) (hini : Cond.initialized "java/lang/Math" ∈ TB) (hcode : Cond.code Lib.Math.max.name Lib.Math.max.code 2 (some .int) ∈ TB) (hfr : 1 ≤ R.frames) (hlo : (st.map fun v => v.category).sum + 13 ≤ R.locals) (d : decode cc pc = .ok (.invokestatic idx, 3)) (kk : Wx p l e R s m args below meth c k A nL Q bc bs (pc + 3) L (.int (if x < y then y else x) :: st) h) : Wx p l e R s m args below meth c k A nL Q bc bs pc L (.int y :: .int x :: st) h := by
  intro H locs ls cells slots h1 h2 hP hS hl
  exact va_mmax G.1 G.2.1 (by rw [hl.1]; exact G.2.2.1) G.2.2.2.1 (G.2.2.2.2.1 _ hlink) (G.2.2.2.2.1 _ hst) (G.2.2.2.2.1 _ hini) (G.2.2.2.2.1 _ hcode) hfr hlo (by omega) (by omega) d (kk H locs ls cells slots h1 h2 hP hS hl)
theorem x_mmin (G : GX p l R s m args meth c k A own cc nL ret) {idx : Nat} {x y : Int32} (hlink : Cond.methodLink own idx Lib.Math.min.name ∈ TB) (hst : Cond.static Lib.Math.min.name ∈ TB) (hini : Cond.initialized "java/lang/Math" ∈ TB) (hcode : Cond.code Lib.Math.min.name Lib.Math.min.code 2 (some .int) ∈ TB) (hfr : 1 ≤ R.frames) (hlo : (st.map fun v => v.category).sum + 13 ≤ R.locals) (d : decode cc pc = .ok (.invokestatic idx, 3)) (kk : Wx p l e R s m args below meth c k A nL Q bc bs (pc + 3) L (.int (if y < x then y else x) :: st) h) : Wx p l e R s m args below meth c k A nL Q bc bs pc L (.int y :: .int x :: st) h := by
  intro H locs ls cells slots h1 h2 hP hS hl
  exact va_mmin G.1 G.2.1 (by rw [hl.1]; exact G.2.2.1) G.2.2.2.1 (G.2.2.2.2.1 _ hlink) (G.2.2.2.2.1 _ hst) (G.2.2.2.2.1 _ hini) (G.2.2.2.2.1 _ hcode) hfr hlo (by omega) (by omega) d (kk H locs ls cells slots h1 h2 hP hS hl)
theorem x_mminl (G : GX p l R s m args meth c k A own cc nL ret) {idx : Nat} {x y : Int64} (hlink : Cond.methodLink own idx Lib.MathLoose.min_long.x ∈ TB) (hst : Cond.static Lib.MathLoose.min_long.x ∈ TB) (hini : Cond.initialized "java/lang/Math" ∈ TB) (hcode : Cond.code Lib.MathLoose.min_long.x Lib.MathLoose.min_long.code 4 (some .long) ∈ TB) (hfr : 1 ≤ R.frames) (hlo : (st.map fun v => v.category).sum + 15 ≤ R.locals) (d : decode cc pc = .ok (.invokestatic idx, 3)) (kk : Wx p l e R s m args below meth c k A nL Q bc bs (pc + 3) L (.long (if y < x then y else x) :: st) h) : Wx p l e R s m args below meth c k A nL Q bc bs pc L (.long y :: .long x :: st) h := by
  intro H locs ls cells slots h1 h2 hP hS hl
  exact va_mmin_long G.1 G.2.1 (by rw [hl.1]; exact G.2.2.1) G.2.2.2.1 (G.2.2.2.2.1 _ hlink) (G.2.2.2.2.1 _ hst) (G.2.2.2.2.1 _ hini) (G.2.2.2.2.1 _ hcode) hfr hlo (by omega) (by omega) d (kk H locs ls cells slots h1 h2 hP hS hl)
/-- an end: what was returned, or the class thrown -/
abbrev Out : Type := Option Value ⊕ String
def xQ (k : KC) (h : Wd) (sz : Nat) (post : Out → Wd → Prop) : Array Value → State → Outcome → State → Prop := fun _ st o t => (∃ v h', o = .returned v ∧ post (.inl v) h' ∧ PP k (fr h sz) h' t.heap) ∧ va_F (fr h sz) st t
def xX (k : KC) (h : Wd) (sz : Nat) (post : Out → Wd → Prop) : String → State → State → Prop := fun E st t => (∃ h', post (.inr E) h' ∧ PP k (fr h sz) h' t.heap) ∧ va_F (fr h sz) st t
def BB (k : KC) (h : Wd) (sz : Nat) (U : State) : Prop := U.heap.size = sz ∧ PP k (fr h sz) h U.heap ∧ EV k U ∧ ZQ k (fr h sz) U U.heap
/-- a method's contract: from every state that holds the world h, called with av, it ends as 'post' says -/
def MC (l : Launch) (k : KC) (y : MethodName) (cw : Cond) (rm : Room) (av : List Value) (h : Wd) (post : Out → Wd → Prop) : Prop :=
  ∀ sz : Nat, vx_Met l y (cw :: TB) rm (va_Pc av (BB k h sz)) (xQ k h sz post) (xX k h sz post) rm.cells rm.slots (fr h sz)
/-- a constructor's: it doesn't throw -/
def MI (l : Launch) (k : KC) (y : MethodName) (cw : Cond) (rm : Room) (av : List Value) (h : Wd) (post : Out → Wd → Prop) : Prop :=
  ∀ sz : Nat, Met l y (cw :: TB) rm (va_Pc av (BB k h sz)) (xQ k h sz post) rm.cells rm.slots (fr h sz)
theorem MC.imp {l : Launch} {k : KC} {y : MethodName} {cw : Cond} {rm : Room} {av : List Value} {h : Wd} {P P' : Out → Wd → Prop} (hM : MC l k y cw rm av h P) (hP : ∀ o h', P o h' → P' o h') : MC l k y cw rm av h P' := by
  intro sz p e ha hc hk s m args below hf happ hpre h9
  obtain ⟨n, o, a1, a2, a3, hq⟩ := hM sz p e ha hc hk s m args below hf happ hpre h9
  refine ⟨n, o, a1, a2, a3, ?_⟩
  rcases hq with ⟨⟨⟨v, h', e1, e2, e3⟩, e4⟩, e5⟩ | ⟨q, rfl, E, ce, L9, ⟨⟨h', e2, e3⟩, e4⟩, e5⟩
  · exact Or.inl ⟨⟨⟨v, h', e1, hP _ _ e2, e3⟩, e4⟩, e5⟩
  · exact Or.inr ⟨q, rfl, E, ce, L9, ⟨⟨h', hP _ _ e2, e3⟩, e4⟩, e5⟩
theorem BB.blind {k : KC} {h : Wd} {sz : Nat} {av : List Value} : FrameBlind (va_Pc av (BB k h sz)) := fun a U g mk q =>
  ⟨q.1, q.2.1, q.2.2.1, EV.warm (s := U) (U := U.calling g mk a) (State.WarmedH.refl U) q.2.2.2.1, ZQ.moved (u := U) (U := U.calling g mk a) (Vm.Alike.refl U.vm) q.2.2.2.2⟩
theorem BB.of {k : KC} {A : Nat → Prop} {h : Wd} {s U : State} {H : Heap} {locs : List Loc} (hE : EV k s) (hZ : ZQ k A s s.heap) (hP : PP k A h H) (hS : va_S A s.heap H locs) (hA : ∀ q : Nat, s.heap.size ≤ q → A q) (hU : U.heap = H) (hW : s.WarmedH U.vm) : BB k h H.size U := by
  refine ⟨by rw [hU], by rw [hU]; exact hP.self, hE.warm hW, ?_⟩
  rw [hU]
  exact ((hZ.kept hS.2.1).moved hW.alike).narrow (fr_sub hP hS hA)
theorem tb_ok {w : Cond} (h : w ∈ TB) : (w.onTables && w.keeps) = true ∨ ∃ ty, w = .arrayClass ty := good_of_word (List.mem_filter.mp h).2
/-- a class thrown over the frame -/
def Xx (p : Program) (l : Launch) (e : Env) (R : Room) (s : State) (m : MethodId) (args : Array Value) (below : List Frame) (meth : Method) (c : Code) (k : KC) (A : Nat → Prop) (nL : Nat) (Q : State → Prop) (bc bs pc : Nat) (L : List (Option Value)) (st : List Value) (h : Wd) (E : String) : Prop :=
  ∀ (H : Heap) (locs : List Loc) (ls : Array Slot) (cells slots : Nat) (q : Addr) (ce : Cell), cells + bc ≤ R.cells → slots + bs ≤ R.slots → PP k A h H → va_S A s.heap H locs → lp_has ls nL L → H[q]? = some ce → ce.vm = .none → s.vm.findClass E = some ce.cls → vx_W p l e R s m args below meth c H locs cells slots Q (F0 m pc ls st) q
theorem x_goes {bc1 bs1 mc ms : Nat} {st0 : List Value} {post : Out → Wd → Prop} {a9 : Array Value} (G : GX p l R s m args meth c k A own cc nL ret)
    (hr : ∀ (H : Heap) (locs : List Loc) (ls : Array Slot) (cells slots : Nat), cells + mc ≤ R.cells → slots + ms ≤ R.slots → PP k A h H → va_S A s.heap H locs → lp_has ls nL L → vx_Run p l e R s m args below meth c H locs cells slots mc ms (F0 m pc ls st0) st (xQ k h H.size post a9) (xX k h H.size post) (fr h H.size))
    (hb1 : bc1 + mc ≤ bc) (hb2 : bs1 + ms ≤ bs)
    (kk : ∀ v h', post (.inl v) h' → Wx p l e R s m args below meth c k A nL Q bc1 bs1 (pc + 3) L (v.toList ++ st) h')
    (kx : ∀ E h', post (.inr E) h' → Xx p l e R s m args below meth c k A nL Q bc1 bs1 pc L st h' E) : Wx p l e R s m args below meth c k A nL Q bc bs pc L st0 h := by
  intro H locs ls cells slots h1 h2 hP hS hl T hT X
  have hsub := fr_sub hP hS G.2.2.2.2.2.2.2.2.1
  rcases hr H locs ls cells slots (by omega) (by omega) hP hS hl T hT X with ⟨v, st₀, t, T', L9, h0, X', hL, e1, e2, ⟨⟨v', h', hv, hp, hPP⟩, hF⟩, stp⟩ | ⟨q, st₀, t, T', L9, E, ce, h0, X', hL, e1, e2, ⟨⟨h', hp, hPP⟩, hF⟩, hce, hcv, hcl, stp⟩
  · cases hv
    obtain ⟨k1, k2, k3⟩ := vx_keep h0 e1 hS (fun q _ => hsub q) hsub hL hF
    obtain ⟨t2, a1, b1⟩ := kk v h' hp T'.heap (locs ++ L9) ls (cells + mc) (slots + ms) (by omega) (by omega) (by rw [e1]; exact hPP.up hsub) k3 hl T' rfl X'
    exact ⟨t2, stp t2 a1, b1⟩
  · obtain ⟨k1, k2, k3⟩ := vx_keep h0 e1 hS (fun q _ => hsub q) hsub hL hF
    obtain ⟨t2, a1, b1⟩ := kx E h' hp T'.heap (locs ++ L9) ls (cells + mc) (slots + ms) q ce (by omega) (by omega) (by rw [e1]; exact hPP.up hsub) k3 hl (by rw [e1]; exact hce) hcv hcl T' rfl X'
    exact ⟨t2, stp.trans a1, b1⟩
theorem x_goesI {bc1 bs1 mc ms : Nat} {st0 : List Value} {post : Out → Wd → Prop} {a9 : Array Value} (G : GX p l R s m args meth c k A own cc nL ret)
    (hr : ∀ (H : Heap) (locs : List Loc) (ls : Array Slot) (cells slots : Nat), cells + mc ≤ R.cells → slots + ms ≤ R.slots → PP k A h H → va_S A s.heap H locs → lp_has ls nL L → va_Run p l e R s m args below meth c H locs cells slots mc ms (F0 m pc ls st0) st (xQ k h H.size post a9) (fr h H.size))
    (hb1 : bc1 + mc ≤ bc) (hb2 : bs1 + ms ≤ bs)
    (kk : ∀ v h', post (.inl v) h' → Wx p l e R s m args below meth c k A nL Q bc1 bs1 (pc + 3) L (v.toList ++ st) h') : Wx p l e R s m args below meth c k A nL Q bc bs pc L st0 h := by
  intro H locs ls cells slots h1 h2 hP hS hl T hT X
  have hsub := fr_sub hP hS G.2.2.2.2.2.2.2.2.1
  obtain ⟨v, st₀, t, T', L9, h0, X', hL, e1, e2, ⟨⟨v', h', hv, hp, hPP⟩, hF⟩, stp⟩ := hr H locs ls cells slots (by omega) (by omega) hP hS hl T hT X
  cases hv
  obtain ⟨k1, k2, k3⟩ := vx_keep h0 e1 hS (fun q _ => hsub q) hsub hL hF
  obtain ⟨t2, a1, b1⟩ := kk v h' hp T'.heap (locs ++ L9) ls (cells + mc) (slots + ms) (by omega) (by omega) (by rw [e1]; exact hPP.up hsub) k3 hl T' rfl X'
  exact ⟨t2, stp t2 a1, b1⟩

theorem x_callV {bc1 bs1 idx n maxL : Nat} {y : MethodName} {bytes : ByteArray} {rt : Option FieldType} {rm : Room} {As stk : List Value} {post : Out → Wd → Prop} {ci b N : Nat} {T : u_T} {fs : List Value} (G : GX p l R s m args meth c k A own cc nL ret) (hM : MC l k y (.code y bytes maxL rt) rm (.ref b :: As) h post) (hbm : b ∈ h.1) (hbf : h.2 b = .inr (ci, fs)) (hc : vwCl[ci]? = some (y.cls, T, N))
    (hlk : Cond.methodLink own idx y ∈ TB) (him : Cond.instanceMethod y ∈ TB) (hse : Cond.selects y.cls y y ∈ TB) (hin : Cond.initialized y.cls ∈ TB) (hco : Cond.code y bytes maxL rt ∈ TB) (hd : y.cls ≠ "java/lang/invoke/MethodHandle" ∧ y.cls ≠ "java/lang/invoke/VarHandle" ∧ (parseMethodDescriptor y.desc).map (fun d => d.parameters.length) = some n) (hR : rm.frames + 1 ≤ R.frames ∧ 8 + (maxL + 11) + rm.locals ≤ R.locals) (hw8 : (st.map fun v => v.category).sum ≤ 8) (hb1 : bc1 + rm.cells ≤ bc) (hb2 : bs1 + rm.slots ≤ bs) (hn : As.length = n) (hst : stk = As.reverse ++ .ref b :: st) (d : decode cc pc = .ok (.invokevirtual idx, 3)) (kk : ∀ v h9, post (.inl v) h9 → Wx p l e R s m args below meth c k A nL Q bc1 bs1 (pc + 3) L (v.toList ++ st) h9) (kx : ∀ E h9, post (.inr E) h9 → Xx p l e R s m args below meth c k A nL Q bc1 bs1 pc L st h9 E) : Wx p l e R s m args below meth c k A nL Q bc bs pc L stk h := by
  subst hst
  refine x_goes G (mc := rm.cells) (ms := rm.slots) (a9 := (Value.ref b :: As).toArray) (fun H locs ls cells slots h1 h2 hP hS hl => ?_) hb1 hb2 kk kx
  obtain ⟨q0, he⟩ := wl_get hbm hbf
  refine vx_runV (Ts := TB) (n := n) ⟨G.1, G.2.1, G.2.2.1, G.2.2.2.1, G.2.2.2.2.1⟩ (hM H.size) (cwV n G.2.2.2.2.1 (fun w hw => ?_) rfl rfl rfl ⟨rfl, hd⟩ hR) ⟨BB.blind, va_recv G.2.2.2.2.2.2.1.1 hP.1 hc he, fun U hU hW => ⟨rfl, BB.of G.2.2.2.2.2.2.1 G.2.2.2.2.2.2.2.1 hP hS G.2.2.2.2.2.2.2.2.1 hU hW⟩⟩ rfl hn hl.1 rfl (by simpa [JFrame.monitorRoom] using hw8) d ⟨h1, h2⟩
  have hT : w ∈ TB := by
    simp only [wsV, List.cons_append, List.nil_append, List.mem_cons] at hw
    rcases hw with rfl | rfl | rfl | rfl | rfl | hw <;> assumption
  exact ⟨hT, tb_ok hT⟩
theorem x_callS {bc1 bs1 idx n maxL : Nat} {y : MethodName} {bytes : ByteArray} {rt : Option FieldType} {rm : Room} {As stk : List Value} {post : Out → Wd → Prop} (G : GX p l R s m args meth c k A own cc nL ret) (hM : MC l k y (.code y bytes maxL rt) rm As h post)
    (hlk : Cond.methodLink own idx y ∈ TB) (hsm : Cond.static y ∈ TB) (hin : Cond.initialized y.cls ∈ TB) (hco : Cond.code y bytes maxL rt ∈ TB) (hd : y.cls ≠ "java/lang/invoke/MethodHandle" ∧ y.cls ≠ "java/lang/invoke/VarHandle" ∧ (parseMethodDescriptor y.desc).map (fun d => d.parameters.length) = some n) (hR : rm.frames + 1 ≤ R.frames ∧ 8 + (maxL + 11) + rm.locals ≤ R.locals) (hw8 : (st.map fun v => v.category).sum ≤ 8) (hb1 : bc1 + rm.cells ≤ bc) (hb2 : bs1 + rm.slots ≤ bs) (hn : As.length = n) (hst : stk = As.reverse ++ st) (d : decode cc pc = .ok (.invokestatic idx, 3)) (kk : ∀ v h9, post (.inl v) h9 → Wx p l e R s m args below meth c k A nL Q bc1 bs1 (pc + 3) L (v.toList ++ st) h9) (kx : ∀ E h9, post (.inr E) h9 → Xx p l e R s m args below meth c k A nL Q bc1 bs1 pc L st h9 E) : Wx p l e R s m args below meth c k A nL Q bc bs pc L stk h := by
  subst hst
  refine x_goes G (mc := rm.cells) (ms := rm.slots) (a9 := As.toArray) (fun H locs ls cells slots h1 h2 hP hS hl => ?_) hb1 hb2 kk kx
  refine vx_runS (Ts := TB) (n := n) ⟨G.1, G.2.1, G.2.2.1, G.2.2.2.1, G.2.2.2.2.1⟩ (hM H.size) (va_cwS n G.2.2.2.2.1 (fun w hw => ?_) rfl rfl rfl hd hR) ⟨BB.blind, fun U hU hW => ⟨rfl, BB.of G.2.2.2.2.2.2.1 G.2.2.2.2.2.2.2.1 hP hS G.2.2.2.2.2.2.2.2.1 hU hW⟩⟩ rfl hn hl.1 rfl (by simpa [JFrame.monitorRoom] using hw8) d ⟨h1, h2⟩
  have hT : w ∈ TB := by
    simp only [va_wsS, List.cons_append, List.nil_append, List.mem_cons] at hw
    rcases hw with rfl | rfl | rfl | rfl | hw <;> assumption
  exact ⟨hT, tb_ok hT⟩
theorem x_callI {bc1 bs1 idx n maxL : Nat} {y : MethodName} {bytes : ByteArray} {rm : Room} {As stk : List Value} {post : Out → Wd → Prop} {b : Nat} (G : GX p l R s m args meth c k A own cc nL ret) (hM : MI l k y (.code y bytes maxL none) rm (.ref b :: As) h post)
    (hlk : Cond.methodLink own idx y ∈ TB) (him : Cond.instanceMethod y ∈ TB) (hin : Cond.initialized y.cls ∈ TB) (hco : Cond.code y bytes maxL none ∈ TB) (hy1 : y.name = "<init>") (hd : y.cls ≠ "java/lang/invoke/MethodHandle" ∧ y.cls ≠ "java/lang/invoke/VarHandle" ∧ (parseMethodDescriptor y.desc).map (fun d => d.parameters.length) = some n) (hR : rm.frames + 1 ≤ R.frames ∧ 8 + (maxL + 11) + rm.locals ≤ R.locals) (hw8 : (st.map fun v => v.category).sum ≤ 8) (hb1 : bc1 + rm.cells ≤ bc) (hb2 : bs1 + rm.slots ≤ bs) (hn : As.length = n) (hst : stk = As.reverse ++ .ref b :: st) (d : decode cc pc = .ok (.invokespecial idx, 3)) (kk : ∀ v h9, post (.inl v) h9 → Wx p l e R s m args below meth c k A nL Q bc1 bs1 (pc + 3) L (v.toList ++ st) h9) : Wx p l e R s m args below meth c k A nL Q bc bs pc L stk h := by
  subst hst
  refine x_goesI G (mc := rm.cells) (ms := rm.slots) (a9 := (Value.ref b :: As).toArray) (fun H locs ls cells slots h1 h2 hP hS hl => ?_) hb1 hb2 kk
  refine va_runI (Ts := TB) (n := n) ⟨G.1, G.2.1, G.2.2.1, G.2.2.2.1, G.2.2.2.2.1⟩ (hM H.size) (cwI n G.2.2.2.2.1 (fun w hw => ?_) rfl rfl rfl (G.2.2.2.2.1 _ hin) (G.2.2.2.2.1 _ hlk) (G.2.2.2.2.1 _ him) hy1 hd hR) ⟨BB.blind, fun U hU hW => ⟨rfl, BB.of G.2.2.2.2.2.2.1 G.2.2.2.2.2.2.2.1 hP hS G.2.2.2.2.2.2.2.2.1 hU hW⟩⟩ rfl hn hl.1 rfl (by simpa [JFrame.monitorRoom] using hw8) d ⟨h1, h2⟩
  have hT : w ∈ TB := by
    simp only [List.mem_cons] at hw
    rcases hw with rfl | hw <;> assumption
  exact ⟨hT, tb_ok hT⟩
theorem x_callIN {bc1 bs1 idx n maxL : Nat} {y : MethodName} {bytes : ByteArray} {rm : Room} {As stk : List Value} {post : Out → Wd → Prop} {b : Nat} {host : String} (G : GX p l R s m args meth c k A own cc nL ret) (hM : MI l k y (.code y bytes maxL none) rm (.ref b :: As) h post)
    (hlk : (own, idx, y, host) ∈ xs_nest) (him : Cond.instanceMethod y ∈ TB) (hin : Cond.initialized y.cls ∈ TB) (hco : Cond.code y bytes maxL none ∈ TB) (hy1 : y.name = "<init>") (hd : y.cls ≠ "java/lang/invoke/MethodHandle" ∧ y.cls ≠ "java/lang/invoke/VarHandle" ∧ (parseMethodDescriptor y.desc).map (fun d => d.parameters.length) = some n) (hR : rm.frames + 1 ≤ R.frames ∧ 8 + (maxL + 11) + rm.locals ≤ R.locals) (hw8 : (st.map fun v => v.category).sum ≤ 8) (hb1 : bc1 + rm.cells ≤ bc) (hb2 : bs1 + rm.slots ≤ bs) (hn : As.length = n) (hst : stk = As.reverse ++ .ref b :: st) (d : decode cc pc = .ok (.invokespecial idx, 3)) (kk : ∀ v h9, post (.inl v) h9 → Wx p l e R s m args below meth c k A nL Q bc1 bs1 (pc + 3) L (v.toList ++ st) h9) : Wx p l e R s m args below meth c k A nL Q bc bs pc L stk h := by
  subst hst
  refine x_goesI G (mc := rm.cells) (ms := rm.slots) (a9 := (Value.ref b :: As).toArray) (fun H locs ls cells slots h1 h2 hP hS hl => ?_) hb1 hb2 kk
  refine va_runIN (Ts := TB) (n := n) ⟨G.1, G.2.1, G.2.2.1, G.2.2.2.1, G.2.2.2.2.1⟩ (hM H.size) ⟨va_cnB (host := host) n G.2.2.2.2.1 (fun w hw => ?_) rfl rfl rfl (G.2.2.2.2.2.2.1.2.2.2.1 _ hlk) (G.2.2.2.2.1 _ hin) hd hR, hy1, G.2.2.2.2.1 _ him⟩ ⟨BB.blind, fun U hU hW => ⟨rfl, BB.of G.2.2.2.2.2.2.1 G.2.2.2.2.2.2.2.1 hP hS G.2.2.2.2.2.2.2.2.1 hU hW⟩⟩ rfl hn hl.1 rfl (by simpa [JFrame.monitorRoom] using hw8) d ⟨h1, h2⟩
  have hT : w ∈ TB := by
    simp only [List.mem_cons] at hw
    rcases hw with rfl | hw <;> assumption
  exact ⟨hT, tb_ok hT⟩
theorem x_objInit (G : GX p l R s m args meth c k A own cc nL ret) {idx a : Nat} (hlk : Cond.methodLink own idx Lib.objectInit ∈ TB) (him : Cond.instanceMethod Lib.objectInit ∈ TB) (hco : Cond.code Lib.objectInit ⟨#[0xb1]⟩ 1 none ∈ TB) (hfr : 1 ≤ R.frames) (hlo : (st.map fun v => v.category).sum + 12 ≤ R.locals) (d : decode cc pc = .ok (.invokespecial idx, 3)) (kk : Wx p l e R s m args below meth c k A nL Q bc bs (pc + 3) L st h) : Wx p l e R s m args below meth c k A nL Q bc bs pc L (.ref a :: st) h := by
  intro H locs ls cells slots h1 h2 hP hS hl
  refine W.objInit G.1 G.2.1 G.2.2.2.1 (G.2.2.2.2.1 _ hlk) (G.2.2.2.2.1 _ him) (G.2.2.2.2.1 _ hco) rfl (by show ls.size = _; rw [hl.1]; exact G.2.2.1.symm) rfl d hfr (by simpa [JFrame.monitorRoom] using hlo) ?_
  exact W.eq (g2 := F0 m (pc + 3) ls st) rfl (kk H locs ls cells slots h1 h2 hP hS hl)
/-- how a body ends: what Q takes -/
def RQ (below : List Frame) (args : Array Value) (s : State) (R : Room) (k : KC) (A : Nat → Prop) (h0 : Wd) (post : Out → Wd → Prop) (Q : State → Prop) : Prop := A = fr h0 s.heap.size ∧ ∀ t, MQ below (xQ k h0 s.heap.size post) args s R.cells R.slots (fr h0 s.heap.size) t → Q t
def TQ (below : List Frame) (args : Array Value) (s : State) (R : Room) (k : KC) (h0 : Wd) (post : Out → Wd → Prop) (Q : State → Prop) : Prop := ∀ t, vx_MQ below (xQ k h0 s.heap.size post) (xX k h0 s.heap.size post) args s R.cells R.slots (fr h0 s.heap.size) t → Q t
theorem W_mono {H : Heap} {locs : List Loc} {cells slots : Nat} {Q1 Q2 : State → Prop} {g : JFrame} (hq : ∀ t, Q1 t → Q2 t) (kk : W p l e R s m args below meth c H locs cells slots Q1 g) : W p l e R s m args below meth c H locs cells slots Q2 g := fun T hT X => (kk T hT X).imp fun t ht => ⟨ht.1, hq t ht.2⟩
variable {h0 : Wd} {post : Out → Wd → Prop}
theorem x_iret (G : GX p l R s m args meth c k A own cc nL ret) (B : RQ below args s R k A h0 post Q) (hr : ret = some .int) {v : Int32} (d : decode cc pc = .ok (.ireturn, 1)) (hp : post (.inl (some (.int v))) h) : Wx p l e R s m args below meth c k A nL Q bc bs pc L [.int v] h := by
  intro H locs ls cells slots h1 h2 hP hS hl
  obtain ⟨hA, hQ⟩ := B
  subst hA
  refine W_mono hQ (W.widen (k := R.cells) (n := R.slots) (by omega) (by omega) ?_)
  exact W.iret G.1 G.2.1 (G.2.2.2.2.2.2.2.2.2.2.trans hr) (fun t ht hW => ⟨⟨_, h, rfl, hp, by rw [ht]; exact hP⟩, hS.F ht⟩) hS.2.2 d G.2.2.2.2.2.1
theorem x_zret (G : GX p l R s m args meth c k A own cc nL ret) (B : RQ below args s R k A h0 post Q) (hr : ret = some .boolean) {v : Int32} (hn : narrow .boolean (.int v) = .int v) (d : decode cc pc = .ok (.ireturn, 1)) (hp : post (.inl (some (.int v))) h) : Wx p l e R s m args below meth c k A nL Q bc bs pc L [.int v] h := by
  intro H locs ls cells slots h1 h2 hP hS hl
  obtain ⟨hA, hQ⟩ := B
  subst hA
  refine W_mono hQ (W.widen (k := R.cells) (n := R.slots) (by omega) (by omega) ?_)
  exact W.zret G.1 G.2.1 (G.2.2.2.2.2.2.2.2.2.2.trans hr) hn (fun t ht hW => ⟨⟨_, h, rfl, hp, by rw [ht]; exact hP⟩, hS.F ht⟩) hS.2.2 d G.2.2.2.2.2.1
theorem x_lret (G : GX p l R s m args meth c k A own cc nL ret) (B : RQ below args s R k A h0 post Q) (hr : ret = some .long) {v : Int64} (d : decode cc pc = .ok (.lreturn, 1)) (hp : post (.inl (some (.long v))) h) : Wx p l e R s m args below meth c k A nL Q bc bs pc L [.long v] h := by
  intro H locs ls cells slots h1 h2 hP hS hl
  obtain ⟨hA, hQ⟩ := B
  subst hA
  refine W_mono hQ (W.widen (k := R.cells) (n := R.slots) (by omega) (by omega) ?_)
  exact W.lret G.1 G.2.1 (G.2.2.2.2.2.2.2.2.2.2.trans hr) (fun t ht hW => ⟨⟨_, h, rfl, hp, by rw [ht]; exact hP⟩, hS.F ht⟩) hS.2.2 d G.2.2.2.2.2.1
theorem x_vret (G : GX p l R s m args meth c k A own cc nL ret) (B : RQ below args s R k A h0 post Q) (hr : ret = none) (d : decode cc pc = .ok (.return_, 1)) (hp : post (.inl none) h) : Wx p l e R s m args below meth c k A nL Q bc bs pc L [] h := by
  intro H locs ls cells slots h1 h2 hP hS hl
  obtain ⟨hA, hQ⟩ := B
  subst hA
  refine W_mono hQ (W.widen (k := R.cells) (n := R.slots) (by omega) (by omega) ?_)
  exact W.vret G.1 G.2.1 (G.2.2.2.2.2.2.2.2.2.2.trans hr) (fun t ht hW => ⟨⟨_, h, rfl, hp, by rw [ht]; exact hP⟩, hS.F ht⟩) hS.2.2 d G.2.2.2.2.2.1
theorem x_aret (G : GX p l R s m args meth c k A own cc nL ret) (B : RQ below args s R k A h0 post Q) {rt : FieldType} (hr : ret = some rt) (hrt : (∃ n, rt = .object n) ∨ ∃ t, rt = .array t) {v : Value} (hv : v = .null ∨ ∃ a, v = .ref a) (d : decode cc pc = .ok (.areturn, 1)) (hp : post (.inl (some v)) h) : Wx p l e R s m args below meth c k A nL Q bc bs pc L [v] h := by
  intro H locs ls cells slots h1 h2 hP hS hl
  obtain ⟨hA, hQ⟩ := B
  subst hA
  refine W_mono hQ (W.widen (k := R.cells) (n := R.slots) (by omega) (by omega) ?_)
  exact W.aret G.1 G.2.1 (G.2.2.2.2.2.2.2.2.2.2.trans hr) hrt hv (fun t ht hW => ⟨⟨_, h, rfl, hp, by rw [ht]; exact hP⟩, hS.F ht⟩) hS.2.2 d G.2.2.2.2.2.1
theorem x_out (G : GX p l R s m args meth c k A own cc nL ret) (B : RQ below args s R k A h0 post Q) (B2 : TQ below args s R k h0 post Q) (hout : ∀ x ∈ c.exceptionTable.toList, False) {E : String} (hp : post (.inr E) h) : Xx p l e R s m args below meth c k A nL Q bc bs pc L st h E := by
  intro H locs ls cells slots q ce h1 h2 hP hS hl hce hcv hcl
  obtain ⟨hA, -⟩ := B
  subst hA
  intro T hT X
  obtain ⟨t, a1, b1⟩ := vx_out (Qc := xQ k h0 s.heap.size post) (XC := xX k h0 s.heap.size post) (fun x hx => (hout x hx).elim) G.2.2.2.2.2.1 hce hcv hcl (fun t ht hvm => ⟨⟨h, hp, by rw [ht]; exact hP⟩, hS.F ht⟩) hS.2.2 (show cells ≤ R.cells by omega) (show slots ≤ R.slots by omega) T hT X
  exact ⟨t, a1, B2 t b1⟩
theorem x_throw (G : GX p l R s m args meth c k A own cc nL ret) (B : RQ below args s R k A h0 post Q) (B2 : TQ below args s R k h0 post Q) (hout : ∀ x ∈ c.exceptionTable.toList, False) {E text : String} {names : List String} {ik is ic : Nat} (howns : own = RX10) (hcls : Bundle.fit E = true) (hnames : ∀ n ∈ names, Bundle.fit n = true) (hk : Cond.classLink own ik E ∈ TB) (hini : Cond.initialized E ∈ TB) (hstr : (is, text) ∈ xs_str) (hat : ∀ w ∈ vx_atS own ic E names, w ∈ TB ∨ (∃ q ∈ xs_cast, w = .castable q.1 q.2) ∨ (∃ x ∈ xs_decl, w = .declares x)) (hgood : ∀ w ∈ Cond.classLink own ik E :: Cond.initialized E :: vx_atS own ic E names, vx_ot w = true)
    (d0 : decode cc pc = .ok (.new ik, 3)) (d3 : decode cc (pc + 3) = .ok (.dup, 1)) (hldc : (decode cc (pc + 4) = .ok (.ldc is, 2) ∧ decode cc (pc + 6) = .ok (.invokespecial ic, 3) ∧ decode cc (pc + 9) = .ok (.athrow, 1)) ∨ (decode cc (pc + 4) = .ok (.ldc_w is, 3) ∧ decode cc (pc + 7) = .ok (.invokespecial ic, 3) ∧ decode cc (pc + 10) = .ok (.athrow, 1)))
    (hRf : names.length + 3 < R.frames) (hRl : (st.map fun v => v.category).sum + (13 * (names.length + 1) + 43) ≤ R.locals) (hb1 : 1 ≤ bc) (hb2 : 6 ≤ bs) (hp : post (.inr E) h) : Wx p l e R s m args below meth c k A nL Q bc bs pc L st h := by
  subst howns
  intro H locs ls cells slots h1 h2 hP hS hl
  obtain ⟨hA, -⟩ := B
  subst hA
  obtain ⟨sa, hsa⟩ := G.2.2.2.2.2.2.1.2.1 _ hstr
  have hat' : ∀ w ∈ vx_atS RX10 ic E names, w.before args s = true := fun w hw => by
    rcases hat w hw with h9 | ⟨q, hq, rfl⟩ | ⟨x, hx, rfl⟩
    · exact G.2.2.2.2.1 _ h9
    · exact va_Nw.use rfl (G.2.2.2.2.2.2.1.2.2.1 q hq)
    · exact va_Nw.use rfl (G.2.2.2.2.2.2.1.2.2.2.2.1 x hx)
  have hxx : ∀ t : State, s.vm.Alike t.vm → H.size ≤ t.heap.size → (∀ q : Nat, q < H.size → t.heap[q]? = H[q]?) → xX k h0 s.heap.size post E s t := fun t _ hz hk9 => ⟨⟨h, hp, hP.1.kept fun i q hi => hk9 q.1 (hP.1 i q hi).lt, hP.2⟩, ⟨Nat.le_trans hS.1 hz, fun q g1 g2 => (hk9 q (Nat.lt_of_lt_of_le g1 hS.1)).trans (hS.2.1 q g1 g2)⟩⟩
  refine W_mono B2 ?_
  rcases hldc with ⟨d4, d6, d9⟩ | ⟨d4, d6, d9⟩
  · exact vx_throwS G.1 G.2.1 G.2.2.2.2.2.2.2.2.2.1 G.2.2.2.1 hcls hnames (G.2.2.2.2.1 _ hk) (G.2.2.2.2.1 _ hini) hsa hat' hgood G.2.2.2.2.2.2.2.1.1 G.2.2.2.2.2.2.2.1.2.1 hS (by rw [hl.1]; exact G.2.2.1.symm) d0 d3 d4 d6 d9 (fun x hx => (hout x hx).elim) hRf hRl (by omega) (by omega) G.2.2.2.2.2.1 hxx hS.2.2 (by omega) (by omega)
  · exact vx_throwSW G.1 G.2.1 G.2.2.2.2.2.2.2.2.2.1 G.2.2.2.1 hcls hnames (G.2.2.2.2.1 _ hk) (G.2.2.2.2.1 _ hini) hsa hat' hgood G.2.2.2.2.2.2.2.1.1 G.2.2.2.2.2.2.2.1.2.1 hS (by rw [hl.1]; exact G.2.2.1.symm) d0 d3 d4 d6 d9 (fun x hx => (hout x hx).elim) hRf hRl (by omega) (by omega) G.2.2.2.2.2.1 hxx hS.2.2 (by omega) (by omega)
/-- arguments by places -/
def lp_args : List Value → List (Option Value)
  | [] => []
  | v :: t => if v.category = 2 then some v :: none :: lp_args t else some v :: lp_args t
theorem lp_args_lv : ∀ (vs : List Value) (n i : Nat) (v : Value), (lp_args vs)[i]? = some (some v) → (n + i, v) ∈ lv_args n vs
  | [], n, i, v, h => by simp [lp_args] at h
  | x :: t, n, i, v, h => by
    unfold lp_args at h
    unfold lv_args
    by_cases hc : x.category = 2
    · rw [if_pos hc] at h ⊢
      match i, h with
      | 0, h => simp at h; subst h; exact List.mem_cons_self
      | 1, h => simp at h
      | i + 2, h =>
        have h9 := lp_args_lv t (n + 2) i v (by simpa using h)
        rw [show n + (i + 2) = n + 2 + i by omega]
        exact List.mem_cons_of_mem _ h9
    · rw [if_neg hc] at h ⊢
      match i, h with
      | 0, h => simp at h; subst h; exact List.mem_cons_self
      | i + 1, h =>
        have h9 := lp_args_lv t (n + 1) i v (by simpa using h)
        rw [show n + (i + 1) = n + 1 + i by omega]
        exact List.mem_cons_of_mem _ h9
theorem lp_pad {P : List (Option Value)} {n i : Nat} {v : Value} (h : (P ++ List.replicate n none)[i]? = some (some v)) : P[i]? = some (some v) := by
  by_cases hl : i < P.length
  · rwa [List.getElem?_append_left hl] at h
  · rw [List.getElem?_append_right (by omega), List.getElem?_replicate] at h
    split at h <;> simp at h
theorem lp_start (av : List Value) (n maxL : Nat) (hlen : (lg_sl av).length ≤ maxL) : lp_has ((lg_sl av ++ List.replicate (maxL - (lg_sl av).length) Slot.unset).toArray) maxL (lp_args av ++ List.replicate n none) := by
  have hle := lv_entry av hlen
  refine ⟨hle.1, hle.2.1, fun i v hi => hle.2.2 (i, v) ?_⟩
  have h9 := lp_args_lv av 0 i v (lp_pad hi)
  rwa [Nat.zero_add] at h9
theorem MC.of {l : Launch} {k : KC} {y : MethodName} {bytes : ByteArray} {maxL : Nat} {rt : Option FieldType} {rm : Room} {av : List Value} {h : Wd} {post : Out → Wd → Prop} (n : Nat) (hl : l.stackTraces = false) (hy : plainName y.cls = true) (hlen : (lg_sl av).length ≤ maxL)
    (body : ∀ p e s m args below meth c A Q, GX p l rm s m args meth c k A y.cls bytes maxL rt → RQ below args s rm k A h post Q → TQ below args s rm k h post Q → (∀ x ∈ c.exceptionTable.toList, False) → Wx p l e rm s m args below meth c k A maxL Q rm.cells rm.slots 0 (lp_args av ++ List.replicate n none) [] h) : MC l k y (.code y bytes maxL rt) rm av h post := by
  intro sz
  refine vx_ofW (cc := bytes) (maxL := maxL) (ret := rt) hy rfl ?_
  intro p e s m args below meth c s₁ B hml ht hv
  obtain ⟨rfl, hsz, hP, hE, hZ⟩ := hv
  subst hsz
  have hts := atoms_spec (ws := Cond.code y bytes maxL rt :: TB) B.pre
  have G : GX p l rm s m av.toArray meth c k (fr h s.heap.size) y.cls bytes maxL rt := ⟨B.exec, B.bytes, hml, findClass_of_methodNamed B.named, fun w hw => hts w (List.mem_cons_of_mem _ hw), B.notSynchronized, hE, hZ, fun q hq => Or.inr hq, hl, B.returns⟩
  have K := body p e s m av.toArray below meth c _ _ G ⟨rfl, fun t ht9 => by obtain ⟨o, a1, a2, a3, a4⟩ := ht9; exact ⟨o, a1, a2, Or.inl ⟨a3, a4⟩⟩⟩ (fun t ht9 => ht9) ht s.heap [] _ 0 0 (by omega) (by omega) hP va_S.rf (lp_start av n maxL hlen)
  rw [lg_entry_eq]
  exact K
theorem MI.of {l : Launch} {k : KC} {y : MethodName} {bytes : ByteArray} {maxL : Nat} {rt : Option FieldType} {rm : Room} {av : List Value} {h : Wd} {post : Out → Wd → Prop} (n : Nat) (hl : l.stackTraces = false) (hy : plainName y.cls = true) (hlen : (lg_sl av).length ≤ maxL)
    (body : ∀ p e s m args below meth c A Q, meth.name = y.name → GX p l rm s m args meth c k A y.cls bytes maxL rt → RQ below args s rm k A h post Q → Wx p l e rm s m args below meth c k A maxL Q rm.cells rm.slots 0 (lp_args av ++ List.replicate n none) [] h) : MI l k y (.code y bytes maxL rt) rm av h post := by
  intro sz
  refine Met.ofW (cc := bytes) (maxL := maxL) (ret := rt) hy rfl ?_
  intro p e s m args below meth c s₁ B hml hv
  obtain ⟨rfl, hsz, hP, hE, hZ⟩ := hv
  subst hsz
  have hts := atoms_spec (ws := Cond.code y bytes maxL rt :: TB) B.pre
  have G : GX p l rm s m av.toArray meth c k (fr h s.heap.size) y.cls bytes maxL rt := ⟨B.exec, B.bytes, hml, findClass_of_methodNamed B.named, fun w hw => hts w (List.mem_cons_of_mem _ hw), B.notSynchronized, hE, hZ, fun q hq => Or.inr hq, hl, B.returns⟩
  have K := body p e s m av.toArray below meth c _ _ (name_of_methodNamed B.named B.method).1 G ⟨rfl, fun t ht9 => ht9⟩ s.heap [] _ 0 0 (by omega) (by omega) hP va_S.rf (lp_start av n maxL hlen)
  rw [lg_entry_eq]
  exact K

end XC
