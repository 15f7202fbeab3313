/-- two worlds side by side -/
def wu (h g : Wd) : Wd := (h.1 ++ g.1, fun a => if a ∈ h.1 then h.2 a else g.2 a)
def DJ (h g : Wd) : Prop := ∀ a, a ∈ g.1 → a ∉ h.1
theorem wl_wu {h g : Wd} (hd : DJ h g) : wl (wu h g) = wl h ++ wl g := by
  show (h.1 ++ g.1).map (fun a => (a, if a ∈ h.1 then h.2 a else g.2 a)) = h.1.map (fun a => (a, h.2 a)) ++ g.1.map (fun a => (a, g.2 a))
  rw [List.map_append]
  congr 1
  · exact List.map_congr_left fun a ha => by rw [if_pos ha]
  · exact List.map_congr_left fun a ha => by rw [if_neg (hd a ha)]
theorem wl_at {h : Wd} {i : Nat} {x : Nat × va_E} (hi : (wl h)[i]? = some x) : x.1 ∈ h.1 ∧ x.2 = h.2 x.1 := wl_in hi
theorem fr_wu {h g : Wd} {sz : Nat} (hd : DJ h g) : ∀ q, fr h sz q → fr (wu h g) sz q := by
  rintro q (⟨i, e, hi⟩ | hq)
  · refine fr_in (h := wu h g) ?_
    exact List.mem_append_left _ (wl_at hi).1
  · exact Or.inr hq
theorem fr_of {h : Wd} {sz q : Nat} (hq : fr h sz q) : q ∈ h.1 ∨ sz ≤ q := by
  rcases hq with ⟨i, e, hi⟩ | hq
  · exact Or.inl (wl_at hi).1
  · exact Or.inr hq
/-- a part of a world -/
theorem PP.part {k : KC} {h g : Wd} {A : Nat → Prop} {H : Heap} (hd : DJ h g) (hP : PP k A (wu h g) H) : PP k A h H ∧ PP k A g H := by
  obtain ⟨p1, p2, p3⟩ := hP
  rw [wl_wu hd] at p1 p2 p3
  have i1 : ∀ {i : Nat} {x : Nat × va_E}, (wl h)[i]? = some x → (wl h ++ wl g)[i]? = some x := fun {i x} hi => by
    rw [List.getElem?_append_left (List.getElem?_eq_some_iff.mp hi).1]; exact hi
  have i2 : ∀ {i : Nat} {x : Nat × va_E}, (wl g)[i]? = some x → (wl h ++ wl g)[(wl h).length + i]? = some x := fun {i x} hi => by
    rw [List.getElem?_append_right (Nat.le_add_right _ _), Nat.add_sub_cancel_left]; exact hi
  refine ⟨⟨fun i x hi => p1 i x (i1 hi), fun i j p q hi hj e => p2 i j p q (i1 hi) (i1 hj) e, fun i x hi => p3 i x (i1 hi)⟩, ⟨fun i x hi => p1 _ x (i2 hi), fun i j p q hi hj e => ?_, fun i x hi => p3 _ x (i2 hi)⟩⟩
  have := p2 _ _ p q (i2 hi) (i2 hj) e
  omega
theorem PP.both {k : KC} {h g : Wd} {A : Nat → Prop} {H : Heap} (hd : DJ h g) (h1 : PP k A h H) (h2 : PP k A g H) : PP k A (wu h g) H := by
  refine ⟨?_, ?_⟩
  · rw [wl_wu hd]; exact h1.1.app h2.1
  · rw [wl_wu hd]
    refine h1.2.app h2.2 (fun i j p q hi hj e => ?_)
    have a1 := (wl_at hi).1
    have a2 := (wl_at hj).1
    rw [e] at a1
    exact hd _ a2 a1
theorem wl_lt {k : KC} {h : Wd} {A : Nat → Prop} {H : Heap} {a : Nat} (hP : PP k A h H) (ha : a ∈ h.1) : a < H.size := by
  obtain ⟨q, hq⟩ := wl_get (h := h) ha rfl
  exact (hP.1 q _ hq).lt
theorem BB.part {k : KC} {h g : Wd} {sz : Nat} {U : State} (hd : DJ h g) (hB : BB k (wu h g) sz U) : BB k h sz U := by
  obtain ⟨b1, b2, b3, b4⟩ := hB
  have hp := (b2.part hd).1
  exact ⟨b1, by rw [← b1]; exact hp.self, b3, b4.narrow (fr_wu hd)⟩
/-- behind a method that holds to the part h: the part g is as it was -/
theorem PP.rest {k : KC} {h g h' : Wd} {A : Nat → Prop} {st t : State} {sz : Nat} (hd : DJ h g) (hP : PP k A (wu h g) st.heap) (hs : st.heap.size = sz) (hP' : PP k (fr h sz) h' t.heap) (hF : va_F (fr h sz) st t) : DJ h' g ∧ PP k (fr (wu h g) sz) (wu h' g) t.heap := by
  have hg := (hP.part hd).2
  have out9 : ∀ a, a ∈ g.1 → ¬ fr h sz a := fun a ha z => by
    rcases fr_of z with y | y
    · exact hd a ha y
    · have := wl_lt hg ha
      omega
  have hd' : DJ h' g := fun a ha z => by
    obtain ⟨q, hq⟩ := wl_get (h := h') z rfl
    exact out9 a ha (hP'.2.2 q _ hq)
  refine ⟨hd', (hP'.up (fr_wu hd)).both hd' ⟨hg.1.kept (fun i x hi => ?_), ?_⟩⟩
  · have ha := (wl_at hi).1
    exact hF.2 _ (wl_lt hg ha) (out9 _ ha)
  · refine hg.2.weaken (fun i x hi _ => ?_)
    exact fr_in (h := wu h g) (List.mem_append_right _ (wl_at hi).1)
theorem va_F.up {A B : Nat → Prop} {st t : State} (h : va_F A st t) (hAB : ∀ q, A q → B q) : va_F B st t := ⟨h.1, fun q h1 h2 => h.2 q h1 (fun z => h2 (hAB q z))⟩
theorem MC.frame {l : Launch} {k : KC} {y : MethodName} {cw : Cond} {rm : Room} {av : List Value} {h g : Wd} {P : Out → Wd → Prop} (hM : MC l k y cw rm av h P) (hd : DJ h g) : MC l k y cw rm av (wu h g) (fun o w => ∃ h', P o h' ∧ DJ h' g ∧ w = wu h' g) := by
  intro sz p e ha hc hk s m args below hf happ hpre h9
  have hB : BB k (wu h g) sz s := hpre.2
  obtain ⟨n, o, a1, a2, a3, hq⟩ := hM sz p e ha hc hk s m args below hf happ ⟨hpre.1, hB.part hd⟩ h9
  refine ⟨n, o, a1, a2, a3, ?_⟩
  rcases hq with ⟨⟨⟨v, h', e1, e2, e3⟩, e4⟩, L, e5, e6⟩ | ⟨q, rfl, E, ce, L9, ⟨⟨h', e2, e3⟩, e4⟩, e5, e6, e7, e8, e9, e10⟩
  · obtain ⟨d1, d2⟩ := PP.rest hd hB.2.1 hB.1 e3 e4
    exact Or.inl ⟨⟨⟨v, _, e1, ⟨h', e2, d1, rfl⟩, d2⟩, e4.up (fr_wu hd)⟩, L, e5, fun q hq => fr_wu hd _ (e6 q hq)⟩
  · obtain ⟨d1, d2⟩ := PP.rest hd hB.2.1 hB.1 e3 e4
    exact Or.inr ⟨q, rfl, E, ce, L9, ⟨⟨_, ⟨h', e2, d1, rfl⟩, d2⟩, e4.up (fr_wu hd)⟩, e5, e6, e7, e8, e9, fun z hz => fr_wu hd _ (e10 z hz)⟩
theorem MI.frame {l : Launch} {k : KC} {y : MethodName} {cw : Cond} {rm : Room} {av : List Value} {h g : Wd} {P : Out → Wd → Prop} (hM : MI l k y cw rm av h P) (hd : DJ h g) : MI l k y cw rm av (wu h g) (fun o w => ∃ h', P o h' ∧ DJ h' g ∧ w = wu h' g) := by
  intro sz p e ha hc hk s m args below hf happ hpre h9
  have hB : BB k (wu h g) sz s := hpre.2
  obtain ⟨n, o, a1, a2, a3, hq⟩ := hM sz p e ha hc hk s m args below hf happ ⟨hpre.1, hB.part hd⟩ h9
  refine ⟨n, o, a1, a2, a3, ?_⟩
  obtain ⟨⟨⟨v, h', e1, e2, e3⟩, e4⟩, L, e5, e6⟩ := hq
  obtain ⟨d1, d2⟩ := PP.rest hd hB.2.1 hB.1 e3 e4
  exact ⟨⟨⟨v, _, e1, ⟨h', e2, d1, rfl⟩, d2⟩, e4.up (fr_wu hd)⟩, L, e5, fun q hq => fr_wu hd _ (e6 q hq)⟩
section FR2
variable {p : Program} {l : Launch} {e : Env} {R : Room} {s : State} {m : MethodId} {args : Array Value} {below : List Frame} {meth : Method} {c : Code}
variable {k : KC} {A : Nat → Prop} {nL : Nat} {Q : State → Prop} {bc bs pc : Nat} {L : List (Option Value)} {st : List Value} {h : Wd} {own : String} {cc : ByteArray} {ret : Option FieldType}
theorem Wx_congr {h2 : Wd} (e9 : wl h2 = wl h) (kk : Wx p l e R s m args below meth c k A nL Q bc bs pc L st h2) : Wx p l e R s m args below meth c k A nL Q bc bs pc L st h := by
  intro H locs ls cells slots h1 h3 hP hS hl
  refine kk H locs ls cells slots h1 h3 ?_ hS hl
  unfold PP at hP ⊢
  rw [e9]
  exact hP
theorem Wx_mono {bc1 bs1 : Nat} (h1 : bc1 ≤ bc) (h2 : bs1 ≤ bs) (kk : Wx p l e R s m args below meth c k A nL Q bc1 bs1 pc L st h) : Wx p l e R s m args below meth c k A nL Q bc bs pc L st h := fun H locs ls cells slots h3 h4 hP hS hl => kk H locs ls cells slots (by omega) (by omega) hP hS hl
/-- the out array of the law -/
def oW (k : KC) (ao : Nat) (f : Nat → Int64) : Wd := ([ao], fun _ => .inl (k.2.2.1, 1, .inr (.inl f)))
theorem wl_oup {k : KC} {h1 : Wd} {ao : Nat} {f f' : Nat → Int64} (hd : DJ h1 (oW k ao f)) : wl ((wu h1 (oW k ao f)).1, va_up (wu h1 (oW k ao f)).2 ao (.inl (k.2.2.1, 1, .inr (.inl f')))) = wl (wu h1 (oW k ao f')) := by
  have hn : ao ∉ h1.1 := hd ao (List.mem_singleton.mpr rfl)
  show (h1.1 ++ [ao]).map (fun a => (a, va_up (wu h1 (oW k ao f)).2 ao (.inl (k.2.2.1, 1, .inr (.inl f'))) a)) = (h1.1 ++ [ao]).map (fun a => (a, (wu h1 (oW k ao f')).2 a))
  refine List.map_congr_left fun a ha => ?_
  by_cases z : a = ao
  · subst z
    have e1 : va_up (wu h1 (oW k a f)).2 a (.inl (k.2.2.1, 1, .inr (.inl f'))) a = .inl (k.2.2.1, 1, .inr (.inl f')) := by simp [va_up]
    have e2 : (wu h1 (oW k a f')).2 a = .inl (k.2.2.1, 1, .inr (.inl f')) := if_neg hn
    rw [e1, e2]
  · have ha' : a ∈ h1.1 := by
      rcases List.mem_append.mp ha with y | y
      · exact y
      · exact absurd (List.mem_singleton.mp y) z
    have e1 : va_up (wu h1 (oW k ao f)).2 ao (.inl (k.2.2.1, 1, .inr (.inl f'))) a = (wu h1 (oW k ao f)).2 a := by simp [va_up, z]
    have e2 : (wu h1 (oW k ao f)).2 a = h1.2 a := if_pos ha'
    have e3 : (wu h1 (oW k ao f')).2 a = h1.2 a := if_pos ha'
    rw [e1, e2, e3]
/-- thrown, and caught by a row of this method's table -/
theorem x_catch (G : GX p l R s m args meth c k A own cc nL ret) {E name : String} (pre : List ExceptionTableEntry) (x : ExceptionTableEntry) (suf : List ExceptionTableEntry) (hsplit : c.exceptionTable.toList = pre ++ x :: suf)
    (hpass : ∀ z ∈ pre, z.catchType ≠ 0 ∧ ∃ nm : String, Cond.classLink own z.catchType nm ∈ TB ∧ (E, nm) ∈ xs_nc) (hx : covers x pc = true) (h0 : x.catchType ≠ 0) (hlink : Cond.classLink own x.catchType name ∈ TB) (hcast : (E, name) ∈ xs_cast)
    (kk : ∀ q : Nat, Wx p l e R s m args below meth c k A nL Q bc bs x.handlerPc L [.ref q] h) : Xx p l e R s m args below meth c k A nL Q bc bs pc L st h E := by
  intro H locs ls cells slots q ce h1 h2 hP hS hl hce hcv hcl
  exact vx_catch (own := own) (name := name) (E := E) G.2.2.2.1 pre x suf hsplit (fun z hz => Or.inr ⟨(hpass z hz).1, (hpass z hz).2.choose, G.2.2.2.2.1 _ (hpass z hz).2.choose_spec.1, G.2.2.2.2.2.2.1.2.2.2.2.2.2.2 _ (hpass z hz).2.choose_spec.2⟩) hx h0 (G.2.2.2.2.1 _ hlink) (va_Nw.use rfl (G.2.2.2.2.2.2.1.2.2.1 _ hcast)) hce hcv hcl (kk q H locs ls cells slots h1 h2 hP hS hl)
end FR2
/-- a method with an exception table that lets nothing through -/
theorem ML.of {l : Launch} {k : KC} {y : MethodName} {bytes : ByteArray} {maxL : Nat} {rt : Option FieldType} {hh : List (Nat × Nat × Nat × Nat)} {rm : Room} {av : List Value} {h : Wd} {post : Out → Wd → Prop} (n : Nat) (hl : l.stackTraces = false) (hy : plainName y.cls = true) (hlen : (lg_sl av).length ≤ maxL)
    (body : ∀ p e s m args below meth c A Q, GX p l rm s m args meth c k A y.cls bytes maxL rt → RQ below args s rm k A h post Q → c.exceptionTable.toList = tableOf hh → Wx p l e rm s m args below meth c k A maxL Q rm.cells rm.slots 0 (lp_args av ++ List.replicate n none) [] h) : MI l k y (.codeWith y bytes maxL rt hh) rm av h post := by
  intro sz
  refine va_MetW (cc := bytes) (maxL := maxL) (ret := rt) (hh := hh) hy rfl ?_
  intro p e s m args below meth c s₁ B hml hv
  obtain ⟨rfl, hsz, hP, hE, hZ⟩ := hv
  subst hsz
  have hts := atoms_spec (ws := Cond.codeWith y bytes maxL rt hh :: TB) B.pre
  have G : GX p l rm s m av.toArray meth c k (fr h s.heap.size) y.cls bytes maxL rt := ⟨B.exec, B.bytes, hml, findClass_of_methodNamed B.named, fun w hw => hts w (List.mem_cons_of_mem _ hw), B.notSynchronized, hE, hZ, fun q hq => Or.inr hq, hl, B.returns⟩
  have K := body p e s m av.toArray below meth c _ _ G ⟨rfl, fun t ht9 => ht9⟩ (vx_table (x := y) B (hts _ List.mem_cons_self)) s.heap [] _ 0 0 (by omega) (by omega) hP va_S.rf (lp_start av n maxL hlen)
  rw [lg_entry_eq]
  exact K
section FR3
variable {p : Program} {l : Launch} {e : Env} {R : Room} {s : State} {m : MethodId} {args : Array Value} {below : List Frame} {meth : Method} {c : Code}
variable {k : KC} {A : Nat → Prop} {nL : Nat} {Q : State → Prop} {bc bs pc : Nat} {L : List (Option Value)} {st : List Value} {h : Wd} {own : String} {cc : ByteArray} {ret : Option FieldType}
theorem x_callSW {bc1 bs1 idx n maxL : Nat} {y : MethodName} {bytes : ByteArray} {rt : Option FieldType} {hh : List (Nat × Nat × Nat × Nat)} {rm : Room} {As stk : List Value} {post : Out → Wd → Prop} (G : GX p l R s m args meth c k A own cc nL ret) (hM : MI l k y (.codeWith y bytes maxL rt hh) rm As h post)
    (hlk : Cond.methodLink own idx y ∈ TB) (hsm : Cond.static y ∈ TB) (hin : Cond.initialized y.cls ∈ TB) (hco : Cond.codeWith y bytes maxL rt hh ∈ TB) (hd : y.cls ≠ "java/lang/invoke/MethodHandle" ∧ y.cls ≠ "java/lang/invoke/VarHandle" ∧ (parseMethodDescriptor y.desc).map (fun d => d.parameters.length) = some n) (hR : rm.frames + 1 ≤ R.frames ∧ 8 + (maxL + 11) + rm.locals ≤ R.locals) (hw8 : (st.map fun v => v.category).sum ≤ 8) (hb1 : bc1 + rm.cells ≤ bc) (hb2 : bs1 + rm.slots ≤ bs) (hn : As.length = n) (hst : stk = As.reverse ++ st) (d : decode cc pc = .ok (.invokestatic idx, 3)) (kk : ∀ v h9, post (.inl v) h9 → Wx p l e R s m args below meth c k A nL Q bc1 bs1 (pc + 3) L (v.toList ++ st) h9) : Wx p l e R s m args below meth c k A nL Q bc bs pc L stk h := by
  subst hst
  refine x_goesI G (mc := rm.cells) (ms := rm.slots) (a9 := As.toArray) (fun H locs ls cells slots h1 h2 hP hS hl => ?_) hb1 hb2 kk
  refine vx_runSW (Ts := TB) (n := n) (hh := hh) ⟨G.1, G.2.1, G.2.2.1, G.2.2.2.1, G.2.2.2.2.1⟩ (hM H.size) (vx_cwSW n G.2.2.2.2.1 (fun w hw => ?_) rfl rfl rfl hd hR) ⟨BB.blind, fun U hU hW => ⟨rfl, BB.of G.2.2.2.2.2.2.1 G.2.2.2.2.2.2.2.1 hP hS G.2.2.2.2.2.2.2.2.1 hU hW⟩⟩ rfl hn hl.1 rfl (by simpa [JFrame.monitorRoom] using hw8) d ⟨h1, h2⟩
  have hT : w ∈ TB := by
    simp only [va_wsS, List.cons_append, List.nil_append, List.mem_cons] at hw
    rcases hw with rfl | rfl | rfl | rfl | hw <;> assumption
  exact ⟨hT, tb_ok hT⟩
end FR3
