section XL
/-- a world: the addresses, and what lies there -/
abbrev Wd : Type := List Nat × (Nat → va_E)
abbrev wl (h : Wd) : va_W := va_pl h.1 h.2
/-- what the tables fix: classes and slots, the classes of int[], long[], boolean[], Object[], ArrayList's empty array, the mirror of Object[] -/
abbrev KC : Type := va_G × ClassId × ClassId × ClassId × ClassId × Nat × Nat
def kcT (k : KC) : List (ClassId × FieldType) := [(k.2.1, .int), (k.2.2.1, .long), (k.2.2.2.1, .boolean), (k.2.2.2.2.1, .object "java/lang/Object")]
def fr (h : Wd) (sz : Nat) : Nat → Prop := va_A (wl h) sz
def PP (k : KC) (A : Nat → Prop) (h : Wd) (H : Heap) : Prop := va_P k.1 vwCl (wl h) H ∧ va_D A (wl h)
def ZQ (k : KC) (A : Nat → Prop) (U : State) (H : Heap) : Prop :=
  vx_Zq Bundle.tN "UNASSIGNED_STACK" Bundle.steD A U H ∧ vx_Zq Bundle.tN "SUPPRESSED_SENTINEL" Bundle.listD A U H ∧
  va_Z RJx4a65c "DEFAULTCAPACITY_EMPTY_ELEMENTDATA" "[Ljava/lang/Object;" (.ref k.2.2.2.2.2.1) A U H ∧ va_T (.object "java/lang/Object") k.2.2.2.2.2.1 0 (fun _ => .null) A U H
theorem ZQ.moved {k : KC} {A : Nat → Prop} {u U : State} {H : Heap} (hvm : u.vm.Alike U.vm) (h : ZQ k A u H) : ZQ k A U H :=
  ⟨h.1.moved hvm, h.2.1.moved hvm, h.2.2.1.moved hvm, h.2.2.2.moved hvm⟩
theorem ZQ.kept {k : KC} {A : Nat → Prop} {U : State} {H H1 : Heap} (h : ZQ k A U H) (hq : ∀ a : Nat, a < H.size → ¬ A a → H1[a]? = H[a]?) : ZQ k A U H1 :=
  ⟨h.1.kept hq, h.2.1.kept hq, h.2.2.1.kept hq, h.2.2.2.kept hq⟩
theorem ZQ.narrow {k : KC} {A B : Nat → Prop} {U : State} {H : Heap} (h : ZQ k A U H) (hAB : ∀ q, B q → A q) : ZQ k B U H :=
  ⟨h.1.narrow hAB, h.2.1.narrow hAB, h.2.2.1.narrow hAB, h.2.2.2.narrow hAB⟩
def xs_str : List (Nat × String) := [(483, "no such number"), (485, "out of range"), (102, "there are 12 persons"), (117, "nobody is their own substitute"), (136, "both centres are the same"), (142, "so much is not free"), (182, "the home money has no rate to be told"), (188, "the last day is 1079"), (197, "there are 40 requests"), (215, "it is no DRAFT, or has 4 lines"), (226, "it is no DRAFT, or has no line"), (253, "it is not SENT"), (269, "that person cannot approve it now"), (271, "that person cannot refuse it now"), (284, "it was ordered"), (289, "it is not APPROVED"), (298, "no pieces"), (303, "it is not ORDERED, or the line is of services"), (311, "too many or too few pieces"), (317, "it is not ORDERED"), (322, "more was received, or is on invoices"), (331, "more than 105 percent of what was ordered"), (336, "it is not ORDERED, or an invoice is held"), (338, "it is not ORDERED, or there are 60 invoices"), (357, "it is not held for its price"), (359, "that is not the controller"), (376, "it is not PAID"), (393, "it is not stopped"), (395, "no such place"), (398, "there are 30 trips"), (420, "there are 40 card entries"), (437, "it was told"), (446, "what is 0 to 3"), (454, "what is 0 to 5"), (456, "what is 0 to 4"), (473, "what is 0 to 7"), (476, "no such account")]
def xs_cast : List (String × String) := [("java/lang/IndexOutOfBoundsException", "java/lang/IndexOutOfBoundsException"), ("java/lang/IllegalArgumentException", "java/lang/IllegalArgumentException"), ("java/lang/IllegalStateException", "java/lang/IllegalStateException"), ("ChitWright", "java/lang/Object"), ("java/util/ArrayList", "java/lang/Object"), ("ChitWright$Centre", "java/lang/Object"), ("ChitWright$Purse", "java/lang/Object"), ("ChitWright$Money", "java/lang/Object"), ("ChitWright$Supplier", "java/lang/Object"), ("ChitWrightModel", "java/lang/Object"), ("java/lang/IndexOutOfBoundsException", "java/lang/Object"), ("java/lang/IllegalArgumentException", "java/lang/Object"), ("java/lang/IllegalStateException", "java/lang/Object"), ("ChitWright$Person", "java/lang/Object"), ("ChitWright$Request", "java/lang/Object"), ("ChitWright$Line", "java/lang/Object"), ("ChitWright$Invoice", "java/lang/Object"), ("ChitWright$Trip", "java/lang/Object"), ("ChitWright$Entry", "java/lang/Object"), ("java/lang/Throwable", "java/lang/Object"), ("java/lang/String", "java/lang/Object"), ("[I", "java/lang/Object"), ("[J", "java/lang/Object"), ("[Ljava/lang/Object;", "java/lang/Object"), ("[B", "java/lang/Object"), ("[Z", "java/lang/Object")]
def xs_nest : List (String × Nat × MethodName × String) := [("ChitWright$Centre", 24, ({ cls := "ChitWright$Purse", name := "<init>", desc := "()V" } : MethodName), "ChitWright"), ("ChitWright", 81, ({ cls := "ChitWright$Money", name := "<init>", desc := "()V" } : MethodName), "ChitWright")]
def xs_decl : List MethodName := [({ cls := "java/lang/RuntimeException", name := "<init>", desc := "()V" } : MethodName), ({ cls := "java/lang/RuntimeException", name := "<init>", desc := "(Ljava/lang/String;)V" } : MethodName), ({ cls := "java/lang/Exception", name := "<init>", desc := "()V" } : MethodName), ({ cls := "java/lang/Exception", name := "<init>", desc := "(Ljava/lang/String;)V" } : MethodName), ({ cls := "java/lang/Throwable", name := "<init>", desc := "()V" } : MethodName), ({ cls := "java/lang/Throwable", name := "<init>", desc := "(Ljava/lang/String;)V" } : MethodName), ({ cls := "java/lang/Object", name := "getClass", desc := "()Ljava/lang/Class;" } : MethodName)]
def xs_nc : List (String × String) := [("java/lang/IndexOutOfBoundsException", "java/lang/IllegalArgumentException"), ("java/lang/IndexOutOfBoundsException", "java/lang/IllegalStateException"), ("java/lang/IllegalArgumentException", "java/lang/IndexOutOfBoundsException"), ("java/lang/IllegalArgumentException", "java/lang/IllegalStateException"), ("java/lang/IllegalStateException", "java/lang/IndexOutOfBoundsException"), ("java/lang/IllegalStateException", "java/lang/IllegalArgumentException")]
def EV (k : KC) (U : State) : Prop := va_K k.1 vwCl (kcT k) U ∧ (∀ q ∈ xs_str, ∃ a, vk_R RX10 q.1 q.2 a U) ∧ (∀ q ∈ xs_cast, va_Nw (.castable q.1 q.2) U) ∧ (∀ q ∈ xs_nest, va_Nw (.methodLinkNest q.1 q.2.1 q.2.2.1 q.2.2.2) U) ∧ (∀ x ∈ xs_decl, va_Nw (.declares x) U) ∧ va_Mi "[Ljava/lang/Object;" k.2.2.2.2.2.2 U ∧ va_AO "java/lang/Object" U ∧ ∀ q ∈ xs_nc, va_Nc q.1 q.2 U
theorem EV.warm {k : KC} {s U : State} (hW : s.WarmedH U.vm) (h : EV k s) : EV k U :=
  ⟨h.1.moved hW.alike, fun q hq => (h.2.1 q hq).imp fun a ha => ha.warm hW, fun q hq => (h.2.2.1 q hq).warmC hW, fun q hq => (h.2.2.2.1 q hq).warmM hW, fun q hq => (h.2.2.2.2.1 q hq).warmD hW, va_Mi.moved hW.alike h.2.2.2.2.2.1, va_AO.moved hW.alike h.2.2.2.2.2.2.1, fun q hq => va_Nc.moved hW.alike (h.2.2.2.2.2.2.2 q hq)⟩
/-- what a method takes as given of its own frame -/
def GX (p : Program) (l : Launch) (R : Room) (s : State) (m : MethodId) (args : Array Value) (meth : Method) (c : Code) (k : KC) (A : Nat → Prop) (own : String) (cc : ByteArray) (nL : Nat) (ret : Option FieldType) : Prop :=
  p.tables.exec = Jvm.exec ∧ c.code = cc ∧ c.maxLocals = nL ∧ s.vm.findClass own = some m.cls ∧ (∀ w ∈ TB, w.before args s = true) ∧ meth.locks = false ∧ EV k s ∧ ZQ k A s s.heap ∧ (∀ q : Nat, s.heap.size ≤ q → A q) ∧ l.stackTraces = false ∧ meth.sig.returnType = ret
/-- locals by their places -/
def lp_has (ls : Array Slot) (nL : Nat) (L : List (Option Value)) : Prop := ls.size = nL ∧ lv_wf ls ∧ ∀ (i : Nat) (v : Value), L[i]? = some (some v) → ls[i]? = some (.val v)
def lp_l : Nat → List (Option Value) → List (Nat × Value)
  | _, [] => []
  | i, none :: t => lp_l (i + 1) t
  | i, some v :: t => (i, v) :: lp_l (i + 1) t
theorem lp_l_mem : ∀ (L : List (Option Value)) (n i : Nat) (v : Value), (i, v) ∈ lp_l n L ↔ ∃ j, i = n + j ∧ L[j]? = some (some v)
  | [], n, i, v => by simp [lp_l]
  | none :: t, n, i, v => by
    rw [lp_l, lp_l_mem t (n + 1) i v]
    constructor
    · rintro ⟨j, rfl, h⟩
      exact ⟨j + 1, by omega, by simpa using h⟩
    · rintro ⟨j, rfl, h⟩
      cases j with
      | zero => simp at h
      | succ j => exact ⟨j, by omega, by simpa using h⟩
  | some x :: t, n, i, v => by
    rw [lp_l, List.mem_cons, lp_l_mem t (n + 1) i v]
    constructor
    · rintro (h | ⟨j, rfl, h⟩)
      · cases h
        exact ⟨0, by omega, by simp⟩
      · exact ⟨j + 1, by omega, by simpa using h⟩
    · rintro ⟨j, rfl, h⟩
      cases j with
      | zero =>
        left
        simp at h
        subst h
        rfl
      | succ j => exact Or.inr ⟨j, by omega, by simpa using h⟩
theorem lp_has.lv {ls : Array Slot} {nL : Nat} {L : List (Option Value)} (h : lp_has ls nL L) : lv_has ls nL (lp_l 0 L) := by
  refine ⟨h.1, h.2.1, fun q hq => ?_⟩
  obtain ⟨i, v⟩ := q
  obtain ⟨j, e, hj⟩ := (lp_l_mem L 0 i v).mp hq
  rw [Nat.zero_add] at e
  subst e
  exact h.2.2 i v hj
theorem lp_has.at {ls : Array Slot} {nL : Nat} {L : List (Option Value)} (h : lp_has ls nL L) {i : Nat} {v : Value} (hi : L[i]? = some (some v)) : ls[i]? = some (.val v) := h.2.2 i v hi
/-- fewer facts -/
theorem lp_has.sub {ls : Array Slot} {nL : Nat} {L L' : List (Option Value)} (h : lp_has ls nL L) (hs : ∀ (i : Nat) (v : Value), L'[i]? = some (some v) → L[i]? = some (some v)) : lp_has ls nL L' := ⟨h.1, h.2.1, fun i v hi => h.2.2 i v (hs i v hi)⟩
def lp_c2 : Option Value → Bool
  | some (.long _) => true
  | some (.double _) => true
  | _ => false
theorem lp_c2_cat {v : Value} (h : lp_c2 (some v) = false) : v.category = 1 := by cases v <;> simp_all [lp_c2, Value.category]
/-- what is known behind a store of a narrow value at place i -/
theorem lp_put1 {ls : Array Slot} {nL i : Nat} {L L' : List (Option Value)} {v : Value} (h : lp_has ls nL L) (hi : i < nL) (hc : v.category = 1) (h' : ∀ (j : Nat) (w : Value), L'[j]? = some (some w) → (j = i ∧ w = v) ∨ (j ≠ i ∧ L[j]? = some (some w) ∧ (j + 1 = i → w.category = 1))) : ∃ ls', storeLocals ls i v = some ls' ∧ lp_has ls' nL L' := by
  obtain ⟨ls', e, k⟩ := lv_store1 h.lv hi hc
  refine ⟨ls', e, k.1, k.2.1, fun j w hj => ?_⟩
  rcases h' j w hj with ⟨rfl, rfl⟩ | ⟨h1, h2, h3⟩
  · exact k.2.2 (j, w) List.mem_cons_self
  · refine k.2.2 (j, w) (List.mem_cons_of_mem _ (List.mem_filter.mpr ⟨(lp_l_mem L 0 j w).mpr ⟨j, by omega, h2⟩, ?_⟩))
    by_cases hz : j + 1 = i
    · simp [h1, h3 hz]
    · simp [h1, hz]
theorem lp_put2 {ls : Array Slot} {nL i : Nat} {L L' : List (Option Value)} {v : Value} (h : lp_has ls nL L) (hi : i + 1 < nL) (hc : v.category = 2) (h' : ∀ (j : Nat) (w : Value), L'[j]? = some (some w) → (j = i ∧ w = v) ∨ (j ≠ i ∧ j ≠ i + 1 ∧ L[j]? = some (some w) ∧ (j + 1 = i → w.category = 1))) : ∃ ls', storeLocals ls i v = some ls' ∧ lp_has ls' nL L' := by
  obtain ⟨ls', e, k⟩ := lv_store2 h.lv hi hc
  refine ⟨ls', e, k.1, k.2.1, fun j w hj => ?_⟩
  rcases h' j w hj with ⟨rfl, rfl⟩ | ⟨h1, h0, h2, h3⟩
  · exact k.2.2 (j, w) List.mem_cons_self
  · refine k.2.2 (j, w) (List.mem_cons_of_mem _ (List.mem_filter.mpr ⟨(lp_l_mem L 0 j w).mpr ⟨j, by omega, h2⟩, ?_⟩))
    by_cases hz : j + 1 = i
    · simp [h1, h0, h3 hz]
    · simp [h1, h0, hz]
def Wx (p : Program) (l : Launch) (e : Env) (R : Room) (s : State) (m : MethodId) (args : Array Value) (below : List Frame) (meth : Method) (c : Code) (k : KC) (A : Nat → Prop) (nL : Nat) (Q : State → Prop) (bc bs pc : Nat) (L : List (Option Value)) (st : List Value) (h : Wd) : Prop :=
  ∀ (H : Heap) (locs : List Loc) (ls : Array Slot) (cells slots : Nat), cells + bc ≤ R.cells → slots + bs ≤ R.slots → PP k A h H → va_S A s.heap H locs → lp_has ls nL L → W p l e R s m args below meth c H locs cells slots Q (F0 m pc ls st)

variable {p : Program} {l : Launch} {e : Env} {R : Room} {s : State} {m : MethodId} {args : Array Value} {below : List Frame} {meth : Method} {c : Code}
variable {k : KC} {A : Nat → Prop} {nL : Nat} {Q : State → Prop} {bc bs pc : Nat} {L : List (Option Value)} {st : List Value} {h : Wd} {own : String} {cc : ByteArray} {ret : Option FieldType}
theorem x_iconst (G : GX p l R s m args meth c k A own cc nL ret) {n : Int} {v : Int32} (d : decode cc pc = .ok (.iconst n, 1)) (hv : Int32.ofInt n = v) (kk : Wx p l e R s m args below meth c k A nL Q bc bs (pc + 1) L (.int v :: st) h) : Wx p l e R s m args below meth c k A nL Q bc bs pc L st h := by
  intro H locs ls cells slots h1 h2 hP hS hl
  exact lv_iconst G.1 G.2.1 d hv (kk H locs ls cells slots h1 h2 hP hS hl)
theorem x_bipush (G : GX p l R s m args meth c k A own cc nL ret) {n : Int} {v : Int32} (d : decode cc pc = .ok (.bipush n, 2)) (hv : (Int8.ofInt n).toInt32 = v) (kk : Wx p l e R s m args below meth c k A nL Q bc bs (pc + 2) L (.int v :: st) h) : Wx p l e R s m args below meth c k A nL Q bc bs pc L st h := by
  intro H locs ls cells slots h1 h2 hP hS hl
  exact lv_bipush G.1 G.2.1 d hv (kk H locs ls cells slots h1 h2 hP hS hl)
theorem x_sipush (G : GX p l R s m args meth c k A own cc nL ret) {n : Int} {v : Int32} (d : decode cc pc = .ok (.sipush n, 3)) (hv : (Int16.ofInt n).toInt32 = v) (kk : Wx p l e R s m args below meth c k A nL Q bc bs (pc + 3) L (.int v :: st) h) : Wx p l e R s m args below meth c k A nL Q bc bs pc L st h := by
  intro H locs ls cells slots h1 h2 hP hS hl
  exact lv_sipush G.1 G.2.1 d hv (kk H locs ls cells slots h1 h2 hP hS hl)
theorem x_lconst (G : GX p l R s m args meth c k A own cc nL ret) {n : Fin 2} {v : Int64} (d : decode cc pc = .ok (.lconst n, 1)) (hv : Int64.ofNat (n : Nat) = v) (kk : Wx p l e R s m args below meth c k A nL Q bc bs (pc + 1) L (.long v :: st) h) : Wx p l e R s m args below meth c k A nL Q bc bs pc L st h := by
  intro H locs ls cells slots h1 h2 hP hS hl
  exact lv_lconst G.1 G.2.1 d hv (kk H locs ls cells slots h1 h2 hP hS hl)
theorem x_ldc (G : GX p l R s m args meth c k A own cc nL ret) {i : Nat} {v : Int32} (hw : Cond.constant own i v ∈ TB) (d : decode cc pc = .ok (.ldc i, 2)) (kk : Wx p l e R s m args below meth c k A nL Q bc bs (pc + 2) L (.int v :: st) h) : Wx p l e R s m args below meth c k A nL Q bc bs pc L st h := by
  intro H locs ls cells slots h1 h2 hP hS hl
  exact lv_ldc G.1 G.2.1 G.2.2.2.1 (G.2.2.2.2.1 _ hw) d (kk H locs ls cells slots h1 h2 hP hS hl)
theorem x_ldcw (G : GX p l R s m args meth c k A own cc nL ret) {i : Nat} {v : Int32} (hw : Cond.constant own i v ∈ TB) (d : decode cc pc = .ok (.ldc_w i, 3)) (kk : Wx p l e R s m args below meth c k A nL Q bc bs (pc + 3) L (.int v :: st) h) : Wx p l e R s m args below meth c k A nL Q bc bs pc L st h := by
  intro H locs ls cells slots h1 h2 hP hS hl
  exact lv_ldcw G.1 G.2.1 G.2.2.2.1 (G.2.2.2.2.1 _ hw) d (kk H locs ls cells slots h1 h2 hP hS hl)
theorem x_ldc2 (G : GX p l R s m args meth c k A own cc nL ret) {i : Nat} {v : Int64} (hw : Cond.constantLong own i v ∈ TB) (d : decode cc pc = .ok (.ldc2_w i, 3)) (kk : Wx p l e R s m args below meth c k A nL Q bc bs (pc + 3) L (.long v :: st) h) : Wx p l e R s m args below meth c k A nL Q bc bs pc L st h := by
  intro H locs ls cells slots h1 h2 hP hS hl
  exact lv_ldc2 G.1 G.2.1 G.2.2.2.1 (G.2.2.2.2.1 _ hw) d (kk H locs ls cells slots h1 h2 hP hS hl)
theorem x_null (G : GX p l R s m args meth c k A own cc nL ret) (d : decode cc pc = .ok (.aconst_null, 1)) (kk : Wx p l e R s m args below meth c k A nL Q bc bs (pc + 1) L (.null :: st) h) : Wx p l e R s m args below meth c k A nL Q bc bs pc L st h := by
  intro H locs ls cells slots h1 h2 hP hS hl
  exact lv_null G.1 G.2.1 d (kk H locs ls cells slots h1 h2 hP hS hl)
theorem x_iadd (G : GX p l R s m args meth c k A own cc nL ret) {x y : Int32} (d : decode cc pc = .ok (.iadd, 1)) (kk : Wx p l e R s m args below meth c k A nL Q bc bs (pc + 1) L (.int (x + y) :: st) h) : Wx p l e R s m args below meth c k A nL Q bc bs pc L (.int y :: .int x :: st) h := by
  intro H locs ls cells slots h1 h2 hP hS hl
  exact lv_iadd G.1 G.2.1 d (kk H locs ls cells slots h1 h2 hP hS hl)
theorem x_isub (G : GX p l R s m args meth c k A own cc nL ret) {x y : Int32} (d : decode cc pc = .ok (.isub, 1)) (kk : Wx p l e R s m args below meth c k A nL Q bc bs (pc + 1) L (.int (x - y) :: st) h) : Wx p l e R s m args below meth c k A nL Q bc bs pc L (.int y :: .int x :: st) h := by
  intro H locs ls cells slots h1 h2 hP hS hl
  exact lv_isub G.1 G.2.1 d (kk H locs ls cells slots h1 h2 hP hS hl)
theorem x_imul (G : GX p l R s m args meth c k A own cc nL ret) {x y : Int32} (d : decode cc pc = .ok (.imul, 1)) (kk : Wx p l e R s m args below meth c k A nL Q bc bs (pc + 1) L (.int (x * y) :: st) h) : Wx p l e R s m args below meth c k A nL Q bc bs pc L (.int y :: .int x :: st) h := by
  intro H locs ls cells slots h1 h2 hP hS hl
  exact lv_imul G.1 G.2.1 d (kk H locs ls cells slots h1 h2 hP hS hl)
theorem x_ladd (G : GX p l R s m args meth c k A own cc nL ret) {x y : Int64} (d : decode cc pc = .ok (.ladd, 1)) (kk : Wx p l e R s m args below meth c k A nL Q bc bs (pc + 1) L (.long (x + y) :: st) h) : Wx p l e R s m args below meth c k A nL Q bc bs pc L (.long y :: .long x :: st) h := by
  intro H locs ls cells slots h1 h2 hP hS hl
  exact lv_ladd G.1 G.2.1 d (kk H locs ls cells slots h1 h2 hP hS hl)
theorem x_lsub (G : GX p l R s m args meth c k A own cc nL ret) {x y : Int64} (d : decode cc pc = .ok (.lsub, 1)) (kk : Wx p l e R s m args below meth c k A nL Q bc bs (pc + 1) L (.long (x - y) :: st) h) : Wx p l e R s m args below meth c k A nL Q bc bs pc L (.long y :: .long x :: st) h := by
  intro H locs ls cells slots h1 h2 hP hS hl
  exact lv_lsub G.1 G.2.1 d (kk H locs ls cells slots h1 h2 hP hS hl)
theorem x_lmul (G : GX p l R s m args meth c k A own cc nL ret) {x y : Int64} (d : decode cc pc = .ok (.lmul, 1)) (kk : Wx p l e R s m args below meth c k A nL Q bc bs (pc + 1) L (.long (x * y) :: st) h) : Wx p l e R s m args below meth c k A nL Q bc bs pc L (.long y :: .long x :: st) h := by
  intro H locs ls cells slots h1 h2 hP hS hl
  exact lv_lmul G.1 G.2.1 d (kk H locs ls cells slots h1 h2 hP hS hl)
theorem x_idiv (G : GX p l R s m args meth c k A own cc nL ret) {x y : Int32} (d : decode cc pc = .ok (.idiv, 1)) (hy : ¬ y = 0) (kk : Wx p l e R s m args below meth c k A nL Q bc bs (pc + 1) L (.int (x / y) :: st) h) : Wx p l e R s m args below meth c k A nL Q bc bs pc L (.int y :: .int x :: st) h := by
  intro H locs ls cells slots h1 h2 hP hS hl
  exact lv_idiv G.1 G.2.1 d hy (kk H locs ls cells slots h1 h2 hP hS hl)
theorem x_irem (G : GX p l R s m args meth c k A own cc nL ret) {x y : Int32} (d : decode cc pc = .ok (.irem, 1)) (hy : ¬ y = 0) (kk : Wx p l e R s m args below meth c k A nL Q bc bs (pc + 1) L (.int (x - x / y * y) :: st) h) : Wx p l e R s m args below meth c k A nL Q bc bs pc L (.int y :: .int x :: st) h := by
  intro H locs ls cells slots h1 h2 hP hS hl
  exact lv_irem G.1 G.2.1 d hy (kk H locs ls cells slots h1 h2 hP hS hl)
theorem x_ldiv (G : GX p l R s m args meth c k A own cc nL ret) {x y : Int64} (d : decode cc pc = .ok (.ldiv, 1)) (hy : ¬ y = 0) (kk : Wx p l e R s m args below meth c k A nL Q bc bs (pc + 1) L (.long (x / y) :: st) h) : Wx p l e R s m args below meth c k A nL Q bc bs pc L (.long y :: .long x :: st) h := by
  intro H locs ls cells slots h1 h2 hP hS hl
  exact lv_ldiv G.1 G.2.1 d hy (kk H locs ls cells slots h1 h2 hP hS hl)
theorem x_lneg (G : GX p l R s m args meth c k A own cc nL ret) {x : Int64} (d : decode cc pc = .ok (.lneg, 1)) (kk : Wx p l e R s m args below meth c k A nL Q bc bs (pc + 1) L (.long (-x) :: st) h) : Wx p l e R s m args below meth c k A nL Q bc bs pc L (.long x :: st) h := by
  intro H locs ls cells slots h1 h2 hP hS hl
  exact lv_lneg G.1 G.2.1 d (kk H locs ls cells slots h1 h2 hP hS hl)
theorem x_ineg (G : GX p l R s m args meth c k A own cc nL ret) {x : Int32} (d : decode cc pc = .ok (.ineg, 1)) (kk : Wx p l e R s m args below meth c k A nL Q bc bs (pc + 1) L (.int (-x) :: st) h) : Wx p l e R s m args below meth c k A nL Q bc bs pc L (.int x :: st) h := by
  intro H locs ls cells slots h1 h2 hP hS hl
  exact lv_ineg G.1 G.2.1 d (kk H locs ls cells slots h1 h2 hP hS hl)
theorem x_iand (G : GX p l R s m args meth c k A own cc nL ret) {x y : Int32} (d : decode cc pc = .ok (.iand, 1)) (kk : Wx p l e R s m args below meth c k A nL Q bc bs (pc + 1) L (.int (x &&& y) :: st) h) : Wx p l e R s m args below meth c k A nL Q bc bs pc L (.int y :: .int x :: st) h := by
  intro H locs ls cells slots h1 h2 hP hS hl
  exact lv_iand G.1 G.2.1 d (kk H locs ls cells slots h1 h2 hP hS hl)
theorem x_ishr (G : GX p l R s m args meth c k A own cc nL ret) {x y : Int32} (d : decode cc pc = .ok (.ishr, 1)) (kk : Wx p l e R s m args below meth c k A nL Q bc bs (pc + 1) L (.int (x >>> (y &&& 31)) :: st) h) : Wx p l e R s m args below meth c k A nL Q bc bs pc L (.int y :: .int x :: st) h := by
  intro H locs ls cells slots h1 h2 hP hS hl
  exact lv_ishr G.1 G.2.1 d (kk H locs ls cells slots h1 h2 hP hS hl)
theorem x_iushr (G : GX p l R s m args meth c k A own cc nL ret) {x y v : Int32} (d : decode cc pc = .ok (.iushr, 1)) (hv : (x.toUInt32 >>> (y.toUInt32 &&& Int32.toUInt32 31)).toInt32 = v) (kk : Wx p l e R s m args below meth c k A nL Q bc bs (pc + 1) L (.int v :: st) h) : Wx p l e R s m args below meth c k A nL Q bc bs pc L (.int y :: .int x :: st) h := by
  intro H locs ls cells slots h1 h2 hP hS hl
  exact lv_iushr G.1 G.2.1 d hv (kk H locs ls cells slots h1 h2 hP hS hl)
theorem x_i2l (G : GX p l R s m args meth c k A own cc nL ret) {x : Int32} (d : decode cc pc = .ok (.i2l, 1)) (kk : Wx p l e R s m args below meth c k A nL Q bc bs (pc + 1) L (.long x.toInt64 :: st) h) : Wx p l e R s m args below meth c k A nL Q bc bs pc L (.int x :: st) h := by
  intro H locs ls cells slots h1 h2 hP hS hl
  exact lv_i2l G.1 G.2.1 d rfl (kk H locs ls cells slots h1 h2 hP hS hl)
theorem x_l2i (G : GX p l R s m args meth c k A own cc nL ret) {x : Int64} (d : decode cc pc = .ok (.l2i, 1)) (kk : Wx p l e R s m args below meth c k A nL Q bc bs (pc + 1) L (.int x.toInt32 :: st) h) : Wx p l e R s m args below meth c k A nL Q bc bs pc L (.long x :: st) h := by
  intro H locs ls cells slots h1 h2 hP hS hl
  exact lv_l2i G.1 G.2.1 d rfl (kk H locs ls cells slots h1 h2 hP hS hl)
theorem x_lcmp (G : GX p l R s m args meth c k A own cc nL ret) {x y : Int64} (d : decode cc pc = .ok (.lcmp, 1)) (kk : Wx p l e R s m args below meth c k A nL Q bc bs (pc + 1) L (.int (lg_cmp x y) :: st) h) : Wx p l e R s m args below meth c k A nL Q bc bs pc L (.long y :: .long x :: st) h := by
  intro H locs ls cells slots h1 h2 hP hS hl
  exact W.lcmp G.1 G.2.1 d (kk H locs ls cells slots h1 h2 hP hS hl)
theorem x_dup (G : GX p l R s m args meth c k A own cc nL ret) {a : Value} (d : decode cc pc = .ok (.dup, 1)) (ha : a.category = 1) (kk : Wx p l e R s m args below meth c k A nL Q bc bs (pc + 1) L (a :: a :: st) h) : Wx p l e R s m args below meth c k A nL Q bc bs pc L (a :: st) h := by
  intro H locs ls cells slots h1 h2 hP hS hl
  exact lv_dup G.1 G.2.1 d ha (kk H locs ls cells slots h1 h2 hP hS hl)
theorem x_pop (G : GX p l R s m args meth c k A own cc nL ret) {a : Value} (d : decode cc pc = .ok (.pop, 1)) (ha : a.category = 1) (kk : Wx p l e R s m args below meth c k A nL Q bc bs (pc + 1) L st h) : Wx p l e R s m args below meth c k A nL Q bc bs pc L (a :: st) h := by
  intro H locs ls cells slots h1 h2 hP hS hl
  exact lv_pop G.1 G.2.1 d ha (kk H locs ls cells slots h1 h2 hP hS hl)
theorem x_pop2 (G : GX p l R s m args meth c k A own cc nL ret) {a : Value} (d : decode cc pc = .ok (.pop2, 1)) (ha : a.category = 2) (kk : Wx p l e R s m args below meth c k A nL Q bc bs (pc + 1) L st h) : Wx p l e R s m args below meth c k A nL Q bc bs pc L (a :: st) h := by
  intro H locs ls cells slots h1 h2 hP hS hl
  exact lv_pop2_2 G.1 G.2.1 d ha (kk H locs ls cells slots h1 h2 hP hS hl)
theorem x_dup_x1 (G : GX p l R s m args meth c k A own cc nL ret) {a b : Value} (d : decode cc pc = .ok (.dup_x1, 1)) (ha : a.category = 1) (hb : b.category = 1) (kk : Wx p l e R s m args below meth c k A nL Q bc bs (pc + 1) L (a :: b :: a :: st) h) : Wx p l e R s m args below meth c k A nL Q bc bs pc L (a :: b :: st) h := by
  intro H locs ls cells slots h1 h2 hP hS hl
  exact lv_dup_x1 G.1 G.2.1 d ha hb (kk H locs ls cells slots h1 h2 hP hS hl)
theorem x_dup_x2 (G : GX p l R s m args meth c k A own cc nL ret) {a b q : Value} (d : decode cc pc = .ok (.dup_x2, 1)) (ha : a.category = 1) (hb : b.category = 1) (hq : q.category = 1) (kk : Wx p l e R s m args below meth c k A nL Q bc bs (pc + 1) L (a :: b :: q :: a :: st) h) : Wx p l e R s m args below meth c k A nL Q bc bs pc L (a :: b :: q :: st) h := by
  intro H locs ls cells slots h1 h2 hP hS hl
  exact lv_dup_x2 G.1 G.2.1 d ha hb hq (kk H locs ls cells slots h1 h2 hP hS hl)
theorem x_dup2 (G : GX p l R s m args meth c k A own cc nL ret) {a b : Value} (d : decode cc pc = .ok (.dup2, 1)) (ha : a.category = 1) (hb : b.category = 1) (kk : Wx p l e R s m args below meth c k A nL Q bc bs (pc + 1) L (a :: b :: a :: b :: st) h) : Wx p l e R s m args below meth c k A nL Q bc bs pc L (a :: b :: st) h := by
  intro H locs ls cells slots h1 h2 hP hS hl
  exact lv_dup2_11 G.1 G.2.1 d ha hb (kk H locs ls cells slots h1 h2 hP hS hl)
theorem x_dup2_x1 (G : GX p l R s m args meth c k A own cc nL ret) {a b : Value} (d : decode cc pc = .ok (.dup2_x1, 1)) (ha : a.category = 2) (hb : b.category = 1) (kk : Wx p l e R s m args below meth c k A nL Q bc bs (pc + 1) L (a :: b :: a :: st) h) : Wx p l e R s m args below meth c k A nL Q bc bs pc L (a :: b :: st) h := by
  intro H locs ls cells slots h1 h2 hP hS hl
  exact lv_dup2_x1_2 G.1 G.2.1 d ha hb (kk H locs ls cells slots h1 h2 hP hS hl)
theorem x_dup2_x2 (G : GX p l R s m args meth c k A own cc nL ret) {a b q : Value} (d : decode cc pc = .ok (.dup2_x2, 1)) (ha : a.category = 2) (hb : b.category = 1) (hq : q.category = 1) (kk : Wx p l e R s m args below meth c k A nL Q bc bs (pc + 1) L (a :: b :: q :: a :: st) h) : Wx p l e R s m args below meth c k A nL Q bc bs pc L (a :: b :: q :: st) h := by
  intro H locs ls cells slots h1 h2 hP hS hl
  exact lv_dup2_x2_2 G.1 G.2.1 d ha hb hq (kk H locs ls cells slots h1 h2 hP hS hl)
/- branch eq -/
/- branch ne -/
/- branch lt -/
/- branch ge -/
/- branch gt -/
/- branch le -/
theorem x_icmp_eq (G : GX p l R s m args meth c k A own cc nL ret) {off : Int} {tgt : Nat} {x y : Int32} (d : decode cc pc = .ok (.if_icmp .eq off, 3)) (ht : (pc : Int) + off = (tgt : Int)) (kt : x = y → Wx p l e R s m args below meth c k A nL Q bc bs tgt L st h) (kf : ¬ x = y → Wx p l e R s m args below meth c k A nL Q bc bs (pc + 3) L st h) : Wx p l e R s m args below meth c k A nL Q bc bs pc L (.int y :: .int x :: st) h := by
  intro H locs ls cells slots h1 h2 hP hS hl
  exact lv_icmp_eq G.1 G.2.1 d ht (fun q => kt q H locs ls cells slots h1 h2 hP hS hl) (fun q => kf q H locs ls cells slots h1 h2 hP hS hl)
theorem x_if_eq (G : GX p l R s m args meth c k A own cc nL ret) {off : Int} {tgt : Nat} {x y : Int32} (d : decode cc pc = .ok (.ifCond .eq off, 3)) (ht : (pc : Int) + off = (tgt : Int)) (kt : x = 0 → Wx p l e R s m args below meth c k A nL Q bc bs tgt L st h) (kf : ¬ x = 0 → Wx p l e R s m args below meth c k A nL Q bc bs (pc + 3) L st h) : Wx p l e R s m args below meth c k A nL Q bc bs pc L (.int x :: st) h := by
  intro H locs ls cells slots h1 h2 hP hS hl
  exact lv_if_eq G.1 G.2.1 d ht (fun q => kt q H locs ls cells slots h1 h2 hP hS hl) (fun q => kf q H locs ls cells slots h1 h2 hP hS hl)
theorem x_icmp_ne (G : GX p l R s m args meth c k A own cc nL ret) {off : Int} {tgt : Nat} {x y : Int32} (d : decode cc pc = .ok (.if_icmp .ne off, 3)) (ht : (pc : Int) + off = (tgt : Int)) (kt : ¬ x = y → Wx p l e R s m args below meth c k A nL Q bc bs tgt L st h) (kf : x = y → Wx p l e R s m args below meth c k A nL Q bc bs (pc + 3) L st h) : Wx p l e R s m args below meth c k A nL Q bc bs pc L (.int y :: .int x :: st) h := by
  intro H locs ls cells slots h1 h2 hP hS hl
  exact lv_icmp_ne G.1 G.2.1 d ht (fun q => kt q H locs ls cells slots h1 h2 hP hS hl) (fun q => kf q H locs ls cells slots h1 h2 hP hS hl)
theorem x_if_ne (G : GX p l R s m args meth c k A own cc nL ret) {off : Int} {tgt : Nat} {x y : Int32} (d : decode cc pc = .ok (.ifCond .ne off, 3)) (ht : (pc : Int) + off = (tgt : Int)) (kt : ¬ x = 0 → Wx p l e R s m args below meth c k A nL Q bc bs tgt L st h) (kf : x = 0 → Wx p l e R s m args below meth c k A nL Q bc bs (pc + 3) L st h) : Wx p l e R s m args below meth c k A nL Q bc bs pc L (.int x :: st) h := by
  intro H locs ls cells slots h1 h2 hP hS hl
  exact lv_if_ne G.1 G.2.1 d ht (fun q => kt q H locs ls cells slots h1 h2 hP hS hl) (fun q => kf q H locs ls cells slots h1 h2 hP hS hl)
theorem x_icmp_lt (G : GX p l R s m args meth c k A own cc nL ret) {off : Int} {tgt : Nat} {x y : Int32} (d : decode cc pc = .ok (.if_icmp .lt off, 3)) (ht : (pc : Int) + off = (tgt : Int)) (kt : x < y → Wx p l e R s m args below meth c k A nL Q bc bs tgt L st h) (kf : ¬ x < y → Wx p l e R s m args below meth c k A nL Q bc bs (pc + 3) L st h) : Wx p l e R s m args below meth c k A nL Q bc bs pc L (.int y :: .int x :: st) h := by
  intro H locs ls cells slots h1 h2 hP hS hl
  exact lv_icmp_lt G.1 G.2.1 d ht (fun q => kt q H locs ls cells slots h1 h2 hP hS hl) (fun q => kf q H locs ls cells slots h1 h2 hP hS hl)
theorem x_if_lt (G : GX p l R s m args meth c k A own cc nL ret) {off : Int} {tgt : Nat} {x y : Int32} (d : decode cc pc = .ok (.ifCond .lt off, 3)) (ht : (pc : Int) + off = (tgt : Int)) (kt : x < 0 → Wx p l e R s m args below meth c k A nL Q bc bs tgt L st h) (kf : ¬ x < 0 → Wx p l e R s m args below meth c k A nL Q bc bs (pc + 3) L st h) : Wx p l e R s m args below meth c k A nL Q bc bs pc L (.int x :: st) h := by
  intro H locs ls cells slots h1 h2 hP hS hl
  exact lv_if_lt G.1 G.2.1 d ht (fun q => kt q H locs ls cells slots h1 h2 hP hS hl) (fun q => kf q H locs ls cells slots h1 h2 hP hS hl)
theorem x_icmp_ge (G : GX p l R s m args meth c k A own cc nL ret) {off : Int} {tgt : Nat} {x y : Int32} (d : decode cc pc = .ok (.if_icmp .ge off, 3)) (ht : (pc : Int) + off = (tgt : Int)) (kt : y ≤ x → Wx p l e R s m args below meth c k A nL Q bc bs tgt L st h) (kf : ¬ y ≤ x → Wx p l e R s m args below meth c k A nL Q bc bs (pc + 3) L st h) : Wx p l e R s m args below meth c k A nL Q bc bs pc L (.int y :: .int x :: st) h := by
  intro H locs ls cells slots h1 h2 hP hS hl
  exact lv_icmp_ge G.1 G.2.1 d ht (fun q => kt q H locs ls cells slots h1 h2 hP hS hl) (fun q => kf q H locs ls cells slots h1 h2 hP hS hl)
theorem x_if_ge (G : GX p l R s m args meth c k A own cc nL ret) {off : Int} {tgt : Nat} {x y : Int32} (d : decode cc pc = .ok (.ifCond .ge off, 3)) (ht : (pc : Int) + off = (tgt : Int)) (kt : 0 ≤ x → Wx p l e R s m args below meth c k A nL Q bc bs tgt L st h) (kf : ¬ 0 ≤ x → Wx p l e R s m args below meth c k A nL Q bc bs (pc + 3) L st h) : Wx p l e R s m args below meth c k A nL Q bc bs pc L (.int x :: st) h := by
  intro H locs ls cells slots h1 h2 hP hS hl
  exact lv_if_ge G.1 G.2.1 d ht (fun q => kt q H locs ls cells slots h1 h2 hP hS hl) (fun q => kf q H locs ls cells slots h1 h2 hP hS hl)
theorem x_icmp_gt (G : GX p l R s m args meth c k A own cc nL ret) {off : Int} {tgt : Nat} {x y : Int32} (d : decode cc pc = .ok (.if_icmp .gt off, 3)) (ht : (pc : Int) + off = (tgt : Int)) (kt : y < x → Wx p l e R s m args below meth c k A nL Q bc bs tgt L st h) (kf : ¬ y < x → Wx p l e R s m args below meth c k A nL Q bc bs (pc + 3) L st h) : Wx p l e R s m args below meth c k A nL Q bc bs pc L (.int y :: .int x :: st) h := by
  intro H locs ls cells slots h1 h2 hP hS hl
  exact lv_icmp_gt G.1 G.2.1 d ht (fun q => kt q H locs ls cells slots h1 h2 hP hS hl) (fun q => kf q H locs ls cells slots h1 h2 hP hS hl)
theorem x_if_gt (G : GX p l R s m args meth c k A own cc nL ret) {off : Int} {tgt : Nat} {x y : Int32} (d : decode cc pc = .ok (.ifCond .gt off, 3)) (ht : (pc : Int) + off = (tgt : Int)) (kt : 0 < x → Wx p l e R s m args below meth c k A nL Q bc bs tgt L st h) (kf : ¬ 0 < x → Wx p l e R s m args below meth c k A nL Q bc bs (pc + 3) L st h) : Wx p l e R s m args below meth c k A nL Q bc bs pc L (.int x :: st) h := by
  intro H locs ls cells slots h1 h2 hP hS hl
  exact lv_if_gt G.1 G.2.1 d ht (fun q => kt q H locs ls cells slots h1 h2 hP hS hl) (fun q => kf q H locs ls cells slots h1 h2 hP hS hl)
theorem x_icmp_le (G : GX p l R s m args meth c k A own cc nL ret) {off : Int} {tgt : Nat} {x y : Int32} (d : decode cc pc = .ok (.if_icmp .le off, 3)) (ht : (pc : Int) + off = (tgt : Int)) (kt : x ≤ y → Wx p l e R s m args below meth c k A nL Q bc bs tgt L st h) (kf : ¬ x ≤ y → Wx p l e R s m args below meth c k A nL Q bc bs (pc + 3) L st h) : Wx p l e R s m args below meth c k A nL Q bc bs pc L (.int y :: .int x :: st) h := by
  intro H locs ls cells slots h1 h2 hP hS hl
  exact lv_icmp_le G.1 G.2.1 d ht (fun q => kt q H locs ls cells slots h1 h2 hP hS hl) (fun q => kf q H locs ls cells slots h1 h2 hP hS hl)
theorem x_if_le (G : GX p l R s m args meth c k A own cc nL ret) {off : Int} {tgt : Nat} {x y : Int32} (d : decode cc pc = .ok (.ifCond .le off, 3)) (ht : (pc : Int) + off = (tgt : Int)) (kt : x ≤ 0 → Wx p l e R s m args below meth c k A nL Q bc bs tgt L st h) (kf : ¬ x ≤ 0 → Wx p l e R s m args below meth c k A nL Q bc bs (pc + 3) L st h) : Wx p l e R s m args below meth c k A nL Q bc bs pc L (.int x :: st) h := by
  intro H locs ls cells slots h1 h2 hP hS hl
  exact lv_if_le G.1 G.2.1 d ht (fun q => kt q H locs ls cells slots h1 h2 hP hS hl) (fun q => kf q H locs ls cells slots h1 h2 hP hS hl)
theorem x_goto (G : GX p l R s m args meth c k A own cc nL ret) {off : Int} {tgt : Nat} (d : decode cc pc = .ok (.goto off, 3)) (ht : (pc : Int) + off = (tgt : Int)) (kk : Wx p l e R s m args below meth c k A nL Q bc bs tgt L st h) : Wx p l e R s m args below meth c k A nL Q bc bs pc L st h := by
  intro H locs ls cells slots h1 h2 hP hS hl
  exact lv_goto G.1 G.2.1 d ht (kk H locs ls cells slots h1 h2 hP hS hl)
theorem x_ifnonnull (G : GX p l R s m args meth c k A own cc nL ret) {x : Nat} {off : Int} {tgt : Nat} (d : decode cc pc = .ok (.ifnonnull off, 3)) (ht : (pc : Int) + off = (tgt : Int)) (kk : Wx p l e R s m args below meth c k A nL Q bc bs tgt L st h) : Wx p l e R s m args below meth c k A nL Q bc bs pc L (.ref x :: st) h := by
  intro H locs ls cells slots h1 h2 hP hS hl
  exact lv_ifnonnull G.1 G.2.1 d ht (kk H locs ls cells slots h1 h2 hP hS hl)
theorem x_ifnull (G : GX p l R s m args meth c k A own cc nL ret) {x : Nat} {off : Int} (d : decode cc pc = .ok (.ifnull off, 3)) (kk : Wx p l e R s m args below meth c k A nL Q bc bs (pc + 3) L st h) : Wx p l e R s m args below meth c k A nL Q bc bs pc L (.ref x :: st) h := by
  intro H locs ls cells slots h1 h2 hP hS hl
  exact lv_ifnull G.1 G.2.1 d (kk H locs ls cells slots h1 h2 hP hS hl)
theorem x_ifnullN (G : GX p l R s m args meth c k A own cc nL ret) {off : Int} {tgt : Nat} (d : decode cc pc = .ok (.ifnull off, 3)) (ht : (pc : Int) + off = (tgt : Int)) (kk : Wx p l e R s m args below meth c k A nL Q bc bs tgt L st h) : Wx p l e R s m args below meth c k A nL Q bc bs pc L (.null :: st) h := by
  intro H locs ls cells slots h1 h2 hP hS hl
  exact lv_ifnullN G.1 G.2.1 d ht (kk H locs ls cells slots h1 h2 hP hS hl)
theorem x_ifnonnullN (G : GX p l R s m args meth c k A own cc nL ret) {off : Int} (d : decode cc pc = .ok (.ifnonnull off, 3)) (kk : Wx p l e R s m args below meth c k A nL Q bc bs (pc + 3) L st h) : Wx p l e R s m args below meth c k A nL Q bc bs pc L (.null :: st) h := by
  intro H locs ls cells slots h1 h2 hP hS hl
  exact lv_ifnonnullN G.1 G.2.1 d (kk H locs ls cells slots h1 h2 hP hS hl)
theorem x_acmp_eq (G : GX p l R s m args meth c k A own cc nL ret) {off : Int} {tgt : Nat} {rx ry : Option Nat} (d : decode cc pc = .ok (.if_acmp .eq off, 3)) (ht : (pc : Int) + off = (tgt : Int)) (kt : rx = ry → Wx p l e R s m args below meth c k A nL Q bc bs tgt L st h) (kf : ¬ rx = ry → Wx p l e R s m args below meth c k A nL Q bc bs (pc + 3) L st h) : Wx p l e R s m args below meth c k A nL Q bc bs pc L (va_rf ry :: va_rf rx :: st) h := by
  intro H locs ls cells slots h1 h2 hP hS hl
  exact lv_acmp_eq G.1 G.2.1 d ht (fun q => kt q H locs ls cells slots h1 h2 hP hS hl) (fun q => kf q H locs ls cells slots h1 h2 hP hS hl)
theorem x_acmp_ne (G : GX p l R s m args meth c k A own cc nL ret) {off : Int} {tgt : Nat} {rx ry : Option Nat} (d : decode cc pc = .ok (.if_acmp .ne off, 3)) (ht : (pc : Int) + off = (tgt : Int)) (kt : ¬ rx = ry → Wx p l e R s m args below meth c k A nL Q bc bs tgt L st h) (kf : rx = ry → Wx p l e R s m args below meth c k A nL Q bc bs (pc + 3) L st h) : Wx p l e R s m args below meth c k A nL Q bc bs pc L (va_rf ry :: va_rf rx :: st) h := by
  intro H locs ls cells slots h1 h2 hP hS hl
  exact lv_acmp_ne G.1 G.2.1 d ht (fun q => kt q H locs ls cells slots h1 h2 hP hS hl) (fun q => kf q H locs ls cells slots h1 h2 hP hS hl)
theorem x_tableIn (G : GX p l R s m args meth c k A own cc nL ret) {dflt lo hi : Int} {offs : Array Int} {len : Nat} {x : Int32} {off : Int} {tgt : Nat} (d : decode cc pc = .ok (.tableswitch dflt lo hi offs, len)) (g1 : ¬ x.toInt < lo) (g2 : ¬ hi < x.toInt) (ho : offs[(x.toInt - lo).toNat]? = some off) (ht : (pc : Int) + off = (tgt : Int)) (kk : Wx p l e R s m args below meth c k A nL Q bc bs tgt L st h) : Wx p l e R s m args below meth c k A nL Q bc bs pc L (.int x :: st) h := by
  intro H locs ls cells slots h1 h2 hP hS hl
  exact lv_tableIn G.1 G.2.1 d g1 g2 ho ht (kk H locs ls cells slots h1 h2 hP hS hl)
theorem x_tableOut (G : GX p l R s m args meth c k A own cc nL ret) {dflt lo hi : Int} {offs : Array Int} {len : Nat} {x : Int32} {tgt : Nat} (d : decode cc pc = .ok (.tableswitch dflt lo hi offs, len)) (g1 : x.toInt < lo ∨ hi < x.toInt) (ht : (pc : Int) + dflt = (tgt : Int)) (kk : Wx p l e R s m args below meth c k A nL Q bc bs tgt L st h) : Wx p l e R s m args below meth c k A nL Q bc bs pc L (.int x :: st) h := by
  intro H locs ls cells slots h1 h2 hP hS hl
  exact lv_tableOut G.1 G.2.1 d g1 ht (kk H locs ls cells slots h1 h2 hP hS hl)
theorem lp_of1 {ls ls' : Array Slot} {nL i : Nat} {v : Value} {P t : List (Option Value)} {o : Option Value} (hi : P.length = i) (hc : ∀ w, P.getLast? = some (some w) → w.category = 1) (k : lv_has ls' nL ((i, v) :: (lp_l 0 (P ++ o :: t)).filter (fun q => !(q.1 == i) && !(q.1 + 1 == i && q.2.category == 2)))) : lp_has ls' nL (P ++ some v :: t) := by
  subst hi
  refine ⟨k.1, k.2.1, fun j w hj => ?_⟩
  rcases Nat.lt_trichotomy j P.length with z | z | z
  · rw [List.getElem?_append_left z] at hj
    refine k.2.2 (j, w) (List.mem_cons_of_mem _ (List.mem_filter.mpr ⟨(lp_l_mem _ 0 j w).mpr ⟨j, by omega, by rw [List.getElem?_append_left z]; exact hj⟩, ?_⟩))
    have h1 : (j == P.length) = false := by simp; omega
    by_cases hz : j + 1 = P.length
    · have : w.category = 1 := hc w (by rw [List.getLast?_eq_getElem?, ← hz]; simpa using hj)
      simp [h1, this]
    · simp [h1, hz]
  · subst z
    simp at hj
    subst hj
    exact k.2.2 (_, _) List.mem_cons_self
  · rw [List.getElem?_append_right (by omega)] at hj
    have h0 : j - P.length = (j - P.length - 1) + 1 := by omega
    rw [h0, List.getElem?_cons_succ] at hj
    refine k.2.2 (j, w) (List.mem_cons_of_mem _ (List.mem_filter.mpr ⟨(lp_l_mem _ 0 j w).mpr ⟨j, by omega, by rw [List.getElem?_append_right (by omega), h0, List.getElem?_cons_succ]; exact hj⟩, ?_⟩))
    have h1 : (j == P.length) = false := by simp; omega
    have h2 : (j + 1 == P.length) = false := by simp; omega
    simp [h1, h2]
theorem lp_of2 {ls ls' : Array Slot} {nL i : Nat} {v : Value} {P t : List (Option Value)} {o o2 : Option Value} (hi : P.length = i) (hc : ∀ w, P.getLast? = some (some w) → w.category = 1) (k : lv_has ls' nL ((i, v) :: (lp_l 0 (P ++ o :: o2 :: t)).filter (fun q => !(q.1 == i) && (!(q.1 == i + 1) && !(q.1 + 1 == i && q.2.category == 2))))) : lp_has ls' nL (P ++ some v :: none :: t) := by
  subst hi
  refine ⟨k.1, k.2.1, fun j w hj => ?_⟩
  rcases Nat.lt_trichotomy j P.length with z | z | z
  · rw [List.getElem?_append_left z] at hj
    refine k.2.2 (j, w) (List.mem_cons_of_mem _ (List.mem_filter.mpr ⟨(lp_l_mem _ 0 j w).mpr ⟨j, by omega, by rw [List.getElem?_append_left z]; exact hj⟩, ?_⟩))
    have h1 : (j == P.length) = false := by simp; omega
    have h2 : (j == P.length + 1) = false := by simp; omega
    by_cases hz : j + 1 = P.length
    · have : w.category = 1 := hc w (by rw [List.getLast?_eq_getElem?, ← hz]; simpa using hj)
      simp [h1, h2, this]
    · simp [h1, h2, hz]
  · subst z
    simp at hj
    subst hj
    exact k.2.2 (_, _) List.mem_cons_self
  · rw [List.getElem?_append_right (by omega)] at hj
    by_cases h9 : j = P.length + 1
    · subst h9
      simp at hj
    · have h0 : j - P.length = (j - P.length - 2) + 1 + 1 := by omega
      rw [h0, List.getElem?_cons_succ, List.getElem?_cons_succ] at hj
      refine k.2.2 (j, w) (List.mem_cons_of_mem _ (List.mem_filter.mpr ⟨(lp_l_mem _ 0 j w).mpr ⟨j, by omega, by rw [List.getElem?_append_right (by omega), h0, List.getElem?_cons_succ, List.getElem?_cons_succ]; exact hj⟩, ?_⟩))
      have h1 : (j == P.length) = false := by simp; omega
      have h2 : (j == P.length + 1) = false := by simp; omega
      have h3 : (j + 1 == P.length) = false := by simp; omega
      simp [h1, h2, h3]
theorem lp_lastc {P : List (Option Value)} {o : Option Value} (h : P.getLast? = some o) (hc : lp_c2 o = false) : ∀ w, P.getLast? = some (some w) → w.category = 1 := fun w hw => by
  rw [h] at hw
  cases hw
  exact lp_c2_cat hc
theorem lp_last0 : ∀ w : Value, ([] : List (Option Value)).getLast? = some (some w) → w.category = 1 := fun w h => by cases h
theorem x_iload0 (G : GX p l R s m args meth c k A own cc nL ret) {t : List (Option Value)} {x : Int32} (d : decode cc pc = .ok (.iload_n 0, 1)) (kk : Wx p l e R s m args below meth c k A nL Q bc bs (pc + 1) (some (.int x) :: t) (.int x :: st) h) : Wx p l e R s m args below meth c k A nL Q bc bs pc (some (.int x) :: t) st h := by
  intro H locs ls cells slots h1 h2 hP hS hl
  exact lv_iload_n G.1 G.2.1 d rfl (hl.at (i := 0) rfl) (kk H locs ls cells slots h1 h2 hP hS hl)
theorem x_istore0 (G : GX p l R s m args meth c k A own cc nL ret) {o : Option Value} {t : List (Option Value)} {x : Int32} (d : decode cc pc = .ok (.istore_n 0, 1)) (hn : 0 < nL)  (kk : Wx p l e R s m args below meth c k A nL Q bc bs (pc + 1) (some (.int x) :: t) st h) : Wx p l e R s m args below meth c k A nL Q bc bs pc (o :: t) (.int x :: st) h := by
  intro H locs ls cells slots h1 h2 hP hS hl
  exact lv_istore_n G.1 G.2.1 d rfl hl.lv hn rfl (fun ls9 k9 => kk H locs ls9 cells slots h1 h2 hP hS (lp_of1 (P := []) (o := o) (ls := ls) rfl lp_last0 k9))
theorem x_lload0 (G : GX p l R s m args meth c k A own cc nL ret) {t : List (Option Value)} {x : Int64} (d : decode cc pc = .ok (.lload_n 0, 1)) (kk : Wx p l e R s m args below meth c k A nL Q bc bs (pc + 1) (some (.long x) :: t) (.long x :: st) h) : Wx p l e R s m args below meth c k A nL Q bc bs pc (some (.long x) :: t) st h := by
  intro H locs ls cells slots h1 h2 hP hS hl
  exact lv_lload_n G.1 G.2.1 d rfl (hl.at (i := 0) rfl) (kk H locs ls cells slots h1 h2 hP hS hl)
theorem x_lstore0 (G : GX p l R s m args meth c k A own cc nL ret) {o o2 : Option Value} {t : List (Option Value)} {x : Int64} (d : decode cc pc = .ok (.lstore_n 0, 1)) (hn : 0 + 1 < nL)  (kk : Wx p l e R s m args below meth c k A nL Q bc bs (pc + 1) (some (.long x) :: none :: t) st h) : Wx p l e R s m args below meth c k A nL Q bc bs pc (o :: o2 :: t) (.long x :: st) h := by
  intro H locs ls cells slots h1 h2 hP hS hl
  exact lv_lstore_n G.1 G.2.1 d rfl hl.lv hn rfl (fun ls9 k9 => kk H locs ls9 cells slots h1 h2 hP hS (lp_of2 (P := []) (o := o) (o2 := o2) (ls := ls) rfl lp_last0 k9))
theorem x_aload0 (G : GX p l R s m args meth c k A own cc nL ret) {t : List (Option Value)} {x : Nat} (d : decode cc pc = .ok (.aload_n 0, 1)) (kk : Wx p l e R s m args below meth c k A nL Q bc bs (pc + 1) (some (.ref x) :: t) (.ref x :: st) h) : Wx p l e R s m args below meth c k A nL Q bc bs pc (some (.ref x) :: t) st h := by
  intro H locs ls cells slots h1 h2 hP hS hl
  exact lv_aload_n G.1 G.2.1 d rfl (hl.at (i := 0) rfl) (kk H locs ls cells slots h1 h2 hP hS hl)
theorem x_astore0 (G : GX p l R s m args meth c k A own cc nL ret) {o : Option Value} {t : List (Option Value)} {x : Nat} (d : decode cc pc = .ok (.astore_n 0, 1)) (hn : 0 < nL)  (kk : Wx p l e R s m args below meth c k A nL Q bc bs (pc + 1) (some (.ref x) :: t) st h) : Wx p l e R s m args below meth c k A nL Q bc bs pc (o :: t) (.ref x :: st) h := by
  intro H locs ls cells slots h1 h2 hP hS hl
  exact lv_astore_n G.1 G.2.1 d rfl hl.lv hn rfl (fun ls9 k9 => kk H locs ls9 cells slots h1 h2 hP hS (lp_of1 (P := []) (o := o) (ls := ls) rfl lp_last0 k9))
theorem x_astoreN0 (G : GX p l R s m args meth c k A own cc nL ret) {o : Option Value} {t : List (Option Value)} (d : decode cc pc = .ok (.astore_n 0, 1)) (hn : 0 < nL)  (kk : Wx p l e R s m args below meth c k A nL Q bc bs (pc + 1) (some (.null) :: t) st h) : Wx p l e R s m args below meth c k A nL Q bc bs pc (o :: t) (.null :: st) h := by
  intro H locs ls cells slots h1 h2 hP hS hl
  exact lv_astore_nN G.1 G.2.1 d rfl hl.lv hn rfl (fun ls9 k9 => kk H locs ls9 cells slots h1 h2 hP hS (lp_of1 (P := []) (o := o) (ls := ls) rfl lp_last0 k9))
theorem x_aloadN0 (G : GX p l R s m args meth c k A own cc nL ret) {t : List (Option Value)} (d : decode cc pc = .ok (.aload_n 0, 1)) (kk : Wx p l e R s m args below meth c k A nL Q bc bs (pc + 1) (some .null :: t) (.null :: st) h) : Wx p l e R s m args below meth c k A nL Q bc bs pc (some .null :: t) st h := by
  intro H locs ls cells slots h1 h2 hP hS hl
  exact lv_aload_nN G.1 G.2.1 d rfl (hl.at (i := 0) rfl) (kk H locs ls cells slots h1 h2 hP hS hl)
theorem x_iinc0 (G : GX p l R s m args meth c k A own cc nL ret) {t : List (Option Value)} {x v : Int32} {n : Int} (d : decode cc pc = .ok (.iinc 0 n, 3)) (hv : x + Int32.ofInt n = v) (hn : 0 < nL) (kk : Wx p l e R s m args below meth c k A nL Q bc bs (pc + 3) (some (.int v) :: t) st h) : Wx p l e R s m args below meth c k A nL Q bc bs pc (some (.int x) :: t) st h := by
  intro H locs ls cells slots h1 h2 hP hS hl
  obtain ⟨kq, hkq⟩ := List.getElem?_of_mem ((lp_l_mem (some (.int x) :: t) 0 0 (.int x)).mpr ⟨0, (Nat.zero_add _).symm, rfl⟩)
  exact lv_iinc G.1 G.2.1 d hl.lv hkq hv hn rfl (fun ls9 k9 => kk H locs ls9 cells slots h1 h2 hP hS (lp_of1 (P := []) (o := some (.int x)) (ls := ls) rfl lp_last0 k9))
theorem x_iload1 (G : GX p l R s m args meth c k A own cc nL ret) {a0 : Option Value} {t : List (Option Value)} {x : Int32} (d : decode cc pc = .ok (.iload_n 1, 1)) (kk : Wx p l e R s m args below meth c k A nL Q bc bs (pc + 1) (a0 :: some (.int x) :: t) (.int x :: st) h) : Wx p l e R s m args below meth c k A nL Q bc bs pc (a0 :: some (.int x) :: t) st h := by
  intro H locs ls cells slots h1 h2 hP hS hl
  exact lv_iload_n G.1 G.2.1 d rfl (hl.at (i := 1) rfl) (kk H locs ls cells slots h1 h2 hP hS hl)
theorem x_istore1 (G : GX p l R s m args meth c k A own cc nL ret) {a0 : Option Value} {o : Option Value} {t : List (Option Value)} {x : Int32} (d : decode cc pc = .ok (.istore_n 1, 1)) (hn : 1 < nL) (hc : lp_c2 a0 = false)  (kk : Wx p l e R s m args below meth c k A nL Q bc bs (pc + 1) (a0 :: some (.int x) :: t) st h) : Wx p l e R s m args below meth c k A nL Q bc bs pc (a0 :: o :: t) (.int x :: st) h := by
  intro H locs ls cells slots h1 h2 hP hS hl
  exact lv_istore_n G.1 G.2.1 d rfl hl.lv hn rfl (fun ls9 k9 => kk H locs ls9 cells slots h1 h2 hP hS (lp_of1 (P := [a0]) (o := o) (ls := ls) rfl (lp_lastc rfl hc) k9))
theorem x_lload1 (G : GX p l R s m args meth c k A own cc nL ret) {a0 : Option Value} {t : List (Option Value)} {x : Int64} (d : decode cc pc = .ok (.lload_n 1, 1)) (kk : Wx p l e R s m args below meth c k A nL Q bc bs (pc + 1) (a0 :: some (.long x) :: t) (.long x :: st) h) : Wx p l e R s m args below meth c k A nL Q bc bs pc (a0 :: some (.long x) :: t) st h := by
  intro H locs ls cells slots h1 h2 hP hS hl
  exact lv_lload_n G.1 G.2.1 d rfl (hl.at (i := 1) rfl) (kk H locs ls cells slots h1 h2 hP hS hl)
theorem x_lstore1 (G : GX p l R s m args meth c k A own cc nL ret) {a0 : Option Value} {o o2 : Option Value} {t : List (Option Value)} {x : Int64} (d : decode cc pc = .ok (.lstore_n 1, 1)) (hn : 1 + 1 < nL) (hc : lp_c2 a0 = false)  (kk : Wx p l e R s m args below meth c k A nL Q bc bs (pc + 1) (a0 :: some (.long x) :: none :: t) st h) : Wx p l e R s m args below meth c k A nL Q bc bs pc (a0 :: o :: o2 :: t) (.long x :: st) h := by
  intro H locs ls cells slots h1 h2 hP hS hl
  exact lv_lstore_n G.1 G.2.1 d rfl hl.lv hn rfl (fun ls9 k9 => kk H locs ls9 cells slots h1 h2 hP hS (lp_of2 (P := [a0]) (o := o) (o2 := o2) (ls := ls) rfl (lp_lastc rfl hc) k9))
theorem x_aload1 (G : GX p l R s m args meth c k A own cc nL ret) {a0 : Option Value} {t : List (Option Value)} {x : Nat} (d : decode cc pc = .ok (.aload_n 1, 1)) (kk : Wx p l e R s m args below meth c k A nL Q bc bs (pc + 1) (a0 :: some (.ref x) :: t) (.ref x :: st) h) : Wx p l e R s m args below meth c k A nL Q bc bs pc (a0 :: some (.ref x) :: t) st h := by
  intro H locs ls cells slots h1 h2 hP hS hl
  exact lv_aload_n G.1 G.2.1 d rfl (hl.at (i := 1) rfl) (kk H locs ls cells slots h1 h2 hP hS hl)
theorem x_astore1 (G : GX p l R s m args meth c k A own cc nL ret) {a0 : Option Value} {o : Option Value} {t : List (Option Value)} {x : Nat} (d : decode cc pc = .ok (.astore_n 1, 1)) (hn : 1 < nL) (hc : lp_c2 a0 = false)  (kk : Wx p l e R s m args below meth c k A nL Q bc bs (pc + 1) (a0 :: some (.ref x) :: t) st h) : Wx p l e R s m args below meth c k A nL Q bc bs pc (a0 :: o :: t) (.ref x :: st) h := by
  intro H locs ls cells slots h1 h2 hP hS hl
  exact lv_astore_n G.1 G.2.1 d rfl hl.lv hn rfl (fun ls9 k9 => kk H locs ls9 cells slots h1 h2 hP hS (lp_of1 (P := [a0]) (o := o) (ls := ls) rfl (lp_lastc rfl hc) k9))
theorem x_astoreN1 (G : GX p l R s m args meth c k A own cc nL ret) {a0 : Option Value} {o : Option Value} {t : List (Option Value)} (d : decode cc pc = .ok (.astore_n 1, 1)) (hn : 1 < nL) (hc : lp_c2 a0 = false)  (kk : Wx p l e R s m args below meth c k A nL Q bc bs (pc + 1) (a0 :: some (.null) :: t) st h) : Wx p l e R s m args below meth c k A nL Q bc bs pc (a0 :: o :: t) (.null :: st) h := by
  intro H locs ls cells slots h1 h2 hP hS hl
  exact lv_astore_nN G.1 G.2.1 d rfl hl.lv hn rfl (fun ls9 k9 => kk H locs ls9 cells slots h1 h2 hP hS (lp_of1 (P := [a0]) (o := o) (ls := ls) rfl (lp_lastc rfl hc) k9))
theorem x_aloadN1 (G : GX p l R s m args meth c k A own cc nL ret) {a0 : Option Value} {t : List (Option Value)} (d : decode cc pc = .ok (.aload_n 1, 1)) (kk : Wx p l e R s m args below meth c k A nL Q bc bs (pc + 1) (a0 :: some .null :: t) (.null :: st) h) : Wx p l e R s m args below meth c k A nL Q bc bs pc (a0 :: some .null :: t) st h := by
  intro H locs ls cells slots h1 h2 hP hS hl
  exact lv_aload_nN G.1 G.2.1 d rfl (hl.at (i := 1) rfl) (kk H locs ls cells slots h1 h2 hP hS hl)
theorem x_iinc1 (G : GX p l R s m args meth c k A own cc nL ret) {a0 : Option Value} {t : List (Option Value)} {x v : Int32} {n : Int} (d : decode cc pc = .ok (.iinc 1 n, 3)) (hv : x + Int32.ofInt n = v) (hn : 1 < nL) (hc : lp_c2 a0 = false) (kk : Wx p l e R s m args below meth c k A nL Q bc bs (pc + 3) (a0 :: some (.int v) :: t) st h) : Wx p l e R s m args below meth c k A nL Q bc bs pc (a0 :: some (.int x) :: t) st h := by
  intro H locs ls cells slots h1 h2 hP hS hl
  obtain ⟨kq, hkq⟩ := List.getElem?_of_mem ((lp_l_mem (a0 :: some (.int x) :: t) 0 1 (.int x)).mpr ⟨1, (Nat.zero_add _).symm, rfl⟩)
  exact lv_iinc G.1 G.2.1 d hl.lv hkq hv hn rfl (fun ls9 k9 => kk H locs ls9 cells slots h1 h2 hP hS (lp_of1 (P := [a0]) (o := some (.int x)) (ls := ls) rfl (lp_lastc rfl hc) k9))
theorem x_iload2 (G : GX p l R s m args meth c k A own cc nL ret) {a0 a1 : Option Value} {t : List (Option Value)} {x : Int32} (d : decode cc pc = .ok (.iload_n 2, 1)) (kk : Wx p l e R s m args below meth c k A nL Q bc bs (pc + 1) (a0 :: a1 :: some (.int x) :: t) (.int x :: st) h) : Wx p l e R s m args below meth c k A nL Q bc bs pc (a0 :: a1 :: some (.int x) :: t) st h := by
  intro H locs ls cells slots h1 h2 hP hS hl
  exact lv_iload_n G.1 G.2.1 d rfl (hl.at (i := 2) rfl) (kk H locs ls cells slots h1 h2 hP hS hl)
theorem x_istore2 (G : GX p l R s m args meth c k A own cc nL ret) {a0 a1 : Option Value} {o : Option Value} {t : List (Option Value)} {x : Int32} (d : decode cc pc = .ok (.istore_n 2, 1)) (hn : 2 < nL) (hc : lp_c2 a1 = false)  (kk : Wx p l e R s m args below meth c k A nL Q bc bs (pc + 1) (a0 :: a1 :: some (.int x) :: t) st h) : Wx p l e R s m args below meth c k A nL Q bc bs pc (a0 :: a1 :: o :: t) (.int x :: st) h := by
  intro H locs ls cells slots h1 h2 hP hS hl
  exact lv_istore_n G.1 G.2.1 d rfl hl.lv hn rfl (fun ls9 k9 => kk H locs ls9 cells slots h1 h2 hP hS (lp_of1 (P := [a0, a1]) (o := o) (ls := ls) rfl (lp_lastc rfl hc) k9))
theorem x_lload2 (G : GX p l R s m args meth c k A own cc nL ret) {a0 a1 : Option Value} {t : List (Option Value)} {x : Int64} (d : decode cc pc = .ok (.lload_n 2, 1)) (kk : Wx p l e R s m args below meth c k A nL Q bc bs (pc + 1) (a0 :: a1 :: some (.long x) :: t) (.long x :: st) h) : Wx p l e R s m args below meth c k A nL Q bc bs pc (a0 :: a1 :: some (.long x) :: t) st h := by
  intro H locs ls cells slots h1 h2 hP hS hl
  exact lv_lload_n G.1 G.2.1 d rfl (hl.at (i := 2) rfl) (kk H locs ls cells slots h1 h2 hP hS hl)
theorem x_lstore2 (G : GX p l R s m args meth c k A own cc nL ret) {a0 a1 : Option Value} {o o2 : Option Value} {t : List (Option Value)} {x : Int64} (d : decode cc pc = .ok (.lstore_n 2, 1)) (hn : 2 + 1 < nL) (hc : lp_c2 a1 = false)  (kk : Wx p l e R s m args below meth c k A nL Q bc bs (pc + 1) (a0 :: a1 :: some (.long x) :: none :: t) st h) : Wx p l e R s m args below meth c k A nL Q bc bs pc (a0 :: a1 :: o :: o2 :: t) (.long x :: st) h := by
  intro H locs ls cells slots h1 h2 hP hS hl
  exact lv_lstore_n G.1 G.2.1 d rfl hl.lv hn rfl (fun ls9 k9 => kk H locs ls9 cells slots h1 h2 hP hS (lp_of2 (P := [a0, a1]) (o := o) (o2 := o2) (ls := ls) rfl (lp_lastc rfl hc) k9))
theorem x_aload2 (G : GX p l R s m args meth c k A own cc nL ret) {a0 a1 : Option Value} {t : List (Option Value)} {x : Nat} (d : decode cc pc = .ok (.aload_n 2, 1)) (kk : Wx p l e R s m args below meth c k A nL Q bc bs (pc + 1) (a0 :: a1 :: some (.ref x) :: t) (.ref x :: st) h) : Wx p l e R s m args below meth c k A nL Q bc bs pc (a0 :: a1 :: some (.ref x) :: t) st h := by
  intro H locs ls cells slots h1 h2 hP hS hl
  exact lv_aload_n G.1 G.2.1 d rfl (hl.at (i := 2) rfl) (kk H locs ls cells slots h1 h2 hP hS hl)
theorem x_astore2 (G : GX p l R s m args meth c k A own cc nL ret) {a0 a1 : Option Value} {o : Option Value} {t : List (Option Value)} {x : Nat} (d : decode cc pc = .ok (.astore_n 2, 1)) (hn : 2 < nL) (hc : lp_c2 a1 = false)  (kk : Wx p l e R s m args below meth c k A nL Q bc bs (pc + 1) (a0 :: a1 :: some (.ref x) :: t) st h) : Wx p l e R s m args below meth c k A nL Q bc bs pc (a0 :: a1 :: o :: t) (.ref x :: st) h := by
  intro H locs ls cells slots h1 h2 hP hS hl
  exact lv_astore_n G.1 G.2.1 d rfl hl.lv hn rfl (fun ls9 k9 => kk H locs ls9 cells slots h1 h2 hP hS (lp_of1 (P := [a0, a1]) (o := o) (ls := ls) rfl (lp_lastc rfl hc) k9))
theorem x_astoreN2 (G : GX p l R s m args meth c k A own cc nL ret) {a0 a1 : Option Value} {o : Option Value} {t : List (Option Value)} (d : decode cc pc = .ok (.astore_n 2, 1)) (hn : 2 < nL) (hc : lp_c2 a1 = false)  (kk : Wx p l e R s m args below meth c k A nL Q bc bs (pc + 1) (a0 :: a1 :: some (.null) :: t) st h) : Wx p l e R s m args below meth c k A nL Q bc bs pc (a0 :: a1 :: o :: t) (.null :: st) h := by
  intro H locs ls cells slots h1 h2 hP hS hl
  exact lv_astore_nN G.1 G.2.1 d rfl hl.lv hn rfl (fun ls9 k9 => kk H locs ls9 cells slots h1 h2 hP hS (lp_of1 (P := [a0, a1]) (o := o) (ls := ls) rfl (lp_lastc rfl hc) k9))
theorem x_aloadN2 (G : GX p l R s m args meth c k A own cc nL ret) {a0 a1 : Option Value} {t : List (Option Value)} (d : decode cc pc = .ok (.aload_n 2, 1)) (kk : Wx p l e R s m args below meth c k A nL Q bc bs (pc + 1) (a0 :: a1 :: some .null :: t) (.null :: st) h) : Wx p l e R s m args below meth c k A nL Q bc bs pc (a0 :: a1 :: some .null :: t) st h := by
  intro H locs ls cells slots h1 h2 hP hS hl
  exact lv_aload_nN G.1 G.2.1 d rfl (hl.at (i := 2) rfl) (kk H locs ls cells slots h1 h2 hP hS hl)
theorem x_iinc2 (G : GX p l R s m args meth c k A own cc nL ret) {a0 a1 : Option Value} {t : List (Option Value)} {x v : Int32} {n : Int} (d : decode cc pc = .ok (.iinc 2 n, 3)) (hv : x + Int32.ofInt n = v) (hn : 2 < nL) (hc : lp_c2 a1 = false) (kk : Wx p l e R s m args below meth c k A nL Q bc bs (pc + 3) (a0 :: a1 :: some (.int v) :: t) st h) : Wx p l e R s m args below meth c k A nL Q bc bs pc (a0 :: a1 :: some (.int x) :: t) st h := by
  intro H locs ls cells slots h1 h2 hP hS hl
  obtain ⟨kq, hkq⟩ := List.getElem?_of_mem ((lp_l_mem (a0 :: a1 :: some (.int x) :: t) 0 2 (.int x)).mpr ⟨2, (Nat.zero_add _).symm, rfl⟩)
  exact lv_iinc G.1 G.2.1 d hl.lv hkq hv hn rfl (fun ls9 k9 => kk H locs ls9 cells slots h1 h2 hP hS (lp_of1 (P := [a0, a1]) (o := some (.int x)) (ls := ls) rfl (lp_lastc rfl hc) k9))
theorem x_iload3 (G : GX p l R s m args meth c k A own cc nL ret) {a0 a1 a2 : Option Value} {t : List (Option Value)} {x : Int32} (d : decode cc pc = .ok (.iload_n 3, 1)) (kk : Wx p l e R s m args below meth c k A nL Q bc bs (pc + 1) (a0 :: a1 :: a2 :: some (.int x) :: t) (.int x :: st) h) : Wx p l e R s m args below meth c k A nL Q bc bs pc (a0 :: a1 :: a2 :: some (.int x) :: t) st h := by
  intro H locs ls cells slots h1 h2 hP hS hl
  exact lv_iload_n G.1 G.2.1 d rfl (hl.at (i := 3) rfl) (kk H locs ls cells slots h1 h2 hP hS hl)
theorem x_istore3 (G : GX p l R s m args meth c k A own cc nL ret) {a0 a1 a2 : Option Value} {o : Option Value} {t : List (Option Value)} {x : Int32} (d : decode cc pc = .ok (.istore_n 3, 1)) (hn : 3 < nL) (hc : lp_c2 a2 = false)  (kk : Wx p l e R s m args below meth c k A nL Q bc bs (pc + 1) (a0 :: a1 :: a2 :: some (.int x) :: t) st h) : Wx p l e R s m args below meth c k A nL Q bc bs pc (a0 :: a1 :: a2 :: o :: t) (.int x :: st) h := by
  intro H locs ls cells slots h1 h2 hP hS hl
  exact lv_istore_n G.1 G.2.1 d rfl hl.lv hn rfl (fun ls9 k9 => kk H locs ls9 cells slots h1 h2 hP hS (lp_of1 (P := [a0, a1, a2]) (o := o) (ls := ls) rfl (lp_lastc rfl hc) k9))
theorem x_lload3 (G : GX p l R s m args meth c k A own cc nL ret) {a0 a1 a2 : Option Value} {t : List (Option Value)} {x : Int64} (d : decode cc pc = .ok (.lload_n 3, 1)) (kk : Wx p l e R s m args below meth c k A nL Q bc bs (pc + 1) (a0 :: a1 :: a2 :: some (.long x) :: t) (.long x :: st) h) : Wx p l e R s m args below meth c k A nL Q bc bs pc (a0 :: a1 :: a2 :: some (.long x) :: t) st h := by
  intro H locs ls cells slots h1 h2 hP hS hl
  exact lv_lload_n G.1 G.2.1 d rfl (hl.at (i := 3) rfl) (kk H locs ls cells slots h1 h2 hP hS hl)
theorem x_lstore3 (G : GX p l R s m args meth c k A own cc nL ret) {a0 a1 a2 : Option Value} {o o2 : Option Value} {t : List (Option Value)} {x : Int64} (d : decode cc pc = .ok (.lstore_n 3, 1)) (hn : 3 + 1 < nL) (hc : lp_c2 a2 = false)  (kk : Wx p l e R s m args below meth c k A nL Q bc bs (pc + 1) (a0 :: a1 :: a2 :: some (.long x) :: none :: t) st h) : Wx p l e R s m args below meth c k A nL Q bc bs pc (a0 :: a1 :: a2 :: o :: o2 :: t) (.long x :: st) h := by
  intro H locs ls cells slots h1 h2 hP hS hl
  exact lv_lstore_n G.1 G.2.1 d rfl hl.lv hn rfl (fun ls9 k9 => kk H locs ls9 cells slots h1 h2 hP hS (lp_of2 (P := [a0, a1, a2]) (o := o) (o2 := o2) (ls := ls) rfl (lp_lastc rfl hc) k9))
theorem x_aload3 (G : GX p l R s m args meth c k A own cc nL ret) {a0 a1 a2 : Option Value} {t : List (Option Value)} {x : Nat} (d : decode cc pc = .ok (.aload_n 3, 1)) (kk : Wx p l e R s m args below meth c k A nL Q bc bs (pc + 1) (a0 :: a1 :: a2 :: some (.ref x) :: t) (.ref x :: st) h) : Wx p l e R s m args below meth c k A nL Q bc bs pc (a0 :: a1 :: a2 :: some (.ref x) :: t) st h := by
  intro H locs ls cells slots h1 h2 hP hS hl
  exact lv_aload_n G.1 G.2.1 d rfl (hl.at (i := 3) rfl) (kk H locs ls cells slots h1 h2 hP hS hl)
theorem x_astore3 (G : GX p l R s m args meth c k A own cc nL ret) {a0 a1 a2 : Option Value} {o : Option Value} {t : List (Option Value)} {x : Nat} (d : decode cc pc = .ok (.astore_n 3, 1)) (hn : 3 < nL) (hc : lp_c2 a2 = false)  (kk : Wx p l e R s m args below meth c k A nL Q bc bs (pc + 1) (a0 :: a1 :: a2 :: some (.ref x) :: t) st h) : Wx p l e R s m args below meth c k A nL Q bc bs pc (a0 :: a1 :: a2 :: o :: t) (.ref x :: st) h := by
  intro H locs ls cells slots h1 h2 hP hS hl
  exact lv_astore_n G.1 G.2.1 d rfl hl.lv hn rfl (fun ls9 k9 => kk H locs ls9 cells slots h1 h2 hP hS (lp_of1 (P := [a0, a1, a2]) (o := o) (ls := ls) rfl (lp_lastc rfl hc) k9))
theorem x_astoreN3 (G : GX p l R s m args meth c k A own cc nL ret) {a0 a1 a2 : Option Value} {o : Option Value} {t : List (Option Value)} (d : decode cc pc = .ok (.astore_n 3, 1)) (hn : 3 < nL) (hc : lp_c2 a2 = false)  (kk : Wx p l e R s m args below meth c k A nL Q bc bs (pc + 1) (a0 :: a1 :: a2 :: some (.null) :: t) st h) : Wx p l e R s m args below meth c k A nL Q bc bs pc (a0 :: a1 :: a2 :: o :: t) (.null :: st) h := by
  intro H locs ls cells slots h1 h2 hP hS hl
  exact lv_astore_nN G.1 G.2.1 d rfl hl.lv hn rfl (fun ls9 k9 => kk H locs ls9 cells slots h1 h2 hP hS (lp_of1 (P := [a0, a1, a2]) (o := o) (ls := ls) rfl (lp_lastc rfl hc) k9))
theorem x_aloadN3 (G : GX p l R s m args meth c k A own cc nL ret) {a0 a1 a2 : Option Value} {t : List (Option Value)} (d : decode cc pc = .ok (.aload_n 3, 1)) (kk : Wx p l e R s m args below meth c k A nL Q bc bs (pc + 1) (a0 :: a1 :: a2 :: some .null :: t) (.null :: st) h) : Wx p l e R s m args below meth c k A nL Q bc bs pc (a0 :: a1 :: a2 :: some .null :: t) st h := by
  intro H locs ls cells slots h1 h2 hP hS hl
  exact lv_aload_nN G.1 G.2.1 d rfl (hl.at (i := 3) rfl) (kk H locs ls cells slots h1 h2 hP hS hl)
theorem x_iinc3 (G : GX p l R s m args meth c k A own cc nL ret) {a0 a1 a2 : Option Value} {t : List (Option Value)} {x v : Int32} {n : Int} (d : decode cc pc = .ok (.iinc 3 n, 3)) (hv : x + Int32.ofInt n = v) (hn : 3 < nL) (hc : lp_c2 a2 = false) (kk : Wx p l e R s m args below meth c k A nL Q bc bs (pc + 3) (a0 :: a1 :: a2 :: some (.int v) :: t) st h) : Wx p l e R s m args below meth c k A nL Q bc bs pc (a0 :: a1 :: a2 :: some (.int x) :: t) st h := by
  intro H locs ls cells slots h1 h2 hP hS hl
  obtain ⟨kq, hkq⟩ := List.getElem?_of_mem ((lp_l_mem (a0 :: a1 :: a2 :: some (.int x) :: t) 0 3 (.int x)).mpr ⟨3, (Nat.zero_add _).symm, rfl⟩)
  exact lv_iinc G.1 G.2.1 d hl.lv hkq hv hn rfl (fun ls9 k9 => kk H locs ls9 cells slots h1 h2 hP hS (lp_of1 (P := [a0, a1, a2]) (o := some (.int x)) (ls := ls) rfl (lp_lastc rfl hc) k9))
theorem x_iload4 (G : GX p l R s m args meth c k A own cc nL ret) {a0 a1 a2 a3 : Option Value} {t : List (Option Value)} {x : Int32} (d : decode cc pc = .ok (.iload 4, 2)) (kk : Wx p l e R s m args below meth c k A nL Q bc bs (pc + 2) (a0 :: a1 :: a2 :: a3 :: some (.int x) :: t) (.int x :: st) h) : Wx p l e R s m args below meth c k A nL Q bc bs pc (a0 :: a1 :: a2 :: a3 :: some (.int x) :: t) st h := by
  intro H locs ls cells slots h1 h2 hP hS hl
  exact lv_iload G.1 G.2.1 d (hl.at (i := 4) rfl) (kk H locs ls cells slots h1 h2 hP hS hl)
theorem x_istore4 (G : GX p l R s m args meth c k A own cc nL ret) {a0 a1 a2 a3 : Option Value} {o : Option Value} {t : List (Option Value)} {x : Int32} (d : decode cc pc = .ok (.istore 4, 2)) (hn : 4 < nL) (hc : lp_c2 a3 = false)  (kk : Wx p l e R s m args below meth c k A nL Q bc bs (pc + 2) (a0 :: a1 :: a2 :: a3 :: some (.int x) :: t) st h) : Wx p l e R s m args below meth c k A nL Q bc bs pc (a0 :: a1 :: a2 :: a3 :: o :: t) (.int x :: st) h := by
  intro H locs ls cells slots h1 h2 hP hS hl
  exact lv_istore G.1 G.2.1 d hl.lv hn rfl (fun ls9 k9 => kk H locs ls9 cells slots h1 h2 hP hS (lp_of1 (P := [a0, a1, a2, a3]) (o := o) (ls := ls) rfl (lp_lastc rfl hc) k9))
theorem x_lload4 (G : GX p l R s m args meth c k A own cc nL ret) {a0 a1 a2 a3 : Option Value} {t : List (Option Value)} {x : Int64} (d : decode cc pc = .ok (.lload 4, 2)) (kk : Wx p l e R s m args below meth c k A nL Q bc bs (pc + 2) (a0 :: a1 :: a2 :: a3 :: some (.long x) :: t) (.long x :: st) h) : Wx p l e R s m args below meth c k A nL Q bc bs pc (a0 :: a1 :: a2 :: a3 :: some (.long x) :: t) st h := by
  intro H locs ls cells slots h1 h2 hP hS hl
  exact lv_lload G.1 G.2.1 d (hl.at (i := 4) rfl) (kk H locs ls cells slots h1 h2 hP hS hl)
theorem x_lstore4 (G : GX p l R s m args meth c k A own cc nL ret) {a0 a1 a2 a3 : Option Value} {o o2 : Option Value} {t : List (Option Value)} {x : Int64} (d : decode cc pc = .ok (.lstore 4, 2)) (hn : 4 + 1 < nL) (hc : lp_c2 a3 = false)  (kk : Wx p l e R s m args below meth c k A nL Q bc bs (pc + 2) (a0 :: a1 :: a2 :: a3 :: some (.long x) :: none :: t) st h) : Wx p l e R s m args below meth c k A nL Q bc bs pc (a0 :: a1 :: a2 :: a3 :: o :: o2 :: t) (.long x :: st) h := by
  intro H locs ls cells slots h1 h2 hP hS hl
  exact lv_lstore G.1 G.2.1 d hl.lv hn rfl (fun ls9 k9 => kk H locs ls9 cells slots h1 h2 hP hS (lp_of2 (P := [a0, a1, a2, a3]) (o := o) (o2 := o2) (ls := ls) rfl (lp_lastc rfl hc) k9))
theorem x_aload4 (G : GX p l R s m args meth c k A own cc nL ret) {a0 a1 a2 a3 : Option Value} {t : List (Option Value)} {x : Nat} (d : decode cc pc = .ok (.aload 4, 2)) (kk : Wx p l e R s m args below meth c k A nL Q bc bs (pc + 2) (a0 :: a1 :: a2 :: a3 :: some (.ref x) :: t) (.ref x :: st) h) : Wx p l e R s m args below meth c k A nL Q bc bs pc (a0 :: a1 :: a2 :: a3 :: some (.ref x) :: t) st h := by
  intro H locs ls cells slots h1 h2 hP hS hl
  exact lv_aload G.1 G.2.1 d (hl.at (i := 4) rfl) (kk H locs ls cells slots h1 h2 hP hS hl)
theorem x_astore4 (G : GX p l R s m args meth c k A own cc nL ret) {a0 a1 a2 a3 : Option Value} {o : Option Value} {t : List (Option Value)} {x : Nat} (d : decode cc pc = .ok (.astore 4, 2)) (hn : 4 < nL) (hc : lp_c2 a3 = false)  (kk : Wx p l e R s m args below meth c k A nL Q bc bs (pc + 2) (a0 :: a1 :: a2 :: a3 :: some (.ref x) :: t) st h) : Wx p l e R s m args below meth c k A nL Q bc bs pc (a0 :: a1 :: a2 :: a3 :: o :: t) (.ref x :: st) h := by
  intro H locs ls cells slots h1 h2 hP hS hl
  exact lv_astore G.1 G.2.1 d hl.lv hn rfl (fun ls9 k9 => kk H locs ls9 cells slots h1 h2 hP hS (lp_of1 (P := [a0, a1, a2, a3]) (o := o) (ls := ls) rfl (lp_lastc rfl hc) k9))
theorem x_astoreN4 (G : GX p l R s m args meth c k A own cc nL ret) {a0 a1 a2 a3 : Option Value} {o : Option Value} {t : List (Option Value)} (d : decode cc pc = .ok (.astore 4, 2)) (hn : 4 < nL) (hc : lp_c2 a3 = false)  (kk : Wx p l e R s m args below meth c k A nL Q bc bs (pc + 2) (a0 :: a1 :: a2 :: a3 :: some (.null) :: t) st h) : Wx p l e R s m args below meth c k A nL Q bc bs pc (a0 :: a1 :: a2 :: a3 :: o :: t) (.null :: st) h := by
  intro H locs ls cells slots h1 h2 hP hS hl
  exact lv_astoreN G.1 G.2.1 d hl.lv hn rfl (fun ls9 k9 => kk H locs ls9 cells slots h1 h2 hP hS (lp_of1 (P := [a0, a1, a2, a3]) (o := o) (ls := ls) rfl (lp_lastc rfl hc) k9))
theorem x_aloadN4 (G : GX p l R s m args meth c k A own cc nL ret) {a0 a1 a2 a3 : Option Value} {t : List (Option Value)} (d : decode cc pc = .ok (.aload 4, 2)) (kk : Wx p l e R s m args below meth c k A nL Q bc bs (pc + 2) (a0 :: a1 :: a2 :: a3 :: some .null :: t) (.null :: st) h) : Wx p l e R s m args below meth c k A nL Q bc bs pc (a0 :: a1 :: a2 :: a3 :: some .null :: t) st h := by
  intro H locs ls cells slots h1 h2 hP hS hl
  exact lv_aloadN G.1 G.2.1 d (hl.at (i := 4) rfl) (kk H locs ls cells slots h1 h2 hP hS hl)
theorem x_iinc4 (G : GX p l R s m args meth c k A own cc nL ret) {a0 a1 a2 a3 : Option Value} {t : List (Option Value)} {x v : Int32} {n : Int} (d : decode cc pc = .ok (.iinc 4 n, 3)) (hv : x + Int32.ofInt n = v) (hn : 4 < nL) (hc : lp_c2 a3 = false) (kk : Wx p l e R s m args below meth c k A nL Q bc bs (pc + 3) (a0 :: a1 :: a2 :: a3 :: some (.int v) :: t) st h) : Wx p l e R s m args below meth c k A nL Q bc bs pc (a0 :: a1 :: a2 :: a3 :: some (.int x) :: t) st h := by
  intro H locs ls cells slots h1 h2 hP hS hl
  obtain ⟨kq, hkq⟩ := List.getElem?_of_mem ((lp_l_mem (a0 :: a1 :: a2 :: a3 :: some (.int x) :: t) 0 4 (.int x)).mpr ⟨4, (Nat.zero_add _).symm, rfl⟩)
  exact lv_iinc G.1 G.2.1 d hl.lv hkq hv hn rfl (fun ls9 k9 => kk H locs ls9 cells slots h1 h2 hP hS (lp_of1 (P := [a0, a1, a2, a3]) (o := some (.int x)) (ls := ls) rfl (lp_lastc rfl hc) k9))
theorem x_iload5 (G : GX p l R s m args meth c k A own cc nL ret) {a0 a1 a2 a3 a4 : Option Value} {t : List (Option Value)} {x : Int32} (d : decode cc pc = .ok (.iload 5, 2)) (kk : Wx p l e R s m args below meth c k A nL Q bc bs (pc + 2) (a0 :: a1 :: a2 :: a3 :: a4 :: some (.int x) :: t) (.int x :: st) h) : Wx p l e R s m args below meth c k A nL Q bc bs pc (a0 :: a1 :: a2 :: a3 :: a4 :: some (.int x) :: t) st h := by
  intro H locs ls cells slots h1 h2 hP hS hl
  exact lv_iload G.1 G.2.1 d (hl.at (i := 5) rfl) (kk H locs ls cells slots h1 h2 hP hS hl)
theorem x_istore5 (G : GX p l R s m args meth c k A own cc nL ret) {a0 a1 a2 a3 a4 : Option Value} {o : Option Value} {t : List (Option Value)} {x : Int32} (d : decode cc pc = .ok (.istore 5, 2)) (hn : 5 < nL) (hc : lp_c2 a4 = false)  (kk : Wx p l e R s m args below meth c k A nL Q bc bs (pc + 2) (a0 :: a1 :: a2 :: a3 :: a4 :: some (.int x) :: t) st h) : Wx p l e R s m args below meth c k A nL Q bc bs pc (a0 :: a1 :: a2 :: a3 :: a4 :: o :: t) (.int x :: st) h := by
  intro H locs ls cells slots h1 h2 hP hS hl
  exact lv_istore G.1 G.2.1 d hl.lv hn rfl (fun ls9 k9 => kk H locs ls9 cells slots h1 h2 hP hS (lp_of1 (P := [a0, a1, a2, a3, a4]) (o := o) (ls := ls) rfl (lp_lastc rfl hc) k9))
theorem x_lload5 (G : GX p l R s m args meth c k A own cc nL ret) {a0 a1 a2 a3 a4 : Option Value} {t : List (Option Value)} {x : Int64} (d : decode cc pc = .ok (.lload 5, 2)) (kk : Wx p l e R s m args below meth c k A nL Q bc bs (pc + 2) (a0 :: a1 :: a2 :: a3 :: a4 :: some (.long x) :: t) (.long x :: st) h) : Wx p l e R s m args below meth c k A nL Q bc bs pc (a0 :: a1 :: a2 :: a3 :: a4 :: some (.long x) :: t) st h := by
  intro H locs ls cells slots h1 h2 hP hS hl
  exact lv_lload G.1 G.2.1 d (hl.at (i := 5) rfl) (kk H locs ls cells slots h1 h2 hP hS hl)
theorem x_lstore5 (G : GX p l R s m args meth c k A own cc nL ret) {a0 a1 a2 a3 a4 : Option Value} {o o2 : Option Value} {t : List (Option Value)} {x : Int64} (d : decode cc pc = .ok (.lstore 5, 2)) (hn : 5 + 1 < nL) (hc : lp_c2 a4 = false)  (kk : Wx p l e R s m args below meth c k A nL Q bc bs (pc + 2) (a0 :: a1 :: a2 :: a3 :: a4 :: some (.long x) :: none :: t) st h) : Wx p l e R s m args below meth c k A nL Q bc bs pc (a0 :: a1 :: a2 :: a3 :: a4 :: o :: o2 :: t) (.long x :: st) h := by
  intro H locs ls cells slots h1 h2 hP hS hl
  exact lv_lstore G.1 G.2.1 d hl.lv hn rfl (fun ls9 k9 => kk H locs ls9 cells slots h1 h2 hP hS (lp_of2 (P := [a0, a1, a2, a3, a4]) (o := o) (o2 := o2) (ls := ls) rfl (lp_lastc rfl hc) k9))
theorem x_aload5 (G : GX p l R s m args meth c k A own cc nL ret) {a0 a1 a2 a3 a4 : Option Value} {t : List (Option Value)} {x : Nat} (d : decode cc pc = .ok (.aload 5, 2)) (kk : Wx p l e R s m args below meth c k A nL Q bc bs (pc + 2) (a0 :: a1 :: a2 :: a3 :: a4 :: some (.ref x) :: t) (.ref x :: st) h) : Wx p l e R s m args below meth c k A nL Q bc bs pc (a0 :: a1 :: a2 :: a3 :: a4 :: some (.ref x) :: t) st h := by
  intro H locs ls cells slots h1 h2 hP hS hl
  exact lv_aload G.1 G.2.1 d (hl.at (i := 5) rfl) (kk H locs ls cells slots h1 h2 hP hS hl)
theorem x_astore5 (G : GX p l R s m args meth c k A own cc nL ret) {a0 a1 a2 a3 a4 : Option Value} {o : Option Value} {t : List (Option Value)} {x : Nat} (d : decode cc pc = .ok (.astore 5, 2)) (hn : 5 < nL) (hc : lp_c2 a4 = false)  (kk : Wx p l e R s m args below meth c k A nL Q bc bs (pc + 2) (a0 :: a1 :: a2 :: a3 :: a4 :: some (.ref x) :: t) st h) : Wx p l e R s m args below meth c k A nL Q bc bs pc (a0 :: a1 :: a2 :: a3 :: a4 :: o :: t) (.ref x :: st) h := by
  intro H locs ls cells slots h1 h2 hP hS hl
  exact lv_astore G.1 G.2.1 d hl.lv hn rfl (fun ls9 k9 => kk H locs ls9 cells slots h1 h2 hP hS (lp_of1 (P := [a0, a1, a2, a3, a4]) (o := o) (ls := ls) rfl (lp_lastc rfl hc) k9))
theorem x_astoreN5 (G : GX p l R s m args meth c k A own cc nL ret) {a0 a1 a2 a3 a4 : Option Value} {o : Option Value} {t : List (Option Value)} (d : decode cc pc = .ok (.astore 5, 2)) (hn : 5 < nL) (hc : lp_c2 a4 = false)  (kk : Wx p l e R s m args below meth c k A nL Q bc bs (pc + 2) (a0 :: a1 :: a2 :: a3 :: a4 :: some (.null) :: t) st h) : Wx p l e R s m args below meth c k A nL Q bc bs pc (a0 :: a1 :: a2 :: a3 :: a4 :: o :: t) (.null :: st) h := by
  intro H locs ls cells slots h1 h2 hP hS hl
  exact lv_astoreN G.1 G.2.1 d hl.lv hn rfl (fun ls9 k9 => kk H locs ls9 cells slots h1 h2 hP hS (lp_of1 (P := [a0, a1, a2, a3, a4]) (o := o) (ls := ls) rfl (lp_lastc rfl hc) k9))
theorem x_aloadN5 (G : GX p l R s m args meth c k A own cc nL ret) {a0 a1 a2 a3 a4 : Option Value} {t : List (Option Value)} (d : decode cc pc = .ok (.aload 5, 2)) (kk : Wx p l e R s m args below meth c k A nL Q bc bs (pc + 2) (a0 :: a1 :: a2 :: a3 :: a4 :: some .null :: t) (.null :: st) h) : Wx p l e R s m args below meth c k A nL Q bc bs pc (a0 :: a1 :: a2 :: a3 :: a4 :: some .null :: t) st h := by
  intro H locs ls cells slots h1 h2 hP hS hl
  exact lv_aloadN G.1 G.2.1 d (hl.at (i := 5) rfl) (kk H locs ls cells slots h1 h2 hP hS hl)
theorem x_iinc5 (G : GX p l R s m args meth c k A own cc nL ret) {a0 a1 a2 a3 a4 : Option Value} {t : List (Option Value)} {x v : Int32} {n : Int} (d : decode cc pc = .ok (.iinc 5 n, 3)) (hv : x + Int32.ofInt n = v) (hn : 5 < nL) (hc : lp_c2 a4 = false) (kk : Wx p l e R s m args below meth c k A nL Q bc bs (pc + 3) (a0 :: a1 :: a2 :: a3 :: a4 :: some (.int v) :: t) st h) : Wx p l e R s m args below meth c k A nL Q bc bs pc (a0 :: a1 :: a2 :: a3 :: a4 :: some (.int x) :: t) st h := by
  intro H locs ls cells slots h1 h2 hP hS hl
  obtain ⟨kq, hkq⟩ := List.getElem?_of_mem ((lp_l_mem (a0 :: a1 :: a2 :: a3 :: a4 :: some (.int x) :: t) 0 5 (.int x)).mpr ⟨5, (Nat.zero_add _).symm, rfl⟩)
  exact lv_iinc G.1 G.2.1 d hl.lv hkq hv hn rfl (fun ls9 k9 => kk H locs ls9 cells slots h1 h2 hP hS (lp_of1 (P := [a0, a1, a2, a3, a4]) (o := some (.int x)) (ls := ls) rfl (lp_lastc rfl hc) k9))
theorem x_iload6 (G : GX p l R s m args meth c k A own cc nL ret) {a0 a1 a2 a3 a4 a5 : Option Value} {t : List (Option Value)} {x : Int32} (d : decode cc pc = .ok (.iload 6, 2)) (kk : Wx p l e R s m args below meth c k A nL Q bc bs (pc + 2) (a0 :: a1 :: a2 :: a3 :: a4 :: a5 :: some (.int x) :: t) (.int x :: st) h) : Wx p l e R s m args below meth c k A nL Q bc bs pc (a0 :: a1 :: a2 :: a3 :: a4 :: a5 :: some (.int x) :: t) st h := by
  intro H locs ls cells slots h1 h2 hP hS hl
  exact lv_iload G.1 G.2.1 d (hl.at (i := 6) rfl) (kk H locs ls cells slots h1 h2 hP hS hl)
theorem x_istore6 (G : GX p l R s m args meth c k A own cc nL ret) {a0 a1 a2 a3 a4 a5 : Option Value} {o : Option Value} {t : List (Option Value)} {x : Int32} (d : decode cc pc = .ok (.istore 6, 2)) (hn : 6 < nL) (hc : lp_c2 a5 = false)  (kk : Wx p l e R s m args below meth c k A nL Q bc bs (pc + 2) (a0 :: a1 :: a2 :: a3 :: a4 :: a5 :: some (.int x) :: t) st h) : Wx p l e R s m args below meth c k A nL Q bc bs pc (a0 :: a1 :: a2 :: a3 :: a4 :: a5 :: o :: t) (.int x :: st) h := by
  intro H locs ls cells slots h1 h2 hP hS hl
  exact lv_istore G.1 G.2.1 d hl.lv hn rfl (fun ls9 k9 => kk H locs ls9 cells slots h1 h2 hP hS (lp_of1 (P := [a0, a1, a2, a3, a4, a5]) (o := o) (ls := ls) rfl (lp_lastc rfl hc) k9))
theorem x_lload6 (G : GX p l R s m args meth c k A own cc nL ret) {a0 a1 a2 a3 a4 a5 : Option Value} {t : List (Option Value)} {x : Int64} (d : decode cc pc = .ok (.lload 6, 2)) (kk : Wx p l e R s m args below meth c k A nL Q bc bs (pc + 2) (a0 :: a1 :: a2 :: a3 :: a4 :: a5 :: some (.long x) :: t) (.long x :: st) h) : Wx p l e R s m args below meth c k A nL Q bc bs pc (a0 :: a1 :: a2 :: a3 :: a4 :: a5 :: some (.long x) :: t) st h := by
  intro H locs ls cells slots h1 h2 hP hS hl
  exact lv_lload G.1 G.2.1 d (hl.at (i := 6) rfl) (kk H locs ls cells slots h1 h2 hP hS hl)
theorem x_lstore6 (G : GX p l R s m args meth c k A own cc nL ret) {a0 a1 a2 a3 a4 a5 : Option Value} {o o2 : Option Value} {t : List (Option Value)} {x : Int64} (d : decode cc pc = .ok (.lstore 6, 2)) (hn : 6 + 1 < nL) (hc : lp_c2 a5 = false)  (kk : Wx p l e R s m args below meth c k A nL Q bc bs (pc + 2) (a0 :: a1 :: a2 :: a3 :: a4 :: a5 :: some (.long x) :: none :: t) st h) : Wx p l e R s m args below meth c k A nL Q bc bs pc (a0 :: a1 :: a2 :: a3 :: a4 :: a5 :: o :: o2 :: t) (.long x :: st) h := by
  intro H locs ls cells slots h1 h2 hP hS hl
  exact lv_lstore G.1 G.2.1 d hl.lv hn rfl (fun ls9 k9 => kk H locs ls9 cells slots h1 h2 hP hS (lp_of2 (P := [a0, a1, a2, a3, a4, a5]) (o := o) (o2 := o2) (ls := ls) rfl (lp_lastc rfl hc) k9))
theorem x_aload6 (G : GX p l R s m args meth c k A own cc nL ret) {a0 a1 a2 a3 a4 a5 : Option Value} {t : List (Option Value)} {x : Nat} (d : decode cc pc = .ok (.aload 6, 2)) (kk : Wx p l e R s m args below meth c k A nL Q bc bs (pc + 2) (a0 :: a1 :: a2 :: a3 :: a4 :: a5 :: some (.ref x) :: t) (.ref x :: st) h) : Wx p l e R s m args below meth c k A nL Q bc bs pc (a0 :: a1 :: a2 :: a3 :: a4 :: a5 :: some (.ref x) :: t) st h := by
  intro H locs ls cells slots h1 h2 hP hS hl
  exact lv_aload G.1 G.2.1 d (hl.at (i := 6) rfl) (kk H locs ls cells slots h1 h2 hP hS hl)
theorem x_astore6 (G : GX p l R s m args meth c k A own cc nL ret) {a0 a1 a2 a3 a4 a5 : Option Value} {o : Option Value} {t : List (Option Value)} {x : Nat} (d : decode cc pc = .ok (.astore 6, 2)) (hn : 6 < nL) (hc : lp_c2 a5 = false)  (kk : Wx p l e R s m args below meth c k A nL Q bc bs (pc + 2) (a0 :: a1 :: a2 :: a3 :: a4 :: a5 :: some (.ref x) :: t) st h) : Wx p l e R s m args below meth c k A nL Q bc bs pc (a0 :: a1 :: a2 :: a3 :: a4 :: a5 :: o :: t) (.ref x :: st) h := by
  intro H locs ls cells slots h1 h2 hP hS hl
  exact lv_astore G.1 G.2.1 d hl.lv hn rfl (fun ls9 k9 => kk H locs ls9 cells slots h1 h2 hP hS (lp_of1 (P := [a0, a1, a2, a3, a4, a5]) (o := o) (ls := ls) rfl (lp_lastc rfl hc) k9))
theorem x_astoreN6 (G : GX p l R s m args meth c k A own cc nL ret) {a0 a1 a2 a3 a4 a5 : Option Value} {o : Option Value} {t : List (Option Value)} (d : decode cc pc = .ok (.astore 6, 2)) (hn : 6 < nL) (hc : lp_c2 a5 = false)  (kk : Wx p l e R s m args below meth c k A nL Q bc bs (pc + 2) (a0 :: a1 :: a2 :: a3 :: a4 :: a5 :: some (.null) :: t) st h) : Wx p l e R s m args below meth c k A nL Q bc bs pc (a0 :: a1 :: a2 :: a3 :: a4 :: a5 :: o :: t) (.null :: st) h := by
  intro H locs ls cells slots h1 h2 hP hS hl
  exact lv_astoreN G.1 G.2.1 d hl.lv hn rfl (fun ls9 k9 => kk H locs ls9 cells slots h1 h2 hP hS (lp_of1 (P := [a0, a1, a2, a3, a4, a5]) (o := o) (ls := ls) rfl (lp_lastc rfl hc) k9))
theorem x_aloadN6 (G : GX p l R s m args meth c k A own cc nL ret) {a0 a1 a2 a3 a4 a5 : Option Value} {t : List (Option Value)} (d : decode cc pc = .ok (.aload 6, 2)) (kk : Wx p l e R s m args below meth c k A nL Q bc bs (pc + 2) (a0 :: a1 :: a2 :: a3 :: a4 :: a5 :: some .null :: t) (.null :: st) h) : Wx p l e R s m args below meth c k A nL Q bc bs pc (a0 :: a1 :: a2 :: a3 :: a4 :: a5 :: some .null :: t) st h := by
  intro H locs ls cells slots h1 h2 hP hS hl
  exact lv_aloadN G.1 G.2.1 d (hl.at (i := 6) rfl) (kk H locs ls cells slots h1 h2 hP hS hl)
theorem x_iinc6 (G : GX p l R s m args meth c k A own cc nL ret) {a0 a1 a2 a3 a4 a5 : Option Value} {t : List (Option Value)} {x v : Int32} {n : Int} (d : decode cc pc = .ok (.iinc 6 n, 3)) (hv : x + Int32.ofInt n = v) (hn : 6 < nL) (hc : lp_c2 a5 = false) (kk : Wx p l e R s m args below meth c k A nL Q bc bs (pc + 3) (a0 :: a1 :: a2 :: a3 :: a4 :: a5 :: some (.int v) :: t) st h) : Wx p l e R s m args below meth c k A nL Q bc bs pc (a0 :: a1 :: a2 :: a3 :: a4 :: a5 :: some (.int x) :: t) st h := by
  intro H locs ls cells slots h1 h2 hP hS hl
  obtain ⟨kq, hkq⟩ := List.getElem?_of_mem ((lp_l_mem (a0 :: a1 :: a2 :: a3 :: a4 :: a5 :: some (.int x) :: t) 0 6 (.int x)).mpr ⟨6, (Nat.zero_add _).symm, rfl⟩)
  exact lv_iinc G.1 G.2.1 d hl.lv hkq hv hn rfl (fun ls9 k9 => kk H locs ls9 cells slots h1 h2 hP hS (lp_of1 (P := [a0, a1, a2, a3, a4, a5]) (o := some (.int x)) (ls := ls) rfl (lp_lastc rfl hc) k9))
theorem x_iload7 (G : GX p l R s m args meth c k A own cc nL ret) {a0 a1 a2 a3 a4 a5 a6 : Option Value} {t : List (Option Value)} {x : Int32} (d : decode cc pc = .ok (.iload 7, 2)) (kk : Wx p l e R s m args below meth c k A nL Q bc bs (pc + 2) (a0 :: a1 :: a2 :: a3 :: a4 :: a5 :: a6 :: some (.int x) :: t) (.int x :: st) h) : Wx p l e R s m args below meth c k A nL Q bc bs pc (a0 :: a1 :: a2 :: a3 :: a4 :: a5 :: a6 :: some (.int x) :: t) st h := by
  intro H locs ls cells slots h1 h2 hP hS hl
  exact lv_iload G.1 G.2.1 d (hl.at (i := 7) rfl) (kk H locs ls cells slots h1 h2 hP hS hl)
theorem x_istore7 (G : GX p l R s m args meth c k A own cc nL ret) {a0 a1 a2 a3 a4 a5 a6 : Option Value} {o : Option Value} {t : List (Option Value)} {x : Int32} (d : decode cc pc = .ok (.istore 7, 2)) (hn : 7 < nL) (hc : lp_c2 a6 = false)  (kk : Wx p l e R s m args below meth c k A nL Q bc bs (pc + 2) (a0 :: a1 :: a2 :: a3 :: a4 :: a5 :: a6 :: some (.int x) :: t) st h) : Wx p l e R s m args below meth c k A nL Q bc bs pc (a0 :: a1 :: a2 :: a3 :: a4 :: a5 :: a6 :: o :: t) (.int x :: st) h := by
  intro H locs ls cells slots h1 h2 hP hS hl
  exact lv_istore G.1 G.2.1 d hl.lv hn rfl (fun ls9 k9 => kk H locs ls9 cells slots h1 h2 hP hS (lp_of1 (P := [a0, a1, a2, a3, a4, a5, a6]) (o := o) (ls := ls) rfl (lp_lastc rfl hc) k9))
theorem x_lload7 (G : GX p l R s m args meth c k A own cc nL ret) {a0 a1 a2 a3 a4 a5 a6 : Option Value} {t : List (Option Value)} {x : Int64} (d : decode cc pc = .ok (.lload 7, 2)) (kk : Wx p l e R s m args below meth c k A nL Q bc bs (pc + 2) (a0 :: a1 :: a2 :: a3 :: a4 :: a5 :: a6 :: some (.long x) :: t) (.long x :: st) h) : Wx p l e R s m args below meth c k A nL Q bc bs pc (a0 :: a1 :: a2 :: a3 :: a4 :: a5 :: a6 :: some (.long x) :: t) st h := by
  intro H locs ls cells slots h1 h2 hP hS hl
  exact lv_lload G.1 G.2.1 d (hl.at (i := 7) rfl) (kk H locs ls cells slots h1 h2 hP hS hl)
theorem x_lstore7 (G : GX p l R s m args meth c k A own cc nL ret) {a0 a1 a2 a3 a4 a5 a6 : Option Value} {o o2 : Option Value} {t : List (Option Value)} {x : Int64} (d : decode cc pc = .ok (.lstore 7, 2)) (hn : 7 + 1 < nL) (hc : lp_c2 a6 = false)  (kk : Wx p l e R s m args below meth c k A nL Q bc bs (pc + 2) (a0 :: a1 :: a2 :: a3 :: a4 :: a5 :: a6 :: some (.long x) :: none :: t) st h) : Wx p l e R s m args below meth c k A nL Q bc bs pc (a0 :: a1 :: a2 :: a3 :: a4 :: a5 :: a6 :: o :: o2 :: t) (.long x :: st) h := by
  intro H locs ls cells slots h1 h2 hP hS hl
  exact lv_lstore G.1 G.2.1 d hl.lv hn rfl (fun ls9 k9 => kk H locs ls9 cells slots h1 h2 hP hS (lp_of2 (P := [a0, a1, a2, a3, a4, a5, a6]) (o := o) (o2 := o2) (ls := ls) rfl (lp_lastc rfl hc) k9))
theorem x_aload7 (G : GX p l R s m args meth c k A own cc nL ret) {a0 a1 a2 a3 a4 a5 a6 : Option Value} {t : List (Option Value)} {x : Nat} (d : decode cc pc = .ok (.aload 7, 2)) (kk : Wx p l e R s m args below meth c k A nL Q bc bs (pc + 2) (a0 :: a1 :: a2 :: a3 :: a4 :: a5 :: a6 :: some (.ref x) :: t) (.ref x :: st) h) : Wx p l e R s m args below meth c k A nL Q bc bs pc (a0 :: a1 :: a2 :: a3 :: a4 :: a5 :: a6 :: some (.ref x) :: t) st h := by
  intro H locs ls cells slots h1 h2 hP hS hl
  exact lv_aload G.1 G.2.1 d (hl.at (i := 7) rfl) (kk H locs ls cells slots h1 h2 hP hS hl)
theorem x_astore7 (G : GX p l R s m args meth c k A own cc nL ret) {a0 a1 a2 a3 a4 a5 a6 : Option Value} {o : Option Value} {t : List (Option Value)} {x : Nat} (d : decode cc pc = .ok (.astore 7, 2)) (hn : 7 < nL) (hc : lp_c2 a6 = false)  (kk : Wx p l e R s m args below meth c k A nL Q bc bs (pc + 2) (a0 :: a1 :: a2 :: a3 :: a4 :: a5 :: a6 :: some (.ref x) :: t) st h) : Wx p l e R s m args below meth c k A nL Q bc bs pc (a0 :: a1 :: a2 :: a3 :: a4 :: a5 :: a6 :: o :: t) (.ref x :: st) h := by
  intro H locs ls cells slots h1 h2 hP hS hl
  exact lv_astore G.1 G.2.1 d hl.lv hn rfl (fun ls9 k9 => kk H locs ls9 cells slots h1 h2 hP hS (lp_of1 (P := [a0, a1, a2, a3, a4, a5, a6]) (o := o) (ls := ls) rfl (lp_lastc rfl hc) k9))
theorem x_astoreN7 (G : GX p l R s m args meth c k A own cc nL ret) {a0 a1 a2 a3 a4 a5 a6 : Option Value} {o : Option Value} {t : List (Option Value)} (d : decode cc pc = .ok (.astore 7, 2)) (hn : 7 < nL) (hc : lp_c2 a6 = false)  (kk : Wx p l e R s m args below meth c k A nL Q bc bs (pc + 2) (a0 :: a1 :: a2 :: a3 :: a4 :: a5 :: a6 :: some (.null) :: t) st h) : Wx p l e R s m args below meth c k A nL Q bc bs pc (a0 :: a1 :: a2 :: a3 :: a4 :: a5 :: a6 :: o :: t) (.null :: st) h := by
  intro H locs ls cells slots h1 h2 hP hS hl
  exact lv_astoreN G.1 G.2.1 d hl.lv hn rfl (fun ls9 k9 => kk H locs ls9 cells slots h1 h2 hP hS (lp_of1 (P := [a0, a1, a2, a3, a4, a5, a6]) (o := o) (ls := ls) rfl (lp_lastc rfl hc) k9))
theorem x_aloadN7 (G : GX p l R s m args meth c k A own cc nL ret) {a0 a1 a2 a3 a4 a5 a6 : Option Value} {t : List (Option Value)} (d : decode cc pc = .ok (.aload 7, 2)) (kk : Wx p l e R s m args below meth c k A nL Q bc bs (pc + 2) (a0 :: a1 :: a2 :: a3 :: a4 :: a5 :: a6 :: some .null :: t) (.null :: st) h) : Wx p l e R s m args below meth c k A nL Q bc bs pc (a0 :: a1 :: a2 :: a3 :: a4 :: a5 :: a6 :: some .null :: t) st h := by
  intro H locs ls cells slots h1 h2 hP hS hl
  exact lv_aloadN G.1 G.2.1 d (hl.at (i := 7) rfl) (kk H locs ls cells slots h1 h2 hP hS hl)
theorem x_iinc7 (G : GX p l R s m args meth c k A own cc nL ret) {a0 a1 a2 a3 a4 a5 a6 : Option Value} {t : List (Option Value)} {x v : Int32} {n : Int} (d : decode cc pc = .ok (.iinc 7 n, 3)) (hv : x + Int32.ofInt n = v) (hn : 7 < nL) (hc : lp_c2 a6 = false) (kk : Wx p l e R s m args below meth c k A nL Q bc bs (pc + 3) (a0 :: a1 :: a2 :: a3 :: a4 :: a5 :: a6 :: some (.int v) :: t) st h) : Wx p l e R s m args below meth c k A nL Q bc bs pc (a0 :: a1 :: a2 :: a3 :: a4 :: a5 :: a6 :: some (.int x) :: t) st h := by
  intro H locs ls cells slots h1 h2 hP hS hl
  obtain ⟨kq, hkq⟩ := List.getElem?_of_mem ((lp_l_mem (a0 :: a1 :: a2 :: a3 :: a4 :: a5 :: a6 :: some (.int x) :: t) 0 7 (.int x)).mpr ⟨7, (Nat.zero_add _).symm, rfl⟩)
  exact lv_iinc G.1 G.2.1 d hl.lv hkq hv hn rfl (fun ls9 k9 => kk H locs ls9 cells slots h1 h2 hP hS (lp_of1 (P := [a0, a1, a2, a3, a4, a5, a6]) (o := some (.int x)) (ls := ls) rfl (lp_lastc rfl hc) k9))
theorem x_iload8 (G : GX p l R s m args meth c k A own cc nL ret) {a0 a1 a2 a3 a4 a5 a6 a7 : Option Value} {t : List (Option Value)} {x : Int32} (d : decode cc pc = .ok (.iload 8, 2)) (kk : Wx p l e R s m args below meth c k A nL Q bc bs (pc + 2) (a0 :: a1 :: a2 :: a3 :: a4 :: a5 :: a6 :: a7 :: some (.int x) :: t) (.int x :: st) h) : Wx p l e R s m args below meth c k A nL Q bc bs pc (a0 :: a1 :: a2 :: a3 :: a4 :: a5 :: a6 :: a7 :: some (.int x) :: t) st h := by
  intro H locs ls cells slots h1 h2 hP hS hl
  exact lv_iload G.1 G.2.1 d (hl.at (i := 8) rfl) (kk H locs ls cells slots h1 h2 hP hS hl)
theorem x_istore8 (G : GX p l R s m args meth c k A own cc nL ret) {a0 a1 a2 a3 a4 a5 a6 a7 : Option Value} {o : Option Value} {t : List (Option Value)} {x : Int32} (d : decode cc pc = .ok (.istore 8, 2)) (hn : 8 < nL) (hc : lp_c2 a7 = false)  (kk : Wx p l e R s m args below meth c k A nL Q bc bs (pc + 2) (a0 :: a1 :: a2 :: a3 :: a4 :: a5 :: a6 :: a7 :: some (.int x) :: t) st h) : Wx p l e R s m args below meth c k A nL Q bc bs pc (a0 :: a1 :: a2 :: a3 :: a4 :: a5 :: a6 :: a7 :: o :: t) (.int x :: st) h := by
  intro H locs ls cells slots h1 h2 hP hS hl
  exact lv_istore G.1 G.2.1 d hl.lv hn rfl (fun ls9 k9 => kk H locs ls9 cells slots h1 h2 hP hS (lp_of1 (P := [a0, a1, a2, a3, a4, a5, a6, a7]) (o := o) (ls := ls) rfl (lp_lastc rfl hc) k9))
theorem x_lload8 (G : GX p l R s m args meth c k A own cc nL ret) {a0 a1 a2 a3 a4 a5 a6 a7 : Option Value} {t : List (Option Value)} {x : Int64} (d : decode cc pc = .ok (.lload 8, 2)) (kk : Wx p l e R s m args below meth c k A nL Q bc bs (pc + 2) (a0 :: a1 :: a2 :: a3 :: a4 :: a5 :: a6 :: a7 :: some (.long x) :: t) (.long x :: st) h) : Wx p l e R s m args below meth c k A nL Q bc bs pc (a0 :: a1 :: a2 :: a3 :: a4 :: a5 :: a6 :: a7 :: some (.long x) :: t) st h := by
  intro H locs ls cells slots h1 h2 hP hS hl
  exact lv_lload G.1 G.2.1 d (hl.at (i := 8) rfl) (kk H locs ls cells slots h1 h2 hP hS hl)
theorem x_lstore8 (G : GX p l R s m args meth c k A own cc nL ret) {a0 a1 a2 a3 a4 a5 a6 a7 : Option Value} {o o2 : Option Value} {t : List (Option Value)} {x : Int64} (d : decode cc pc = .ok (.lstore 8, 2)) (hn : 8 + 1 < nL) (hc : lp_c2 a7 = false)  (kk : Wx p l e R s m args below meth c k A nL Q bc bs (pc + 2) (a0 :: a1 :: a2 :: a3 :: a4 :: a5 :: a6 :: a7 :: some (.long x) :: none :: t) st h) : Wx p l e R s m args below meth c k A nL Q bc bs pc (a0 :: a1 :: a2 :: a3 :: a4 :: a5 :: a6 :: a7 :: o :: o2 :: t) (.long x :: st) h := by
  intro H locs ls cells slots h1 h2 hP hS hl
  exact lv_lstore G.1 G.2.1 d hl.lv hn rfl (fun ls9 k9 => kk H locs ls9 cells slots h1 h2 hP hS (lp_of2 (P := [a0, a1, a2, a3, a4, a5, a6, a7]) (o := o) (o2 := o2) (ls := ls) rfl (lp_lastc rfl hc) k9))
theorem x_aload8 (G : GX p l R s m args meth c k A own cc nL ret) {a0 a1 a2 a3 a4 a5 a6 a7 : Option Value} {t : List (Option Value)} {x : Nat} (d : decode cc pc = .ok (.aload 8, 2)) (kk : Wx p l e R s m args below meth c k A nL Q bc bs (pc + 2) (a0 :: a1 :: a2 :: a3 :: a4 :: a5 :: a6 :: a7 :: some (.ref x) :: t) (.ref x :: st) h) : Wx p l e R s m args below meth c k A nL Q bc bs pc (a0 :: a1 :: a2 :: a3 :: a4 :: a5 :: a6 :: a7 :: some (.ref x) :: t) st h := by
  intro H locs ls cells slots h1 h2 hP hS hl
  exact lv_aload G.1 G.2.1 d (hl.at (i := 8) rfl) (kk H locs ls cells slots h1 h2 hP hS hl)
theorem x_astore8 (G : GX p l R s m args meth c k A own cc nL ret) {a0 a1 a2 a3 a4 a5 a6 a7 : Option Value} {o : Option Value} {t : List (Option Value)} {x : Nat} (d : decode cc pc = .ok (.astore 8, 2)) (hn : 8 < nL) (hc : lp_c2 a7 = false)  (kk : Wx p l e R s m args below meth c k A nL Q bc bs (pc + 2) (a0 :: a1 :: a2 :: a3 :: a4 :: a5 :: a6 :: a7 :: some (.ref x) :: t) st h) : Wx p l e R s m args below meth c k A nL Q bc bs pc (a0 :: a1 :: a2 :: a3 :: a4 :: a5 :: a6 :: a7 :: o :: t) (.ref x :: st) h := by
  intro H locs ls cells slots h1 h2 hP hS hl
  exact lv_astore G.1 G.2.1 d hl.lv hn rfl (fun ls9 k9 => kk H locs ls9 cells slots h1 h2 hP hS (lp_of1 (P := [a0, a1, a2, a3, a4, a5, a6, a7]) (o := o) (ls := ls) rfl (lp_lastc rfl hc) k9))
theorem x_astoreN8 (G : GX p l R s m args meth c k A own cc nL ret) {a0 a1 a2 a3 a4 a5 a6 a7 : Option Value} {o : Option Value} {t : List (Option Value)} (d : decode cc pc = .ok (.astore 8, 2)) (hn : 8 < nL) (hc : lp_c2 a7 = false)  (kk : Wx p l e R s m args below meth c k A nL Q bc bs (pc + 2) (a0 :: a1 :: a2 :: a3 :: a4 :: a5 :: a6 :: a7 :: some (.null) :: t) st h) : Wx p l e R s m args below meth c k A nL Q bc bs pc (a0 :: a1 :: a2 :: a3 :: a4 :: a5 :: a6 :: a7 :: o :: t) (.null :: st) h := by
  intro H locs ls cells slots h1 h2 hP hS hl
  exact lv_astoreN G.1 G.2.1 d hl.lv hn rfl (fun ls9 k9 => kk H locs ls9 cells slots h1 h2 hP hS (lp_of1 (P := [a0, a1, a2, a3, a4, a5, a6, a7]) (o := o) (ls := ls) rfl (lp_lastc rfl hc) k9))
theorem x_aloadN8 (G : GX p l R s m args meth c k A own cc nL ret) {a0 a1 a2 a3 a4 a5 a6 a7 : Option Value} {t : List (Option Value)} (d : decode cc pc = .ok (.aload 8, 2)) (kk : Wx p l e R s m args below meth c k A nL Q bc bs (pc + 2) (a0 :: a1 :: a2 :: a3 :: a4 :: a5 :: a6 :: a7 :: some .null :: t) (.null :: st) h) : Wx p l e R s m args below meth c k A nL Q bc bs pc (a0 :: a1 :: a2 :: a3 :: a4 :: a5 :: a6 :: a7 :: some .null :: t) st h := by
  intro H locs ls cells slots h1 h2 hP hS hl
  exact lv_aloadN G.1 G.2.1 d (hl.at (i := 8) rfl) (kk H locs ls cells slots h1 h2 hP hS hl)
theorem x_iinc8 (G : GX p l R s m args meth c k A own cc nL ret) {a0 a1 a2 a3 a4 a5 a6 a7 : Option Value} {t : List (Option Value)} {x v : Int32} {n : Int} (d : decode cc pc = .ok (.iinc 8 n, 3)) (hv : x + Int32.ofInt n = v) (hn : 8 < nL) (hc : lp_c2 a7 = false) (kk : Wx p l e R s m args below meth c k A nL Q bc bs (pc + 3) (a0 :: a1 :: a2 :: a3 :: a4 :: a5 :: a6 :: a7 :: some (.int v) :: t) st h) : Wx p l e R s m args below meth c k A nL Q bc bs pc (a0 :: a1 :: a2 :: a3 :: a4 :: a5 :: a6 :: a7 :: some (.int x) :: t) st h := by
  intro H locs ls cells slots h1 h2 hP hS hl
  obtain ⟨kq, hkq⟩ := List.getElem?_of_mem ((lp_l_mem (a0 :: a1 :: a2 :: a3 :: a4 :: a5 :: a6 :: a7 :: some (.int x) :: t) 0 8 (.int x)).mpr ⟨8, (Nat.zero_add _).symm, rfl⟩)
  exact lv_iinc G.1 G.2.1 d hl.lv hkq hv hn rfl (fun ls9 k9 => kk H locs ls9 cells slots h1 h2 hP hS (lp_of1 (P := [a0, a1, a2, a3, a4, a5, a6, a7]) (o := some (.int x)) (ls := ls) rfl (lp_lastc rfl hc) k9))
theorem x_iload9 (G : GX p l R s m args meth c k A own cc nL ret) {a0 a1 a2 a3 a4 a5 a6 a7 a8 : Option Value} {t : List (Option Value)} {x : Int32} (d : decode cc pc = .ok (.iload 9, 2)) (kk : Wx p l e R s m args below meth c k A nL Q bc bs (pc + 2) (a0 :: a1 :: a2 :: a3 :: a4 :: a5 :: a6 :: a7 :: a8 :: some (.int x) :: t) (.int x :: st) h) : Wx p l e R s m args below meth c k A nL Q bc bs pc (a0 :: a1 :: a2 :: a3 :: a4 :: a5 :: a6 :: a7 :: a8 :: some (.int x) :: t) st h := by
  intro H locs ls cells slots h1 h2 hP hS hl
  exact lv_iload G.1 G.2.1 d (hl.at (i := 9) rfl) (kk H locs ls cells slots h1 h2 hP hS hl)
theorem x_istore9 (G : GX p l R s m args meth c k A own cc nL ret) {a0 a1 a2 a3 a4 a5 a6 a7 a8 : Option Value} {o : Option Value} {t : List (Option Value)} {x : Int32} (d : decode cc pc = .ok (.istore 9, 2)) (hn : 9 < nL) (hc : lp_c2 a8 = false)  (kk : Wx p l e R s m args below meth c k A nL Q bc bs (pc + 2) (a0 :: a1 :: a2 :: a3 :: a4 :: a5 :: a6 :: a7 :: a8 :: some (.int x) :: t) st h) : Wx p l e R s m args below meth c k A nL Q bc bs pc (a0 :: a1 :: a2 :: a3 :: a4 :: a5 :: a6 :: a7 :: a8 :: o :: t) (.int x :: st) h := by
  intro H locs ls cells slots h1 h2 hP hS hl
  exact lv_istore G.1 G.2.1 d hl.lv hn rfl (fun ls9 k9 => kk H locs ls9 cells slots h1 h2 hP hS (lp_of1 (P := [a0, a1, a2, a3, a4, a5, a6, a7, a8]) (o := o) (ls := ls) rfl (lp_lastc rfl hc) k9))
theorem x_lload9 (G : GX p l R s m args meth c k A own cc nL ret) {a0 a1 a2 a3 a4 a5 a6 a7 a8 : Option Value} {t : List (Option Value)} {x : Int64} (d : decode cc pc = .ok (.lload 9, 2)) (kk : Wx p l e R s m args below meth c k A nL Q bc bs (pc + 2) (a0 :: a1 :: a2 :: a3 :: a4 :: a5 :: a6 :: a7 :: a8 :: some (.long x) :: t) (.long x :: st) h) : Wx p l e R s m args below meth c k A nL Q bc bs pc (a0 :: a1 :: a2 :: a3 :: a4 :: a5 :: a6 :: a7 :: a8 :: some (.long x) :: t) st h := by
  intro H locs ls cells slots h1 h2 hP hS hl
  exact lv_lload G.1 G.2.1 d (hl.at (i := 9) rfl) (kk H locs ls cells slots h1 h2 hP hS hl)
theorem x_lstore9 (G : GX p l R s m args meth c k A own cc nL ret) {a0 a1 a2 a3 a4 a5 a6 a7 a8 : Option Value} {o o2 : Option Value} {t : List (Option Value)} {x : Int64} (d : decode cc pc = .ok (.lstore 9, 2)) (hn : 9 + 1 < nL) (hc : lp_c2 a8 = false)  (kk : Wx p l e R s m args below meth c k A nL Q bc bs (pc + 2) (a0 :: a1 :: a2 :: a3 :: a4 :: a5 :: a6 :: a7 :: a8 :: some (.long x) :: none :: t) st h) : Wx p l e R s m args below meth c k A nL Q bc bs pc (a0 :: a1 :: a2 :: a3 :: a4 :: a5 :: a6 :: a7 :: a8 :: o :: o2 :: t) (.long x :: st) h := by
  intro H locs ls cells slots h1 h2 hP hS hl
  exact lv_lstore G.1 G.2.1 d hl.lv hn rfl (fun ls9 k9 => kk H locs ls9 cells slots h1 h2 hP hS (lp_of2 (P := [a0, a1, a2, a3, a4, a5, a6, a7, a8]) (o := o) (o2 := o2) (ls := ls) rfl (lp_lastc rfl hc) k9))
theorem x_aload9 (G : GX p l R s m args meth c k A own cc nL ret) {a0 a1 a2 a3 a4 a5 a6 a7 a8 : Option Value} {t : List (Option Value)} {x : Nat} (d : decode cc pc = .ok (.aload 9, 2)) (kk : Wx p l e R s m args below meth c k A nL Q bc bs (pc + 2) (a0 :: a1 :: a2 :: a3 :: a4 :: a5 :: a6 :: a7 :: a8 :: some (.ref x) :: t) (.ref x :: st) h) : Wx p l e R s m args below meth c k A nL Q bc bs pc (a0 :: a1 :: a2 :: a3 :: a4 :: a5 :: a6 :: a7 :: a8 :: some (.ref x) :: t) st h := by
  intro H locs ls cells slots h1 h2 hP hS hl
  exact lv_aload G.1 G.2.1 d (hl.at (i := 9) rfl) (kk H locs ls cells slots h1 h2 hP hS hl)
theorem x_astore9 (G : GX p l R s m args meth c k A own cc nL ret) {a0 a1 a2 a3 a4 a5 a6 a7 a8 : Option Value} {o : Option Value} {t : List (Option Value)} {x : Nat} (d : decode cc pc = .ok (.astore 9, 2)) (hn : 9 < nL) (hc : lp_c2 a8 = false)  (kk : Wx p l e R s m args below meth c k A nL Q bc bs (pc + 2) (a0 :: a1 :: a2 :: a3 :: a4 :: a5 :: a6 :: a7 :: a8 :: some (.ref x) :: t) st h) : Wx p l e R s m args below meth c k A nL Q bc bs pc (a0 :: a1 :: a2 :: a3 :: a4 :: a5 :: a6 :: a7 :: a8 :: o :: t) (.ref x :: st) h := by
  intro H locs ls cells slots h1 h2 hP hS hl
  exact lv_astore G.1 G.2.1 d hl.lv hn rfl (fun ls9 k9 => kk H locs ls9 cells slots h1 h2 hP hS (lp_of1 (P := [a0, a1, a2, a3, a4, a5, a6, a7, a8]) (o := o) (ls := ls) rfl (lp_lastc rfl hc) k9))
theorem x_astoreN9 (G : GX p l R s m args meth c k A own cc nL ret) {a0 a1 a2 a3 a4 a5 a6 a7 a8 : Option Value} {o : Option Value} {t : List (Option Value)} (d : decode cc pc = .ok (.astore 9, 2)) (hn : 9 < nL) (hc : lp_c2 a8 = false)  (kk : Wx p l e R s m args below meth c k A nL Q bc bs (pc + 2) (a0 :: a1 :: a2 :: a3 :: a4 :: a5 :: a6 :: a7 :: a8 :: some (.null) :: t) st h) : Wx p l e R s m args below meth c k A nL Q bc bs pc (a0 :: a1 :: a2 :: a3 :: a4 :: a5 :: a6 :: a7 :: a8 :: o :: t) (.null :: st) h := by
  intro H locs ls cells slots h1 h2 hP hS hl
  exact lv_astoreN G.1 G.2.1 d hl.lv hn rfl (fun ls9 k9 => kk H locs ls9 cells slots h1 h2 hP hS (lp_of1 (P := [a0, a1, a2, a3, a4, a5, a6, a7, a8]) (o := o) (ls := ls) rfl (lp_lastc rfl hc) k9))
theorem x_aloadN9 (G : GX p l R s m args meth c k A own cc nL ret) {a0 a1 a2 a3 a4 a5 a6 a7 a8 : Option Value} {t : List (Option Value)} (d : decode cc pc = .ok (.aload 9, 2)) (kk : Wx p l e R s m args below meth c k A nL Q bc bs (pc + 2) (a0 :: a1 :: a2 :: a3 :: a4 :: a5 :: a6 :: a7 :: a8 :: some .null :: t) (.null :: st) h) : Wx p l e R s m args below meth c k A nL Q bc bs pc (a0 :: a1 :: a2 :: a3 :: a4 :: a5 :: a6 :: a7 :: a8 :: some .null :: t) st h := by
  intro H locs ls cells slots h1 h2 hP hS hl
  exact lv_aloadN G.1 G.2.1 d (hl.at (i := 9) rfl) (kk H locs ls cells slots h1 h2 hP hS hl)
theorem x_iinc9 (G : GX p l R s m args meth c k A own cc nL ret) {a0 a1 a2 a3 a4 a5 a6 a7 a8 : Option Value} {t : List (Option Value)} {x v : Int32} {n : Int} (d : decode cc pc = .ok (.iinc 9 n, 3)) (hv : x + Int32.ofInt n = v) (hn : 9 < nL) (hc : lp_c2 a8 = false) (kk : Wx p l e R s m args below meth c k A nL Q bc bs (pc + 3) (a0 :: a1 :: a2 :: a3 :: a4 :: a5 :: a6 :: a7 :: a8 :: some (.int v) :: t) st h) : Wx p l e R s m args below meth c k A nL Q bc bs pc (a0 :: a1 :: a2 :: a3 :: a4 :: a5 :: a6 :: a7 :: a8 :: some (.int x) :: t) st h := by
  intro H locs ls cells slots h1 h2 hP hS hl
  obtain ⟨kq, hkq⟩ := List.getElem?_of_mem ((lp_l_mem (a0 :: a1 :: a2 :: a3 :: a4 :: a5 :: a6 :: a7 :: a8 :: some (.int x) :: t) 0 9 (.int x)).mpr ⟨9, (Nat.zero_add _).symm, rfl⟩)
  exact lv_iinc G.1 G.2.1 d hl.lv hkq hv hn rfl (fun ls9 k9 => kk H locs ls9 cells slots h1 h2 hP hS (lp_of1 (P := [a0, a1, a2, a3, a4, a5, a6, a7, a8]) (o := some (.int x)) (ls := ls) rfl (lp_lastc rfl hc) k9))
theorem x_iload10 (G : GX p l R s m args meth c k A own cc nL ret) {a0 a1 a2 a3 a4 a5 a6 a7 a8 a9 : Option Value} {t : List (Option Value)} {x : Int32} (d : decode cc pc = .ok (.iload 10, 2)) (kk : Wx p l e R s m args below meth c k A nL Q bc bs (pc + 2) (a0 :: a1 :: a2 :: a3 :: a4 :: a5 :: a6 :: a7 :: a8 :: a9 :: some (.int x) :: t) (.int x :: st) h) : Wx p l e R s m args below meth c k A nL Q bc bs pc (a0 :: a1 :: a2 :: a3 :: a4 :: a5 :: a6 :: a7 :: a8 :: a9 :: some (.int x) :: t) st h := by
  intro H locs ls cells slots h1 h2 hP hS hl
  exact lv_iload G.1 G.2.1 d (hl.at (i := 10) rfl) (kk H locs ls cells slots h1 h2 hP hS hl)
theorem x_istore10 (G : GX p l R s m args meth c k A own cc nL ret) {a0 a1 a2 a3 a4 a5 a6 a7 a8 a9 : Option Value} {o : Option Value} {t : List (Option Value)} {x : Int32} (d : decode cc pc = .ok (.istore 10, 2)) (hn : 10 < nL) (hc : lp_c2 a9 = false)  (kk : Wx p l e R s m args below meth c k A nL Q bc bs (pc + 2) (a0 :: a1 :: a2 :: a3 :: a4 :: a5 :: a6 :: a7 :: a8 :: a9 :: some (.int x) :: t) st h) : Wx p l e R s m args below meth c k A nL Q bc bs pc (a0 :: a1 :: a2 :: a3 :: a4 :: a5 :: a6 :: a7 :: a8 :: a9 :: o :: t) (.int x :: st) h := by
  intro H locs ls cells slots h1 h2 hP hS hl
  exact lv_istore G.1 G.2.1 d hl.lv hn rfl (fun ls9 k9 => kk H locs ls9 cells slots h1 h2 hP hS (lp_of1 (P := [a0, a1, a2, a3, a4, a5, a6, a7, a8, a9]) (o := o) (ls := ls) rfl (lp_lastc rfl hc) k9))
theorem x_lload10 (G : GX p l R s m args meth c k A own cc nL ret) {a0 a1 a2 a3 a4 a5 a6 a7 a8 a9 : Option Value} {t : List (Option Value)} {x : Int64} (d : decode cc pc = .ok (.lload 10, 2)) (kk : Wx p l e R s m args below meth c k A nL Q bc bs (pc + 2) (a0 :: a1 :: a2 :: a3 :: a4 :: a5 :: a6 :: a7 :: a8 :: a9 :: some (.long x) :: t) (.long x :: st) h) : Wx p l e R s m args below meth c k A nL Q bc bs pc (a0 :: a1 :: a2 :: a3 :: a4 :: a5 :: a6 :: a7 :: a8 :: a9 :: some (.long x) :: t) st h := by
  intro H locs ls cells slots h1 h2 hP hS hl
  exact lv_lload G.1 G.2.1 d (hl.at (i := 10) rfl) (kk H locs ls cells slots h1 h2 hP hS hl)
theorem x_lstore10 (G : GX p l R s m args meth c k A own cc nL ret) {a0 a1 a2 a3 a4 a5 a6 a7 a8 a9 : Option Value} {o o2 : Option Value} {t : List (Option Value)} {x : Int64} (d : decode cc pc = .ok (.lstore 10, 2)) (hn : 10 + 1 < nL) (hc : lp_c2 a9 = false)  (kk : Wx p l e R s m args below meth c k A nL Q bc bs (pc + 2) (a0 :: a1 :: a2 :: a3 :: a4 :: a5 :: a6 :: a7 :: a8 :: a9 :: some (.long x) :: none :: t) st h) : Wx p l e R s m args below meth c k A nL Q bc bs pc (a0 :: a1 :: a2 :: a3 :: a4 :: a5 :: a6 :: a7 :: a8 :: a9 :: o :: o2 :: t) (.long x :: st) h := by
  intro H locs ls cells slots h1 h2 hP hS hl
  exact lv_lstore G.1 G.2.1 d hl.lv hn rfl (fun ls9 k9 => kk H locs ls9 cells slots h1 h2 hP hS (lp_of2 (P := [a0, a1, a2, a3, a4, a5, a6, a7, a8, a9]) (o := o) (o2 := o2) (ls := ls) rfl (lp_lastc rfl hc) k9))
theorem x_aload10 (G : GX p l R s m args meth c k A own cc nL ret) {a0 a1 a2 a3 a4 a5 a6 a7 a8 a9 : Option Value} {t : List (Option Value)} {x : Nat} (d : decode cc pc = .ok (.aload 10, 2)) (kk : Wx p l e R s m args below meth c k A nL Q bc bs (pc + 2) (a0 :: a1 :: a2 :: a3 :: a4 :: a5 :: a6 :: a7 :: a8 :: a9 :: some (.ref x) :: t) (.ref x :: st) h) : Wx p l e R s m args below meth c k A nL Q bc bs pc (a0 :: a1 :: a2 :: a3 :: a4 :: a5 :: a6 :: a7 :: a8 :: a9 :: some (.ref x) :: t) st h := by
  intro H locs ls cells slots h1 h2 hP hS hl
  exact lv_aload G.1 G.2.1 d (hl.at (i := 10) rfl) (kk H locs ls cells slots h1 h2 hP hS hl)
theorem x_astore10 (G : GX p l R s m args meth c k A own cc nL ret) {a0 a1 a2 a3 a4 a5 a6 a7 a8 a9 : Option Value} {o : Option Value} {t : List (Option Value)} {x : Nat} (d : decode cc pc = .ok (.astore 10, 2)) (hn : 10 < nL) (hc : lp_c2 a9 = false)  (kk : Wx p l e R s m args below meth c k A nL Q bc bs (pc + 2) (a0 :: a1 :: a2 :: a3 :: a4 :: a5 :: a6 :: a7 :: a8 :: a9 :: some (.ref x) :: t) st h) : Wx p l e R s m args below meth c k A nL Q bc bs pc (a0 :: a1 :: a2 :: a3 :: a4 :: a5 :: a6 :: a7 :: a8 :: a9 :: o :: t) (.ref x :: st) h := by
  intro H locs ls cells slots h1 h2 hP hS hl
  exact lv_astore G.1 G.2.1 d hl.lv hn rfl (fun ls9 k9 => kk H locs ls9 cells slots h1 h2 hP hS (lp_of1 (P := [a0, a1, a2, a3, a4, a5, a6, a7, a8, a9]) (o := o) (ls := ls) rfl (lp_lastc rfl hc) k9))
theorem x_astoreN10 (G : GX p l R s m args meth c k A own cc nL ret) {a0 a1 a2 a3 a4 a5 a6 a7 a8 a9 : Option Value} {o : Option Value} {t : List (Option Value)} (d : decode cc pc = .ok (.astore 10, 2)) (hn : 10 < nL) (hc : lp_c2 a9 = false)  (kk : Wx p l e R s m args below meth c k A nL Q bc bs (pc + 2) (a0 :: a1 :: a2 :: a3 :: a4 :: a5 :: a6 :: a7 :: a8 :: a9 :: some (.null) :: t) st h) : Wx p l e R s m args below meth c k A nL Q bc bs pc (a0 :: a1 :: a2 :: a3 :: a4 :: a5 :: a6 :: a7 :: a8 :: a9 :: o :: t) (.null :: st) h := by
  intro H locs ls cells slots h1 h2 hP hS hl
  exact lv_astoreN G.1 G.2.1 d hl.lv hn rfl (fun ls9 k9 => kk H locs ls9 cells slots h1 h2 hP hS (lp_of1 (P := [a0, a1, a2, a3, a4, a5, a6, a7, a8, a9]) (o := o) (ls := ls) rfl (lp_lastc rfl hc) k9))
theorem x_aloadN10 (G : GX p l R s m args meth c k A own cc nL ret) {a0 a1 a2 a3 a4 a5 a6 a7 a8 a9 : Option Value} {t : List (Option Value)} (d : decode cc pc = .ok (.aload 10, 2)) (kk : Wx p l e R s m args below meth c k A nL Q bc bs (pc + 2) (a0 :: a1 :: a2 :: a3 :: a4 :: a5 :: a6 :: a7 :: a8 :: a9 :: some .null :: t) (.null :: st) h) : Wx p l e R s m args below meth c k A nL Q bc bs pc (a0 :: a1 :: a2 :: a3 :: a4 :: a5 :: a6 :: a7 :: a8 :: a9 :: some .null :: t) st h := by
  intro H locs ls cells slots h1 h2 hP hS hl
  exact lv_aloadN G.1 G.2.1 d (hl.at (i := 10) rfl) (kk H locs ls cells slots h1 h2 hP hS hl)
theorem x_iinc10 (G : GX p l R s m args meth c k A own cc nL ret) {a0 a1 a2 a3 a4 a5 a6 a7 a8 a9 : Option Value} {t : List (Option Value)} {x v : Int32} {n : Int} (d : decode cc pc = .ok (.iinc 10 n, 3)) (hv : x + Int32.ofInt n = v) (hn : 10 < nL) (hc : lp_c2 a9 = false) (kk : Wx p l e R s m args below meth c k A nL Q bc bs (pc + 3) (a0 :: a1 :: a2 :: a3 :: a4 :: a5 :: a6 :: a7 :: a8 :: a9 :: some (.int v) :: t) st h) : Wx p l e R s m args below meth c k A nL Q bc bs pc (a0 :: a1 :: a2 :: a3 :: a4 :: a5 :: a6 :: a7 :: a8 :: a9 :: some (.int x) :: t) st h := by
  intro H locs ls cells slots h1 h2 hP hS hl
  obtain ⟨kq, hkq⟩ := List.getElem?_of_mem ((lp_l_mem (a0 :: a1 :: a2 :: a3 :: a4 :: a5 :: a6 :: a7 :: a8 :: a9 :: some (.int x) :: t) 0 10 (.int x)).mpr ⟨10, (Nat.zero_add _).symm, rfl⟩)
  exact lv_iinc G.1 G.2.1 d hl.lv hkq hv hn rfl (fun ls9 k9 => kk H locs ls9 cells slots h1 h2 hP hS (lp_of1 (P := [a0, a1, a2, a3, a4, a5, a6, a7, a8, a9]) (o := some (.int x)) (ls := ls) rfl (lp_lastc rfl hc) k9))
theorem x_iload11 (G : GX p l R s m args meth c k A own cc nL ret) {a0 a1 a2 a3 a4 a5 a6 a7 a8 a9 a10 : Option Value} {t : List (Option Value)} {x : Int32} (d : decode cc pc = .ok (.iload 11, 2)) (kk : Wx p l e R s m args below meth c k A nL Q bc bs (pc + 2) (a0 :: a1 :: a2 :: a3 :: a4 :: a5 :: a6 :: a7 :: a8 :: a9 :: a10 :: some (.int x) :: t) (.int x :: st) h) : Wx p l e R s m args below meth c k A nL Q bc bs pc (a0 :: a1 :: a2 :: a3 :: a4 :: a5 :: a6 :: a7 :: a8 :: a9 :: a10 :: some (.int x) :: t) st h := by
  intro H locs ls cells slots h1 h2 hP hS hl
  exact lv_iload G.1 G.2.1 d (hl.at (i := 11) rfl) (kk H locs ls cells slots h1 h2 hP hS hl)
theorem x_istore11 (G : GX p l R s m args meth c k A own cc nL ret) {a0 a1 a2 a3 a4 a5 a6 a7 a8 a9 a10 : Option Value} {o : Option Value} {t : List (Option Value)} {x : Int32} (d : decode cc pc = .ok (.istore 11, 2)) (hn : 11 < nL) (hc : lp_c2 a10 = false)  (kk : Wx p l e R s m args below meth c k A nL Q bc bs (pc + 2) (a0 :: a1 :: a2 :: a3 :: a4 :: a5 :: a6 :: a7 :: a8 :: a9 :: a10 :: some (.int x) :: t) st h) : Wx p l e R s m args below meth c k A nL Q bc bs pc (a0 :: a1 :: a2 :: a3 :: a4 :: a5 :: a6 :: a7 :: a8 :: a9 :: a10 :: o :: t) (.int x :: st) h := by
  intro H locs ls cells slots h1 h2 hP hS hl
  exact lv_istore G.1 G.2.1 d hl.lv hn rfl (fun ls9 k9 => kk H locs ls9 cells slots h1 h2 hP hS (lp_of1 (P := [a0, a1, a2, a3, a4, a5, a6, a7, a8, a9, a10]) (o := o) (ls := ls) rfl (lp_lastc rfl hc) k9))
theorem x_lload11 (G : GX p l R s m args meth c k A own cc nL ret) {a0 a1 a2 a3 a4 a5 a6 a7 a8 a9 a10 : Option Value} {t : List (Option Value)} {x : Int64} (d : decode cc pc = .ok (.lload 11, 2)) (kk : Wx p l e R s m args below meth c k A nL Q bc bs (pc + 2) (a0 :: a1 :: a2 :: a3 :: a4 :: a5 :: a6 :: a7 :: a8 :: a9 :: a10 :: some (.long x) :: t) (.long x :: st) h) : Wx p l e R s m args below meth c k A nL Q bc bs pc (a0 :: a1 :: a2 :: a3 :: a4 :: a5 :: a6 :: a7 :: a8 :: a9 :: a10 :: some (.long x) :: t) st h := by
  intro H locs ls cells slots h1 h2 hP hS hl
  exact lv_lload G.1 G.2.1 d (hl.at (i := 11) rfl) (kk H locs ls cells slots h1 h2 hP hS hl)
theorem x_lstore11 (G : GX p l R s m args meth c k A own cc nL ret) {a0 a1 a2 a3 a4 a5 a6 a7 a8 a9 a10 : Option Value} {o o2 : Option Value} {t : List (Option Value)} {x : Int64} (d : decode cc pc = .ok (.lstore 11, 2)) (hn : 11 + 1 < nL) (hc : lp_c2 a10 = false)  (kk : Wx p l e R s m args below meth c k A nL Q bc bs (pc + 2) (a0 :: a1 :: a2 :: a3 :: a4 :: a5 :: a6 :: a7 :: a8 :: a9 :: a10 :: some (.long x) :: none :: t) st h) : Wx p l e R s m args below meth c k A nL Q bc bs pc (a0 :: a1 :: a2 :: a3 :: a4 :: a5 :: a6 :: a7 :: a8 :: a9 :: a10 :: o :: o2 :: t) (.long x :: st) h := by
  intro H locs ls cells slots h1 h2 hP hS hl
  exact lv_lstore G.1 G.2.1 d hl.lv hn rfl (fun ls9 k9 => kk H locs ls9 cells slots h1 h2 hP hS (lp_of2 (P := [a0, a1, a2, a3, a4, a5, a6, a7, a8, a9, a10]) (o := o) (o2 := o2) (ls := ls) rfl (lp_lastc rfl hc) k9))
theorem x_aload11 (G : GX p l R s m args meth c k A own cc nL ret) {a0 a1 a2 a3 a4 a5 a6 a7 a8 a9 a10 : Option Value} {t : List (Option Value)} {x : Nat} (d : decode cc pc = .ok (.aload 11, 2)) (kk : Wx p l e R s m args below meth c k A nL Q bc bs (pc + 2) (a0 :: a1 :: a2 :: a3 :: a4 :: a5 :: a6 :: a7 :: a8 :: a9 :: a10 :: some (.ref x) :: t) (.ref x :: st) h) : Wx p l e R s m args below meth c k A nL Q bc bs pc (a0 :: a1 :: a2 :: a3 :: a4 :: a5 :: a6 :: a7 :: a8 :: a9 :: a10 :: some (.ref x) :: t) st h := by
  intro H locs ls cells slots h1 h2 hP hS hl
  exact lv_aload G.1 G.2.1 d (hl.at (i := 11) rfl) (kk H locs ls cells slots h1 h2 hP hS hl)
theorem x_astore11 (G : GX p l R s m args meth c k A own cc nL ret) {a0 a1 a2 a3 a4 a5 a6 a7 a8 a9 a10 : Option Value} {o : Option Value} {t : List (Option Value)} {x : Nat} (d : decode cc pc = .ok (.astore 11, 2)) (hn : 11 < nL) (hc : lp_c2 a10 = false)  (kk : Wx p l e R s m args below meth c k A nL Q bc bs (pc + 2) (a0 :: a1 :: a2 :: a3 :: a4 :: a5 :: a6 :: a7 :: a8 :: a9 :: a10 :: some (.ref x) :: t) st h) : Wx p l e R s m args below meth c k A nL Q bc bs pc (a0 :: a1 :: a2 :: a3 :: a4 :: a5 :: a6 :: a7 :: a8 :: a9 :: a10 :: o :: t) (.ref x :: st) h := by
  intro H locs ls cells slots h1 h2 hP hS hl
  exact lv_astore G.1 G.2.1 d hl.lv hn rfl (fun ls9 k9 => kk H locs ls9 cells slots h1 h2 hP hS (lp_of1 (P := [a0, a1, a2, a3, a4, a5, a6, a7, a8, a9, a10]) (o := o) (ls := ls) rfl (lp_lastc rfl hc) k9))
theorem x_astoreN11 (G : GX p l R s m args meth c k A own cc nL ret) {a0 a1 a2 a3 a4 a5 a6 a7 a8 a9 a10 : Option Value} {o : Option Value} {t : List (Option Value)} (d : decode cc pc = .ok (.astore 11, 2)) (hn : 11 < nL) (hc : lp_c2 a10 = false)  (kk : Wx p l e R s m args below meth c k A nL Q bc bs (pc + 2) (a0 :: a1 :: a2 :: a3 :: a4 :: a5 :: a6 :: a7 :: a8 :: a9 :: a10 :: some (.null) :: t) st h) : Wx p l e R s m args below meth c k A nL Q bc bs pc (a0 :: a1 :: a2 :: a3 :: a4 :: a5 :: a6 :: a7 :: a8 :: a9 :: a10 :: o :: t) (.null :: st) h := by
  intro H locs ls cells slots h1 h2 hP hS hl
  exact lv_astoreN G.1 G.2.1 d hl.lv hn rfl (fun ls9 k9 => kk H locs ls9 cells slots h1 h2 hP hS (lp_of1 (P := [a0, a1, a2, a3, a4, a5, a6, a7, a8, a9, a10]) (o := o) (ls := ls) rfl (lp_lastc rfl hc) k9))
theorem x_aloadN11 (G : GX p l R s m args meth c k A own cc nL ret) {a0 a1 a2 a3 a4 a5 a6 a7 a8 a9 a10 : Option Value} {t : List (Option Value)} (d : decode cc pc = .ok (.aload 11, 2)) (kk : Wx p l e R s m args below meth c k A nL Q bc bs (pc + 2) (a0 :: a1 :: a2 :: a3 :: a4 :: a5 :: a6 :: a7 :: a8 :: a9 :: a10 :: some .null :: t) (.null :: st) h) : Wx p l e R s m args below meth c k A nL Q bc bs pc (a0 :: a1 :: a2 :: a3 :: a4 :: a5 :: a6 :: a7 :: a8 :: a9 :: a10 :: some .null :: t) st h := by
  intro H locs ls cells slots h1 h2 hP hS hl
  exact lv_aloadN G.1 G.2.1 d (hl.at (i := 11) rfl) (kk H locs ls cells slots h1 h2 hP hS hl)
theorem x_iinc11 (G : GX p l R s m args meth c k A own cc nL ret) {a0 a1 a2 a3 a4 a5 a6 a7 a8 a9 a10 : Option Value} {t : List (Option Value)} {x v : Int32} {n : Int} (d : decode cc pc = .ok (.iinc 11 n, 3)) (hv : x + Int32.ofInt n = v) (hn : 11 < nL) (hc : lp_c2 a10 = false) (kk : Wx p l e R s m args below meth c k A nL Q bc bs (pc + 3) (a0 :: a1 :: a2 :: a3 :: a4 :: a5 :: a6 :: a7 :: a8 :: a9 :: a10 :: some (.int v) :: t) st h) : Wx p l e R s m args below meth c k A nL Q bc bs pc (a0 :: a1 :: a2 :: a3 :: a4 :: a5 :: a6 :: a7 :: a8 :: a9 :: a10 :: some (.int x) :: t) st h := by
  intro H locs ls cells slots h1 h2 hP hS hl
  obtain ⟨kq, hkq⟩ := List.getElem?_of_mem ((lp_l_mem (a0 :: a1 :: a2 :: a3 :: a4 :: a5 :: a6 :: a7 :: a8 :: a9 :: a10 :: some (.int x) :: t) 0 11 (.int x)).mpr ⟨11, (Nat.zero_add _).symm, rfl⟩)
  exact lv_iinc G.1 G.2.1 d hl.lv hkq hv hn rfl (fun ls9 k9 => kk H locs ls9 cells slots h1 h2 hP hS (lp_of1 (P := [a0, a1, a2, a3, a4, a5, a6, a7, a8, a9, a10]) (o := some (.int x)) (ls := ls) rfl (lp_lastc rfl hc) k9))
theorem x_iload12 (G : GX p l R s m args meth c k A own cc nL ret) {a0 a1 a2 a3 a4 a5 a6 a7 a8 a9 a10 a11 : Option Value} {t : List (Option Value)} {x : Int32} (d : decode cc pc = .ok (.iload 12, 2)) (kk : Wx p l e R s m args below meth c k A nL Q bc bs (pc + 2) (a0 :: a1 :: a2 :: a3 :: a4 :: a5 :: a6 :: a7 :: a8 :: a9 :: a10 :: a11 :: some (.int x) :: t) (.int x :: st) h) : Wx p l e R s m args below meth c k A nL Q bc bs pc (a0 :: a1 :: a2 :: a3 :: a4 :: a5 :: a6 :: a7 :: a8 :: a9 :: a10 :: a11 :: some (.int x) :: t) st h := by
  intro H locs ls cells slots h1 h2 hP hS hl
  exact lv_iload G.1 G.2.1 d (hl.at (i := 12) rfl) (kk H locs ls cells slots h1 h2 hP hS hl)
theorem x_istore12 (G : GX p l R s m args meth c k A own cc nL ret) {a0 a1 a2 a3 a4 a5 a6 a7 a8 a9 a10 a11 : Option Value} {o : Option Value} {t : List (Option Value)} {x : Int32} (d : decode cc pc = .ok (.istore 12, 2)) (hn : 12 < nL) (hc : lp_c2 a11 = false)  (kk : Wx p l e R s m args below meth c k A nL Q bc bs (pc + 2) (a0 :: a1 :: a2 :: a3 :: a4 :: a5 :: a6 :: a7 :: a8 :: a9 :: a10 :: a11 :: some (.int x) :: t) st h) : Wx p l e R s m args below meth c k A nL Q bc bs pc (a0 :: a1 :: a2 :: a3 :: a4 :: a5 :: a6 :: a7 :: a8 :: a9 :: a10 :: a11 :: o :: t) (.int x :: st) h := by
  intro H locs ls cells slots h1 h2 hP hS hl
  exact lv_istore G.1 G.2.1 d hl.lv hn rfl (fun ls9 k9 => kk H locs ls9 cells slots h1 h2 hP hS (lp_of1 (P := [a0, a1, a2, a3, a4, a5, a6, a7, a8, a9, a10, a11]) (o := o) (ls := ls) rfl (lp_lastc rfl hc) k9))
theorem x_lload12 (G : GX p l R s m args meth c k A own cc nL ret) {a0 a1 a2 a3 a4 a5 a6 a7 a8 a9 a10 a11 : Option Value} {t : List (Option Value)} {x : Int64} (d : decode cc pc = .ok (.lload 12, 2)) (kk : Wx p l e R s m args below meth c k A nL Q bc bs (pc + 2) (a0 :: a1 :: a2 :: a3 :: a4 :: a5 :: a6 :: a7 :: a8 :: a9 :: a10 :: a11 :: some (.long x) :: t) (.long x :: st) h) : Wx p l e R s m args below meth c k A nL Q bc bs pc (a0 :: a1 :: a2 :: a3 :: a4 :: a5 :: a6 :: a7 :: a8 :: a9 :: a10 :: a11 :: some (.long x) :: t) st h := by
  intro H locs ls cells slots h1 h2 hP hS hl
  exact lv_lload G.1 G.2.1 d (hl.at (i := 12) rfl) (kk H locs ls cells slots h1 h2 hP hS hl)
theorem x_lstore12 (G : GX p l R s m args meth c k A own cc nL ret) {a0 a1 a2 a3 a4 a5 a6 a7 a8 a9 a10 a11 : Option Value} {o o2 : Option Value} {t : List (Option Value)} {x : Int64} (d : decode cc pc = .ok (.lstore 12, 2)) (hn : 12 + 1 < nL) (hc : lp_c2 a11 = false)  (kk : Wx p l e R s m args below meth c k A nL Q bc bs (pc + 2) (a0 :: a1 :: a2 :: a3 :: a4 :: a5 :: a6 :: a7 :: a8 :: a9 :: a10 :: a11 :: some (.long x) :: none :: t) st h) : Wx p l e R s m args below meth c k A nL Q bc bs pc (a0 :: a1 :: a2 :: a3 :: a4 :: a5 :: a6 :: a7 :: a8 :: a9 :: a10 :: a11 :: o :: o2 :: t) (.long x :: st) h := by
  intro H locs ls cells slots h1 h2 hP hS hl
  exact lv_lstore G.1 G.2.1 d hl.lv hn rfl (fun ls9 k9 => kk H locs ls9 cells slots h1 h2 hP hS (lp_of2 (P := [a0, a1, a2, a3, a4, a5, a6, a7, a8, a9, a10, a11]) (o := o) (o2 := o2) (ls := ls) rfl (lp_lastc rfl hc) k9))
theorem x_aload12 (G : GX p l R s m args meth c k A own cc nL ret) {a0 a1 a2 a3 a4 a5 a6 a7 a8 a9 a10 a11 : Option Value} {t : List (Option Value)} {x : Nat} (d : decode cc pc = .ok (.aload 12, 2)) (kk : Wx p l e R s m args below meth c k A nL Q bc bs (pc + 2) (a0 :: a1 :: a2 :: a3 :: a4 :: a5 :: a6 :: a7 :: a8 :: a9 :: a10 :: a11 :: some (.ref x) :: t) (.ref x :: st) h) : Wx p l e R s m args below meth c k A nL Q bc bs pc (a0 :: a1 :: a2 :: a3 :: a4 :: a5 :: a6 :: a7 :: a8 :: a9 :: a10 :: a11 :: some (.ref x) :: t) st h := by
  intro H locs ls cells slots h1 h2 hP hS hl
  exact lv_aload G.1 G.2.1 d (hl.at (i := 12) rfl) (kk H locs ls cells slots h1 h2 hP hS hl)
theorem x_astore12 (G : GX p l R s m args meth c k A own cc nL ret) {a0 a1 a2 a3 a4 a5 a6 a7 a8 a9 a10 a11 : Option Value} {o : Option Value} {t : List (Option Value)} {x : Nat} (d : decode cc pc = .ok (.astore 12, 2)) (hn : 12 < nL) (hc : lp_c2 a11 = false)  (kk : Wx p l e R s m args below meth c k A nL Q bc bs (pc + 2) (a0 :: a1 :: a2 :: a3 :: a4 :: a5 :: a6 :: a7 :: a8 :: a9 :: a10 :: a11 :: some (.ref x) :: t) st h) : Wx p l e R s m args below meth c k A nL Q bc bs pc (a0 :: a1 :: a2 :: a3 :: a4 :: a5 :: a6 :: a7 :: a8 :: a9 :: a10 :: a11 :: o :: t) (.ref x :: st) h := by
  intro H locs ls cells slots h1 h2 hP hS hl
  exact lv_astore G.1 G.2.1 d hl.lv hn rfl (fun ls9 k9 => kk H locs ls9 cells slots h1 h2 hP hS (lp_of1 (P := [a0, a1, a2, a3, a4, a5, a6, a7, a8, a9, a10, a11]) (o := o) (ls := ls) rfl (lp_lastc rfl hc) k9))
theorem x_astoreN12 (G : GX p l R s m args meth c k A own cc nL ret) {a0 a1 a2 a3 a4 a5 a6 a7 a8 a9 a10 a11 : Option Value} {o : Option Value} {t : List (Option Value)} (d : decode cc pc = .ok (.astore 12, 2)) (hn : 12 < nL) (hc : lp_c2 a11 = false)  (kk : Wx p l e R s m args below meth c k A nL Q bc bs (pc + 2) (a0 :: a1 :: a2 :: a3 :: a4 :: a5 :: a6 :: a7 :: a8 :: a9 :: a10 :: a11 :: some (.null) :: t) st h) : Wx p l e R s m args below meth c k A nL Q bc bs pc (a0 :: a1 :: a2 :: a3 :: a4 :: a5 :: a6 :: a7 :: a8 :: a9 :: a10 :: a11 :: o :: t) (.null :: st) h := by
  intro H locs ls cells slots h1 h2 hP hS hl
  exact lv_astoreN G.1 G.2.1 d hl.lv hn rfl (fun ls9 k9 => kk H locs ls9 cells slots h1 h2 hP hS (lp_of1 (P := [a0, a1, a2, a3, a4, a5, a6, a7, a8, a9, a10, a11]) (o := o) (ls := ls) rfl (lp_lastc rfl hc) k9))
theorem x_aloadN12 (G : GX p l R s m args meth c k A own cc nL ret) {a0 a1 a2 a3 a4 a5 a6 a7 a8 a9 a10 a11 : Option Value} {t : List (Option Value)} (d : decode cc pc = .ok (.aload 12, 2)) (kk : Wx p l e R s m args below meth c k A nL Q bc bs (pc + 2) (a0 :: a1 :: a2 :: a3 :: a4 :: a5 :: a6 :: a7 :: a8 :: a9 :: a10 :: a11 :: some .null :: t) (.null :: st) h) : Wx p l e R s m args below meth c k A nL Q bc bs pc (a0 :: a1 :: a2 :: a3 :: a4 :: a5 :: a6 :: a7 :: a8 :: a9 :: a10 :: a11 :: some .null :: t) st h := by
  intro H locs ls cells slots h1 h2 hP hS hl
  exact lv_aloadN G.1 G.2.1 d (hl.at (i := 12) rfl) (kk H locs ls cells slots h1 h2 hP hS hl)
theorem x_iinc12 (G : GX p l R s m args meth c k A own cc nL ret) {a0 a1 a2 a3 a4 a5 a6 a7 a8 a9 a10 a11 : Option Value} {t : List (Option Value)} {x v : Int32} {n : Int} (d : decode cc pc = .ok (.iinc 12 n, 3)) (hv : x + Int32.ofInt n = v) (hn : 12 < nL) (hc : lp_c2 a11 = false) (kk : Wx p l e R s m args below meth c k A nL Q bc bs (pc + 3) (a0 :: a1 :: a2 :: a3 :: a4 :: a5 :: a6 :: a7 :: a8 :: a9 :: a10 :: a11 :: some (.int v) :: t) st h) : Wx p l e R s m args below meth c k A nL Q bc bs pc (a0 :: a1 :: a2 :: a3 :: a4 :: a5 :: a6 :: a7 :: a8 :: a9 :: a10 :: a11 :: some (.int x) :: t) st h := by
  intro H locs ls cells slots h1 h2 hP hS hl
  obtain ⟨kq, hkq⟩ := List.getElem?_of_mem ((lp_l_mem (a0 :: a1 :: a2 :: a3 :: a4 :: a5 :: a6 :: a7 :: a8 :: a9 :: a10 :: a11 :: some (.int x) :: t) 0 12 (.int x)).mpr ⟨12, (Nat.zero_add _).symm, rfl⟩)
  exact lv_iinc G.1 G.2.1 d hl.lv hkq hv hn rfl (fun ls9 k9 => kk H locs ls9 cells slots h1 h2 hP hS (lp_of1 (P := [a0, a1, a2, a3, a4, a5, a6, a7, a8, a9, a10, a11]) (o := some (.int x)) (ls := ls) rfl (lp_lastc rfl hc) k9))
theorem x_iload13 (G : GX p l R s m args meth c k A own cc nL ret) {a0 a1 a2 a3 a4 a5 a6 a7 a8 a9 a10 a11 a12 : Option Value} {t : List (Option Value)} {x : Int32} (d : decode cc pc = .ok (.iload 13, 2)) (kk : Wx p l e R s m args below meth c k A nL Q bc bs (pc + 2) (a0 :: a1 :: a2 :: a3 :: a4 :: a5 :: a6 :: a7 :: a8 :: a9 :: a10 :: a11 :: a12 :: some (.int x) :: t) (.int x :: st) h) : Wx p l e R s m args below meth c k A nL Q bc bs pc (a0 :: a1 :: a2 :: a3 :: a4 :: a5 :: a6 :: a7 :: a8 :: a9 :: a10 :: a11 :: a12 :: some (.int x) :: t) st h := by
  intro H locs ls cells slots h1 h2 hP hS hl
  exact lv_iload G.1 G.2.1 d (hl.at (i := 13) rfl) (kk H locs ls cells slots h1 h2 hP hS hl)
theorem x_istore13 (G : GX p l R s m args meth c k A own cc nL ret) {a0 a1 a2 a3 a4 a5 a6 a7 a8 a9 a10 a11 a12 : Option Value} {o : Option Value} {t : List (Option Value)} {x : Int32} (d : decode cc pc = .ok (.istore 13, 2)) (hn : 13 < nL) (hc : lp_c2 a12 = false)  (kk : Wx p l e R s m args below meth c k A nL Q bc bs (pc + 2) (a0 :: a1 :: a2 :: a3 :: a4 :: a5 :: a6 :: a7 :: a8 :: a9 :: a10 :: a11 :: a12 :: some (.int x) :: t) st h) : Wx p l e R s m args below meth c k A nL Q bc bs pc (a0 :: a1 :: a2 :: a3 :: a4 :: a5 :: a6 :: a7 :: a8 :: a9 :: a10 :: a11 :: a12 :: o :: t) (.int x :: st) h := by
  intro H locs ls cells slots h1 h2 hP hS hl
  exact lv_istore G.1 G.2.1 d hl.lv hn rfl (fun ls9 k9 => kk H locs ls9 cells slots h1 h2 hP hS (lp_of1 (P := [a0, a1, a2, a3, a4, a5, a6, a7, a8, a9, a10, a11, a12]) (o := o) (ls := ls) rfl (lp_lastc rfl hc) k9))
theorem x_lload13 (G : GX p l R s m args meth c k A own cc nL ret) {a0 a1 a2 a3 a4 a5 a6 a7 a8 a9 a10 a11 a12 : Option Value} {t : List (Option Value)} {x : Int64} (d : decode cc pc = .ok (.lload 13, 2)) (kk : Wx p l e R s m args below meth c k A nL Q bc bs (pc + 2) (a0 :: a1 :: a2 :: a3 :: a4 :: a5 :: a6 :: a7 :: a8 :: a9 :: a10 :: a11 :: a12 :: some (.long x) :: t) (.long x :: st) h) : Wx p l e R s m args below meth c k A nL Q bc bs pc (a0 :: a1 :: a2 :: a3 :: a4 :: a5 :: a6 :: a7 :: a8 :: a9 :: a10 :: a11 :: a12 :: some (.long x) :: t) st h := by
  intro H locs ls cells slots h1 h2 hP hS hl
  exact lv_lload G.1 G.2.1 d (hl.at (i := 13) rfl) (kk H locs ls cells slots h1 h2 hP hS hl)
theorem x_lstore13 (G : GX p l R s m args meth c k A own cc nL ret) {a0 a1 a2 a3 a4 a5 a6 a7 a8 a9 a10 a11 a12 : Option Value} {o o2 : Option Value} {t : List (Option Value)} {x : Int64} (d : decode cc pc = .ok (.lstore 13, 2)) (hn : 13 + 1 < nL) (hc : lp_c2 a12 = false)  (kk : Wx p l e R s m args below meth c k A nL Q bc bs (pc + 2) (a0 :: a1 :: a2 :: a3 :: a4 :: a5 :: a6 :: a7 :: a8 :: a9 :: a10 :: a11 :: a12 :: some (.long x) :: none :: t) st h) : Wx p l e R s m args below meth c k A nL Q bc bs pc (a0 :: a1 :: a2 :: a3 :: a4 :: a5 :: a6 :: a7 :: a8 :: a9 :: a10 :: a11 :: a12 :: o :: o2 :: t) (.long x :: st) h := by
  intro H locs ls cells slots h1 h2 hP hS hl
  exact lv_lstore G.1 G.2.1 d hl.lv hn rfl (fun ls9 k9 => kk H locs ls9 cells slots h1 h2 hP hS (lp_of2 (P := [a0, a1, a2, a3, a4, a5, a6, a7, a8, a9, a10, a11, a12]) (o := o) (o2 := o2) (ls := ls) rfl (lp_lastc rfl hc) k9))
theorem x_aload13 (G : GX p l R s m args meth c k A own cc nL ret) {a0 a1 a2 a3 a4 a5 a6 a7 a8 a9 a10 a11 a12 : Option Value} {t : List (Option Value)} {x : Nat} (d : decode cc pc = .ok (.aload 13, 2)) (kk : Wx p l e R s m args below meth c k A nL Q bc bs (pc + 2) (a0 :: a1 :: a2 :: a3 :: a4 :: a5 :: a6 :: a7 :: a8 :: a9 :: a10 :: a11 :: a12 :: some (.ref x) :: t) (.ref x :: st) h) : Wx p l e R s m args below meth c k A nL Q bc bs pc (a0 :: a1 :: a2 :: a3 :: a4 :: a5 :: a6 :: a7 :: a8 :: a9 :: a10 :: a11 :: a12 :: some (.ref x) :: t) st h := by
  intro H locs ls cells slots h1 h2 hP hS hl
  exact lv_aload G.1 G.2.1 d (hl.at (i := 13) rfl) (kk H locs ls cells slots h1 h2 hP hS hl)
theorem x_astore13 (G : GX p l R s m args meth c k A own cc nL ret) {a0 a1 a2 a3 a4 a5 a6 a7 a8 a9 a10 a11 a12 : Option Value} {o : Option Value} {t : List (Option Value)} {x : Nat} (d : decode cc pc = .ok (.astore 13, 2)) (hn : 13 < nL) (hc : lp_c2 a12 = false)  (kk : Wx p l e R s m args below meth c k A nL Q bc bs (pc + 2) (a0 :: a1 :: a2 :: a3 :: a4 :: a5 :: a6 :: a7 :: a8 :: a9 :: a10 :: a11 :: a12 :: some (.ref x) :: t) st h) : Wx p l e R s m args below meth c k A nL Q bc bs pc (a0 :: a1 :: a2 :: a3 :: a4 :: a5 :: a6 :: a7 :: a8 :: a9 :: a10 :: a11 :: a12 :: o :: t) (.ref x :: st) h := by
  intro H locs ls cells slots h1 h2 hP hS hl
  exact lv_astore G.1 G.2.1 d hl.lv hn rfl (fun ls9 k9 => kk H locs ls9 cells slots h1 h2 hP hS (lp_of1 (P := [a0, a1, a2, a3, a4, a5, a6, a7, a8, a9, a10, a11, a12]) (o := o) (ls := ls) rfl (lp_lastc rfl hc) k9))
theorem x_astoreN13 (G : GX p l R s m args meth c k A own cc nL ret) {a0 a1 a2 a3 a4 a5 a6 a7 a8 a9 a10 a11 a12 : Option Value} {o : Option Value} {t : List (Option Value)} (d : decode cc pc = .ok (.astore 13, 2)) (hn : 13 < nL) (hc : lp_c2 a12 = false)  (kk : Wx p l e R s m args below meth c k A nL Q bc bs (pc + 2) (a0 :: a1 :: a2 :: a3 :: a4 :: a5 :: a6 :: a7 :: a8 :: a9 :: a10 :: a11 :: a12 :: some (.null) :: t) st h) : Wx p l e R s m args below meth c k A nL Q bc bs pc (a0 :: a1 :: a2 :: a3 :: a4 :: a5 :: a6 :: a7 :: a8 :: a9 :: a10 :: a11 :: a12 :: o :: t) (.null :: st) h := by
  intro H locs ls cells slots h1 h2 hP hS hl
  exact lv_astoreN G.1 G.2.1 d hl.lv hn rfl (fun ls9 k9 => kk H locs ls9 cells slots h1 h2 hP hS (lp_of1 (P := [a0, a1, a2, a3, a4, a5, a6, a7, a8, a9, a10, a11, a12]) (o := o) (ls := ls) rfl (lp_lastc rfl hc) k9))
theorem x_aloadN13 (G : GX p l R s m args meth c k A own cc nL ret) {a0 a1 a2 a3 a4 a5 a6 a7 a8 a9 a10 a11 a12 : Option Value} {t : List (Option Value)} (d : decode cc pc = .ok (.aload 13, 2)) (kk : Wx p l e R s m args below meth c k A nL Q bc bs (pc + 2) (a0 :: a1 :: a2 :: a3 :: a4 :: a5 :: a6 :: a7 :: a8 :: a9 :: a10 :: a11 :: a12 :: some .null :: t) (.null :: st) h) : Wx p l e R s m args below meth c k A nL Q bc bs pc (a0 :: a1 :: a2 :: a3 :: a4 :: a5 :: a6 :: a7 :: a8 :: a9 :: a10 :: a11 :: a12 :: some .null :: t) st h := by
  intro H locs ls cells slots h1 h2 hP hS hl
  exact lv_aloadN G.1 G.2.1 d (hl.at (i := 13) rfl) (kk H locs ls cells slots h1 h2 hP hS hl)
theorem x_iinc13 (G : GX p l R s m args meth c k A own cc nL ret) {a0 a1 a2 a3 a4 a5 a6 a7 a8 a9 a10 a11 a12 : Option Value} {t : List (Option Value)} {x v : Int32} {n : Int} (d : decode cc pc = .ok (.iinc 13 n, 3)) (hv : x + Int32.ofInt n = v) (hn : 13 < nL) (hc : lp_c2 a12 = false) (kk : Wx p l e R s m args below meth c k A nL Q bc bs (pc + 3) (a0 :: a1 :: a2 :: a3 :: a4 :: a5 :: a6 :: a7 :: a8 :: a9 :: a10 :: a11 :: a12 :: some (.int v) :: t) st h) : Wx p l e R s m args below meth c k A nL Q bc bs pc (a0 :: a1 :: a2 :: a3 :: a4 :: a5 :: a6 :: a7 :: a8 :: a9 :: a10 :: a11 :: a12 :: some (.int x) :: t) st h := by
  intro H locs ls cells slots h1 h2 hP hS hl
  obtain ⟨kq, hkq⟩ := List.getElem?_of_mem ((lp_l_mem (a0 :: a1 :: a2 :: a3 :: a4 :: a5 :: a6 :: a7 :: a8 :: a9 :: a10 :: a11 :: a12 :: some (.int x) :: t) 0 13 (.int x)).mpr ⟨13, (Nat.zero_add _).symm, rfl⟩)
  exact lv_iinc G.1 G.2.1 d hl.lv hkq hv hn rfl (fun ls9 k9 => kk H locs ls9 cells slots h1 h2 hP hS (lp_of1 (P := [a0, a1, a2, a3, a4, a5, a6, a7, a8, a9, a10, a11, a12]) (o := some (.int x)) (ls := ls) rfl (lp_lastc rfl hc) k9))
theorem x_iload14 (G : GX p l R s m args meth c k A own cc nL ret) {a0 a1 a2 a3 a4 a5 a6 a7 a8 a9 a10 a11 a12 a13 : Option Value} {t : List (Option Value)} {x : Int32} (d : decode cc pc = .ok (.iload 14, 2)) (kk : Wx p l e R s m args below meth c k A nL Q bc bs (pc + 2) (a0 :: a1 :: a2 :: a3 :: a4 :: a5 :: a6 :: a7 :: a8 :: a9 :: a10 :: a11 :: a12 :: a13 :: some (.int x) :: t) (.int x :: st) h) : Wx p l e R s m args below meth c k A nL Q bc bs pc (a0 :: a1 :: a2 :: a3 :: a4 :: a5 :: a6 :: a7 :: a8 :: a9 :: a10 :: a11 :: a12 :: a13 :: some (.int x) :: t) st h := by
  intro H locs ls cells slots h1 h2 hP hS hl
  exact lv_iload G.1 G.2.1 d (hl.at (i := 14) rfl) (kk H locs ls cells slots h1 h2 hP hS hl)
theorem x_istore14 (G : GX p l R s m args meth c k A own cc nL ret) {a0 a1 a2 a3 a4 a5 a6 a7 a8 a9 a10 a11 a12 a13 : Option Value} {o : Option Value} {t : List (Option Value)} {x : Int32} (d : decode cc pc = .ok (.istore 14, 2)) (hn : 14 < nL) (hc : lp_c2 a13 = false)  (kk : Wx p l e R s m args below meth c k A nL Q bc bs (pc + 2) (a0 :: a1 :: a2 :: a3 :: a4 :: a5 :: a6 :: a7 :: a8 :: a9 :: a10 :: a11 :: a12 :: a13 :: some (.int x) :: t) st h) : Wx p l e R s m args below meth c k A nL Q bc bs pc (a0 :: a1 :: a2 :: a3 :: a4 :: a5 :: a6 :: a7 :: a8 :: a9 :: a10 :: a11 :: a12 :: a13 :: o :: t) (.int x :: st) h := by
  intro H locs ls cells slots h1 h2 hP hS hl
  exact lv_istore G.1 G.2.1 d hl.lv hn rfl (fun ls9 k9 => kk H locs ls9 cells slots h1 h2 hP hS (lp_of1 (P := [a0, a1, a2, a3, a4, a5, a6, a7, a8, a9, a10, a11, a12, a13]) (o := o) (ls := ls) rfl (lp_lastc rfl hc) k9))
theorem x_lload14 (G : GX p l R s m args meth c k A own cc nL ret) {a0 a1 a2 a3 a4 a5 a6 a7 a8 a9 a10 a11 a12 a13 : Option Value} {t : List (Option Value)} {x : Int64} (d : decode cc pc = .ok (.lload 14, 2)) (kk : Wx p l e R s m args below meth c k A nL Q bc bs (pc + 2) (a0 :: a1 :: a2 :: a3 :: a4 :: a5 :: a6 :: a7 :: a8 :: a9 :: a10 :: a11 :: a12 :: a13 :: some (.long x) :: t) (.long x :: st) h) : Wx p l e R s m args below meth c k A nL Q bc bs pc (a0 :: a1 :: a2 :: a3 :: a4 :: a5 :: a6 :: a7 :: a8 :: a9 :: a10 :: a11 :: a12 :: a13 :: some (.long x) :: t) st h := by
  intro H locs ls cells slots h1 h2 hP hS hl
  exact lv_lload G.1 G.2.1 d (hl.at (i := 14) rfl) (kk H locs ls cells slots h1 h2 hP hS hl)
theorem x_lstore14 (G : GX p l R s m args meth c k A own cc nL ret) {a0 a1 a2 a3 a4 a5 a6 a7 a8 a9 a10 a11 a12 a13 : Option Value} {o o2 : Option Value} {t : List (Option Value)} {x : Int64} (d : decode cc pc = .ok (.lstore 14, 2)) (hn : 14 + 1 < nL) (hc : lp_c2 a13 = false)  (kk : Wx p l e R s m args below meth c k A nL Q bc bs (pc + 2) (a0 :: a1 :: a2 :: a3 :: a4 :: a5 :: a6 :: a7 :: a8 :: a9 :: a10 :: a11 :: a12 :: a13 :: some (.long x) :: none :: t) st h) : Wx p l e R s m args below meth c k A nL Q bc bs pc (a0 :: a1 :: a2 :: a3 :: a4 :: a5 :: a6 :: a7 :: a8 :: a9 :: a10 :: a11 :: a12 :: a13 :: o :: o2 :: t) (.long x :: st) h := by
  intro H locs ls cells slots h1 h2 hP hS hl
  exact lv_lstore G.1 G.2.1 d hl.lv hn rfl (fun ls9 k9 => kk H locs ls9 cells slots h1 h2 hP hS (lp_of2 (P := [a0, a1, a2, a3, a4, a5, a6, a7, a8, a9, a10, a11, a12, a13]) (o := o) (o2 := o2) (ls := ls) rfl (lp_lastc rfl hc) k9))
theorem x_aload14 (G : GX p l R s m args meth c k A own cc nL ret) {a0 a1 a2 a3 a4 a5 a6 a7 a8 a9 a10 a11 a12 a13 : Option Value} {t : List (Option Value)} {x : Nat} (d : decode cc pc = .ok (.aload 14, 2)) (kk : Wx p l e R s m args below meth c k A nL Q bc bs (pc + 2) (a0 :: a1 :: a2 :: a3 :: a4 :: a5 :: a6 :: a7 :: a8 :: a9 :: a10 :: a11 :: a12 :: a13 :: some (.ref x) :: t) (.ref x :: st) h) : Wx p l e R s m args below meth c k A nL Q bc bs pc (a0 :: a1 :: a2 :: a3 :: a4 :: a5 :: a6 :: a7 :: a8 :: a9 :: a10 :: a11 :: a12 :: a13 :: some (.ref x) :: t) st h := by
  intro H locs ls cells slots h1 h2 hP hS hl
  exact lv_aload G.1 G.2.1 d (hl.at (i := 14) rfl) (kk H locs ls cells slots h1 h2 hP hS hl)
theorem x_astore14 (G : GX p l R s m args meth c k A own cc nL ret) {a0 a1 a2 a3 a4 a5 a6 a7 a8 a9 a10 a11 a12 a13 : Option Value} {o : Option Value} {t : List (Option Value)} {x : Nat} (d : decode cc pc = .ok (.astore 14, 2)) (hn : 14 < nL) (hc : lp_c2 a13 = false)  (kk : Wx p l e R s m args below meth c k A nL Q bc bs (pc + 2) (a0 :: a1 :: a2 :: a3 :: a4 :: a5 :: a6 :: a7 :: a8 :: a9 :: a10 :: a11 :: a12 :: a13 :: some (.ref x) :: t) st h) : Wx p l e R s m args below meth c k A nL Q bc bs pc (a0 :: a1 :: a2 :: a3 :: a4 :: a5 :: a6 :: a7 :: a8 :: a9 :: a10 :: a11 :: a12 :: a13 :: o :: t) (.ref x :: st) h := by
  intro H locs ls cells slots h1 h2 hP hS hl
  exact lv_astore G.1 G.2.1 d hl.lv hn rfl (fun ls9 k9 => kk H locs ls9 cells slots h1 h2 hP hS (lp_of1 (P := [a0, a1, a2, a3, a4, a5, a6, a7, a8, a9, a10, a11, a12, a13]) (o := o) (ls := ls) rfl (lp_lastc rfl hc) k9))
theorem x_astoreN14 (G : GX p l R s m args meth c k A own cc nL ret) {a0 a1 a2 a3 a4 a5 a6 a7 a8 a9 a10 a11 a12 a13 : Option Value} {o : Option Value} {t : List (Option Value)} (d : decode cc pc = .ok (.astore 14, 2)) (hn : 14 < nL) (hc : lp_c2 a13 = false)  (kk : Wx p l e R s m args below meth c k A nL Q bc bs (pc + 2) (a0 :: a1 :: a2 :: a3 :: a4 :: a5 :: a6 :: a7 :: a8 :: a9 :: a10 :: a11 :: a12 :: a13 :: some (.null) :: t) st h) : Wx p l e R s m args below meth c k A nL Q bc bs pc (a0 :: a1 :: a2 :: a3 :: a4 :: a5 :: a6 :: a7 :: a8 :: a9 :: a10 :: a11 :: a12 :: a13 :: o :: t) (.null :: st) h := by
  intro H locs ls cells slots h1 h2 hP hS hl
  exact lv_astoreN G.1 G.2.1 d hl.lv hn rfl (fun ls9 k9 => kk H locs ls9 cells slots h1 h2 hP hS (lp_of1 (P := [a0, a1, a2, a3, a4, a5, a6, a7, a8, a9, a10, a11, a12, a13]) (o := o) (ls := ls) rfl (lp_lastc rfl hc) k9))
theorem x_aloadN14 (G : GX p l R s m args meth c k A own cc nL ret) {a0 a1 a2 a3 a4 a5 a6 a7 a8 a9 a10 a11 a12 a13 : Option Value} {t : List (Option Value)} (d : decode cc pc = .ok (.aload 14, 2)) (kk : Wx p l e R s m args below meth c k A nL Q bc bs (pc + 2) (a0 :: a1 :: a2 :: a3 :: a4 :: a5 :: a6 :: a7 :: a8 :: a9 :: a10 :: a11 :: a12 :: a13 :: some .null :: t) (.null :: st) h) : Wx p l e R s m args below meth c k A nL Q bc bs pc (a0 :: a1 :: a2 :: a3 :: a4 :: a5 :: a6 :: a7 :: a8 :: a9 :: a10 :: a11 :: a12 :: a13 :: some .null :: t) st h := by
  intro H locs ls cells slots h1 h2 hP hS hl
  exact lv_aloadN G.1 G.2.1 d (hl.at (i := 14) rfl) (kk H locs ls cells slots h1 h2 hP hS hl)
theorem x_iinc14 (G : GX p l R s m args meth c k A own cc nL ret) {a0 a1 a2 a3 a4 a5 a6 a7 a8 a9 a10 a11 a12 a13 : Option Value} {t : List (Option Value)} {x v : Int32} {n : Int} (d : decode cc pc = .ok (.iinc 14 n, 3)) (hv : x + Int32.ofInt n = v) (hn : 14 < nL) (hc : lp_c2 a13 = false) (kk : Wx p l e R s m args below meth c k A nL Q bc bs (pc + 3) (a0 :: a1 :: a2 :: a3 :: a4 :: a5 :: a6 :: a7 :: a8 :: a9 :: a10 :: a11 :: a12 :: a13 :: some (.int v) :: t) st h) : Wx p l e R s m args below meth c k A nL Q bc bs pc (a0 :: a1 :: a2 :: a3 :: a4 :: a5 :: a6 :: a7 :: a8 :: a9 :: a10 :: a11 :: a12 :: a13 :: some (.int x) :: t) st h := by
  intro H locs ls cells slots h1 h2 hP hS hl
  obtain ⟨kq, hkq⟩ := List.getElem?_of_mem ((lp_l_mem (a0 :: a1 :: a2 :: a3 :: a4 :: a5 :: a6 :: a7 :: a8 :: a9 :: a10 :: a11 :: a12 :: a13 :: some (.int x) :: t) 0 14 (.int x)).mpr ⟨14, (Nat.zero_add _).symm, rfl⟩)
  exact lv_iinc G.1 G.2.1 d hl.lv hkq hv hn rfl (fun ls9 k9 => kk H locs ls9 cells slots h1 h2 hP hS (lp_of1 (P := [a0, a1, a2, a3, a4, a5, a6, a7, a8, a9, a10, a11, a12, a13]) (o := some (.int x)) (ls := ls) rfl (lp_lastc rfl hc) k9))
end XL
