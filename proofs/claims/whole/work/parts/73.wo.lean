/-- a world as a list of its cells -/
def wO (l : List (Nat × va_E)) : Wd := (l.map Prod.fst, fun a => (l.lookup a).getD (.inr (0, [])))
def ND (l : List (Nat × va_E)) : Prop := (l.map Prod.fst).Nodup
theorem lk_mid {l1 l2 : List (Nat × va_E)} {a : Nat} {e : va_E} (h : ND (l1 ++ (a, e) :: l2)) : (wO (l1 ++ (a, e) :: l2)).2 a = e := by
  show ((l1 ++ (a, e) :: l2).lookup a).getD (.inr (0, [])) = e
  have key : ∀ l1 : List (Nat × va_E), ND (l1 ++ (a, e) :: l2) → (l1 ++ (a, e) :: l2).lookup a = some e := fun l1 => by
    induction l1 with
    | nil => intro _; simp [List.lookup]
    | cons x t ih =>
      intro hn
      have hn2 : (x.1 :: (t ++ (a, e) :: l2).map Prod.fst).Nodup := hn
      rw [List.nodup_cons] at hn2
      have hne : a ≠ x.1 := fun z => hn2.1 (by rw [← z]; exact List.mem_map.mpr ⟨(a, e), List.mem_append_right _ List.mem_cons_self, rfl⟩)
      show (x :: (t ++ (a, e) :: l2)).lookup a = some e
      obtain ⟨x1, x2⟩ := x
      have hb : (a == x1) = false := beq_eq_false_iff_ne.mpr hne
      simp only [List.lookup, hb]
      exact ih hn2.2
  rw [key l1 h]
  rfl
theorem mem_mid {l1 l2 : List (Nat × va_E)} {a : Nat} {e : va_E} : a ∈ (wO (l1 ++ (a, e) :: l2)).1 := List.mem_map.mpr ⟨(a, e), List.mem_append_right _ List.mem_cons_self, rfl⟩
theorem wl_wO {l : List (Nat × va_E)} (h : ND l) : wl (wO l) = l := by
  show (l.map Prod.fst).map (fun a => (a, (wO l).2 a)) = l
  rw [List.map_map]
  have key : ∀ x ∈ l, ((fun a => (a, (wO l).2 a)) ∘ Prod.fst) x = x := fun x hx => by
    obtain ⟨l1, l2, e⟩ := List.append_of_mem hx
    obtain ⟨x1, x2⟩ := x
    have h2 := h
    rw [e] at h2
    have e2 := lk_mid h2
    rw [← e] at e2
    show (x1, (wO l).2 x1) = (x1, x2)
    rw [e2]
  calc l.map ((fun a => (a, (wO l).2 a)) ∘ Prod.fst) = l.map id := List.map_congr_left key
    _ = l := List.map_id l
theorem wl_ext {h : Wd} {l : List (Nat × va_E)} (h1 : h.1 = l.map Prod.fst) (h2 : ∀ x ∈ l, h.2 x.1 = x.2) : wl h = l := by
  show h.1.map (fun a => (a, h.2 a)) = l
  rw [h1, List.map_map]
  calc l.map ((fun a => (a, h.2 a)) ∘ Prod.fst) = l.map id := List.map_congr_left fun x hx => by
        show (x.1, h.2 x.1) = x
        rw [h2 x hx]
    _ = l := List.map_id l
theorem nd_sub {l1 l2 : List (Nat × va_E)} {a : Nat} {e e2 : va_E} (h : ND (l1 ++ (a, e) :: l2)) : ND (l1 ++ (a, e2) :: l2) := by
  unfold ND at h ⊢
  simpa using h
theorem nd_new {l : List (Nat × va_E)} {q : Nat} {e : va_E} (h : ND l) (hq : q ∉ (wO l).1) : ND (l ++ [(q, e)]) := by
  unfold ND
  rw [List.map_append, List.nodup_append]
  refine ⟨h, by simp, fun a ha b hb => ?_⟩
  have e2 : b = q := by simpa using hb
  rw [e2]
  exact fun z => hq (z ▸ ha)
theorem nd_ne {l1 l2 : List (Nat × va_E)} {a : Nat} {e : va_E} (h : ND (l1 ++ (a, e) :: l2)) {x : Nat × va_E} (hx : x ∈ l1 ++ l2) : x.1 ≠ a := fun z => by
  unfold ND at h
  rw [List.map_append, List.map_cons, List.nodup_append, List.nodup_cons] at h
  obtain ⟨g1, ⟨g2, g3⟩, g4⟩ := h
  rcases List.mem_append.mp hx with y | y
  · exact g4 x.1 (List.mem_map.mpr ⟨x, y, rfl⟩) a List.mem_cons_self z
  · exact g2 (by rw [← z]; exact List.mem_map.mpr ⟨x, y, rfl⟩)
theorem wl_upO {l1 l2 : List (Nat × va_E)} {a : Nat} {e e2 : va_E} (h : ND (l1 ++ (a, e) :: l2)) : wl ((wO (l1 ++ (a, e) :: l2)).1, va_up (wO (l1 ++ (a, e) :: l2)).2 a e2) = l1 ++ (a, e2) :: l2 := by
  refine wl_ext ?_ (fun x hx => ?_)
  · show (l1 ++ (a, e) :: l2).map Prod.fst = (l1 ++ (a, e2) :: l2).map Prod.fst
    simp
  · rcases List.mem_append.mp hx with y | y
    · have hne := nd_ne h (x := x) (List.mem_append_left _ y)
      show va_up (wO (l1 ++ (a, e) :: l2)).2 a e2 x.1 = x.2
      rw [va_up_ne _ _ hne]
      obtain ⟨m1, m2, em⟩ := List.append_of_mem (show x ∈ l1 ++ (a, e) :: l2 from List.mem_append_left _ y)
      rw [em]
      rw [em] at h
      exact lk_mid h
    · rcases List.mem_cons.mp y with z | z
      · rw [z]; exact va_up_self _ _ _
      · have hne := nd_ne h (x := x) (List.mem_append_right _ z)
        show va_up (wO (l1 ++ (a, e) :: l2)).2 a e2 x.1 = x.2
        rw [va_up_ne _ _ hne]
        obtain ⟨m1, m2, em⟩ := List.append_of_mem (show x ∈ l1 ++ (a, e) :: l2 from List.mem_append_right _ (List.mem_cons_of_mem _ z))
        rw [em]
        rw [em] at h
        exact lk_mid h
theorem wl_neO {l : List (Nat × va_E)} {q : Nat} {e : va_E} (h : ND l) (hq : q ∉ (wO l).1) : wl ((wO l).1 ++ [q], va_up (wO l).2 q e) = l ++ [(q, e)] := by
  rw [← wl_push hq, wl_wO h]
section WO
variable {p : Program} {l : Launch} {e : Env} {R : Room} {s : State} {m : MethodId} {args : Array Value} {below : List Frame} {meth : Method} {c : Code}
variable {k : KC} {A : Nat → Prop} {nL : Nat} {Q : State → Prop} {bc bs pc : Nat} {L : List (Option Value)} {st : List Value} {own : String} {cc : ByteArray} {ret : Option FieldType} {w : List (Nat × va_E)}
theorem o_inewa (G : GX p l R s m args meth c k A own cc nL ret) {x : Nat × va_E} {t : List (Nat × va_E)} (hw : ND (x :: t)) {n : Int32} {N bc1 bs1 : Nat} (hn : ¬ n < 0) (hN : n.toNatClampNeg = N) (hby : N * componentBytes .int ≤ 536870912) (hb1 : bc1 + 1 ≤ bc) (hb2 : bs1 + N ≤ bs) (d : decode cc pc = .ok (.newarray .int, 2)) (kk : ∀ q : Nat, ND (x :: (t ++ [(q, .inl (k.2.1, N, .inl (fun _ => (0 : Int32))))])) → Wx p l e R s m args below meth c k A nL Q bc1 bs1 (pc + 2) L (.ref q :: st) (wO (x :: (t ++ [(q, .inl (k.2.1, N, .inl (fun _ => (0 : Int32))))])))) : Wx p l e R s m args below meth c k A nL Q bc bs pc L (.int n :: st) (wO (x :: t)) :=
  x_inewa G q_ac_int hn hN hby hb1 hb2 d (fun q hq => Wx_congr ((wl_wO (nd_new hw hq)).trans (wl_neO hw hq).symm) (kk q (nd_new hw hq)))
theorem o_lnewa (G : GX p l R s m args meth c k A own cc nL ret) {x : Nat × va_E} {t : List (Nat × va_E)} (hw : ND (x :: t)) {n : Int32} {N bc1 bs1 : Nat} (hn : ¬ n < 0) (hN : n.toNatClampNeg = N) (hby : N * componentBytes .long ≤ 536870912) (hb1 : bc1 + 1 ≤ bc) (hb2 : bs1 + N ≤ bs) (d : decode cc pc = .ok (.newarray .long, 2)) (kk : ∀ q : Nat, ND (x :: (t ++ [(q, .inl (k.2.2.1, N, .inr (.inl (fun _ => (0 : Int64)))))])) → Wx p l e R s m args below meth c k A nL Q bc1 bs1 (pc + 2) L (.ref q :: st) (wO (x :: (t ++ [(q, .inl (k.2.2.1, N, .inr (.inl (fun _ => (0 : Int64)))))])))) : Wx p l e R s m args below meth c k A nL Q bc bs pc L (.int n :: st) (wO (x :: t)) :=
  x_lnewa G q_ac_long hn hN hby hb1 hb2 d (fun q hq => Wx_congr ((wl_wO (nd_new hw hq)).trans (wl_neO hw hq).symm) (kk q (nd_new hw hq)))
theorem o_znewa (G : GX p l R s m args meth c k A own cc nL ret) {x : Nat × va_E} {t : List (Nat × va_E)} (hw : ND (x :: t)) {n : Int32} {N bc1 bs1 : Nat} (hn : ¬ n < 0) (hN : n.toNatClampNeg = N) (hby : N * componentBytes .boolean ≤ 536870912) (hb1 : bc1 + 1 ≤ bc) (hb2 : bs1 + N ≤ bs) (d : decode cc pc = .ok (.newarray .boolean, 2)) (kk : ∀ q : Nat, ND (x :: (t ++ [(q, .inl (k.2.2.2.1, N, .inl (fun _ => (0 : Int32))))])) → Wx p l e R s m args below meth c k A nL Q bc1 bs1 (pc + 2) L (.ref q :: st) (wO (x :: (t ++ [(q, .inl (k.2.2.2.1, N, .inl (fun _ => (0 : Int32))))])))) : Wx p l e R s m args below meth c k A nL Q bc bs pc L (.int n :: st) (wO (x :: t)) :=
  x_znewa G q_ac_boolean hn hN hby hb1 hb2 d (fun q hq => Wx_congr ((wl_wO (nd_new hw hq)).trans (wl_neO hw hq).symm) (kk q (nd_new hw hq)))
/-- a final field of the reference, in its constructor -/
theorem o_putF (G : GX p l R s m args meth c k A RX11 cc nL ret) {mo idx j : Nat} {fs : List Value} {v : Nat} {t : List (Nat × va_E)} (hw : ND ((mo, .inr (12, fs)) :: t)) (hlen : fs.length = 66) (hini : meth.name = "<init>") (hg : gF idx j) (hfin : (TX11 j).2.2.2 = true) (hn : narrow (tyX11 j) (.ref v) = .ref v) (hfit : fits (tyX11 j) (.ref v) = true) (d : decode cc pc = .ok (.putfield idx, 3)) (kk : ND ((mo, .inr (12, fs.set j (.ref v))) :: t) → (fs.set j (.ref v)).length = 66 → Wx p l e R s m args below meth c k A nL Q bc bs (pc + 3) L st (wO ((mo, .inr (12, fs.set j (.ref v))) :: t))) : Wx p l e R s m args below meth c k A nL Q bc bs pc L (.ref v :: .ref mo :: st) (wO ((mo, .inr (12, fs)) :: t)) := by
  have h9 := lk_mid (l1 := []) hw
  have hnd : ND ((mo, .inr (12, fs.set j (.ref v))) :: t) := nd_sub (l1 := []) hw
  refine x_putF G (mem_mid (l1 := [])) h9 (C := RX11) (T := TX11) (N := 66) rfl i_X11 hg.1 hg.2.1 (by rw [hg.2.2]; exact fun _ h => h) tyX11 tyX11_ok nmX11 hfin hini hg.2.2 hn hfit (by rw [hlen]; exact hg.1) d ?_
  exact Wx_congr ((wl_wO hnd).trans (wl_upO (l1 := []) hw).symm) (kk hnd (by rw [List.length_set]; exact hlen))
theorem o_putI (G : GX p l R s m args meth c k A RX11 cc nL ret) {mo idx j : Nat} {fs : List Value} {v : Int32} {t : List (Nat × va_E)} (hw : ND ((mo, .inr (12, fs)) :: t)) (hlen : fs.length = 66) (hg : pFI idx j) (d : decode cc pc = .ok (.putfield idx, 3)) (kk : ND ((mo, .inr (12, fs.set j (.int v))) :: t) → (fs.set j (.int v)).length = 66 → Wx p l e R s m args below meth c k A nL Q bc bs (pc + 3) L st (wO ((mo, .inr (12, fs.set j (.int v))) :: t))) : Wx p l e R s m args below meth c k A nL Q bc bs pc L (.int v :: .ref mo :: st) (wO ((mo, .inr (12, fs)) :: t)) := by
  have h9 := lk_mid (l1 := []) hw
  have hnd : ND ((mo, .inr (12, fs.set j (.int v))) :: t) := nd_sub (l1 := []) hw
  refine x_putf G (mem_mid (l1 := [])) h9 (C := RX11) (T := TX11) (N := 66) rfl i_X11 hg.1.1 hg.1.2.1 (by rw [hg.1.2.2]; exact fun _ h => h) tyX11 tyX11_ok nmX11 hg.2.1 (by rw [hg.2.2]; rfl) (by rw [hg.2.2]; rfl) (by rw [hlen]; exact hg.1.1) d ?_
  exact Wx_congr ((wl_wO hnd).trans (wl_upO (l1 := []) hw).symm) (kk hnd (by rw [List.length_set]; exact hlen))
end WO
theorem wl_mW {k : KC} {mo : Nat} {ad : Nat → Nat} {M : MS} (hH : HM mo ad) : wl (mW k mo ad M) = (mo, .inr (12, mF ad M)) :: mAL.map (fun j => (ad j, mCell k M j)) := by
  refine wl_ext ?_ (fun x hx => ?_)
  · show mo :: mAL.map ad = mo :: (mAL.map (fun j => (ad j, mCell k M j))).map Prod.fst
    rw [List.map_map]
    rfl
  · rcases List.mem_cons.mp hx with z | z
    · rw [z]; exact if_pos rfl
    · obtain ⟨j, hj, e⟩ := List.mem_map.mp z
      rw [← e]
      show (if ad j = mo then _ else mAt k ad M mAL (ad j)) = mCell k M j
      rw [if_neg (hH.1 j hj)]
      exact mAt_at mAL j hj (fun i hi e => hH.2 i hi j hj e)
theorem inj_nd {f : Nat → Nat} : ∀ (L : List Nat), (L.map f).Nodup → ∀ i ∈ L, ∀ j ∈ L, f i = f j → i = j
  | [], _, _, h, _, _, _ => by cases h
  | x :: t, hn, i, hi, j, hj, e => by
    rw [List.map_cons, List.nodup_cons] at hn
    rcases List.mem_cons.mp hi with a | a <;> rcases List.mem_cons.mp hj with b | b
    · rw [a, b]
    · exact absurd (List.mem_map.mpr ⟨j, b, by rw [← e, a]⟩) hn.1
    · exact absurd (List.mem_map.mpr ⟨i, a, by rw [e, b]⟩) hn.1
    · exact inj_nd t hn.2 i a j b e
theorem HM_of {mo : Nat} {ad : Nat → Nat} (h : (mo :: mAL.map ad).Nodup) : HM mo ad := by
  rw [List.nodup_cons] at h
  exact ⟨fun j hj e => h.1 (List.mem_map.mpr ⟨j, hj, e⟩), inj_nd mAL h.2⟩
