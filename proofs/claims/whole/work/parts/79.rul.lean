theorem wl_up_of {W : Wd} {l1 l2 : List (Nat × va_E)} {b : Nat} {e e2 : va_E} (hW : wl W = l1 ++ (b, e) :: l2) (hn : ND (l1 ++ (b, e) :: l2)) : wl (W.1, va_up W.2 b e2) = l1 ++ (b, e2) :: l2 := by
  have h1 : W.1 = (l1 ++ (b, e) :: l2).map Prod.fst := by
    rw [← hW]
    show W.1 = (W.1.map (fun a => (a, W.2 a))).map Prod.fst
    rw [List.map_map]
    exact (List.map_id W.1).symm
  have h2 : ∀ x ∈ l1 ++ (b, e) :: l2, W.2 x.1 = x.2 := fun x hx => by
    rw [← hW] at hx
    obtain ⟨a, -, ea⟩ := List.mem_map.mp (show x ∈ W.1.map (fun a => (a, W.2 a)) from hx)
    rw [← ea]
  refine wl_ext ?_ (fun x hx => ?_)
  · show W.1 = _
    rw [h1]
    simp
  · rcases List.mem_append.mp hx with y | y
    · have hne := nd_ne hn (x := x) (List.mem_append_left _ y)
      show va_up W.2 b e2 x.1 = x.2
      rw [va_up_ne _ _ hne]
      exact h2 x (List.mem_append_left _ y)
    · rcases List.mem_cons.mp y with z | z
      · rw [z]; exact va_up_self _ _ _
      · have hne := nd_ne hn (x := x) (List.mem_append_right _ z)
        show va_up W.2 b e2 x.1 = x.2
        rw [va_up_ne _ _ hne]
        exact h2 x (List.mem_append_right _ (List.mem_cons_of_mem _ z))
section RUL
variable {p : Program} {l : Launch} {e : Env} {R : Room} {s : State} {m : MethodId} {args : Array Value} {below : List Frame} {meth : Method} {c : Code}
variable {k : KC} {A : Nat → Prop} {nL : Nat} {Q : State → Prop} {bc bs pc : Nat} {L : List (Option Value)} {st : List Value} {own : String} {cc : ByteArray} {ret : Option FieldType}
variable {l1 l2 : List (Nat × va_E)} {a b q : Nat} {e1 e2 e3 e4 : va_E}
theorem o_foc (hw : ND (l1 ++ (a, e1) :: l2)) (kk : Wx p l e R s m args below meth c k A nL Q bc bs pc L st ((wO (l1 ++ (a, e1) :: l2)).1, va_up (wO (l1 ++ (a, e1) :: l2)).2 a e1)) : Wx p l e R s m args below meth c k A nL Q bc bs pc L st (wO (l1 ++ (a, e1) :: l2)) := Wx_congr ((wl_upO hw).trans (wl_wO hw).symm) kk
theorem o_unf (hw : ND (l1 ++ (a, e1) :: l2)) (kk : ND (l1 ++ (a, e2) :: l2) → Wx p l e R s m args below meth c k A nL Q bc bs pc L st (wO (l1 ++ (a, e2) :: l2))) : Wx p l e R s m args below meth c k A nL Q bc bs pc L st ((wO (l1 ++ (a, e1) :: l2)).1, va_up (wO (l1 ++ (a, e1) :: l2)).2 a e2) := Wx_congr ((wl_wO (nd_sub hw)).trans (wl_upO hw).symm) (kk (nd_sub hw))
theorem o_nw {t : List (Nat × va_E)} (hw : ND t) (hq : q ∉ (wO t).1) (kk : ND (t ++ [(q, e1)]) → Wx p l e R s m args below meth c k A nL Q bc bs pc L st (wO (t ++ [(q, e1)]))) : Wx p l e R s m args below meth c k A nL Q bc bs pc L st ((wO t).1 ++ [q], va_up (wO t).2 q e1) := Wx_congr ((wl_wO (nd_new hw hq)).trans (wl_neO hw hq).symm) (kk (nd_new hw hq))
/-- a list's first element: its array is new -/
theorem o_az (hw : ND (l1 ++ (b, e1) :: l2)) (hq : q ∉ (wO (l1 ++ (b, e1) :: l2)).1) (kk : ND (l1 ++ (b, e2) :: (l2 ++ [(q, e3)])) → Wx p l e R s m args below meth c k A nL Q bc bs pc L st (wO (l1 ++ (b, e2) :: (l2 ++ [(q, e3)])))) : Wx p l e R s m args below meth c k A nL Q bc bs pc L st ((wO (l1 ++ (b, e1) :: l2)).1 ++ [q], va_up (va_up (wO (l1 ++ (b, e1) :: l2)).2 q e3) b e2) := by
  have h1 := nd_new (e := e3) hw hq
  have e9 : (l1 ++ (b, e1) :: l2) ++ [(q, e3)] = l1 ++ (b, e1) :: (l2 ++ [(q, e3)]) := by simp
  have h2 := wl_neO (e := e3) hw hq
  rw [e9] at h1 h2
  refine Wx_congr (h2 := wO (l1 ++ (b, e2) :: (l2 ++ [(q, e3)]))) ?_ (kk (nd_sub h1))
  exact (wl_wO (nd_sub h1)).trans (wl_up_of (e2 := e2) h2 h1).symm
/-- an element more: array and list -/
theorem o_ai {l3 l4 : List (Nat × va_E)} (hw : ND (l1 ++ (a, e1) :: l2)) (ht : l1 ++ (a, e2) :: l2 = l3 ++ (b, e3) :: l4) (kk : ND (l3 ++ (b, e4) :: l4) → Wx p l e R s m args below meth c k A nL Q bc bs pc L st (wO (l3 ++ (b, e4) :: l4))) : Wx p l e R s m args below meth c k A nL Q bc bs pc L st ((wO (l1 ++ (a, e1) :: l2)).1, va_up (va_up (wO (l1 ++ (a, e1) :: l2)).2 a e2) b e4) := by
  have h1 := nd_sub (e2 := e2) hw
  have h2 := wl_upO (e2 := e2) hw
  rw [ht] at h1 h2
  refine Wx_congr (h2 := wO (l3 ++ (b, e4) :: l4)) ?_ (kk (nd_sub h1))
  exact (wl_wO (nd_sub h1)).trans (wl_up_of (e2 := e4) h2 h1).symm
end RUL
