theorem dj_nd {t u : List (Nat × va_E)} (h : ND (t ++ u)) : DJ (wO t) (wO u) := by
  unfold ND at h
  rw [List.map_append, List.nodup_append] at h
  exact fun a ha z => h.2.2 a z a ha rfl
theorem dj_nd_s {t u : List (Nat × va_E)} (h : ND (t ++ u)) : DJ (wO u) (wO t) := fun a ha z => dj_nd h a z ha
theorem nd_l {t u : List (Nat × va_E)} (h : ND (t ++ u)) : ND t := by
  unfold ND at h
  rw [List.map_append, List.nodup_append] at h
  exact h.1
theorem nd_r {t u : List (Nat × va_E)} (h : ND (t ++ u)) : ND u := by
  unfold ND at h
  rw [List.map_append, List.nodup_append] at h
  exact h.2.1
theorem nd_dj {t u : List (Nat × va_E)} (h1 : ND t) (h2 : ND u) (h : DJ (wO u) (wO t)) : ND (t ++ u) := by
  unfold ND at h1 h2 ⊢
  rw [List.map_append, List.nodup_append]
  exact ⟨h1, h2, fun a ha b hb e => h a ha (e ▸ hb)⟩
section RULB
variable {p : Program} {l : Launch} {e : Env} {R : Room} {s : State} {m : MethodId} {args : Array Value} {below : List Frame} {meth : Method} {c : Code}
variable {k : KC} {A : Nat → Prop} {nL : Nat} {Q : State → Prop} {bc bs pc : Nat} {L : List (Option Value)} {st : List Value} {t u : List (Nat × va_E)}
theorem o_frI (hw : ND (t ++ u)) (kk : Wx p l e R s m args below meth c k A nL Q bc bs pc L st (wu (wO u) (wO t))) : Wx p l e R s m args below meth c k A nL Q bc bs pc L st (wO (t ++ u)) := by
  have hd := dj_nd hw
  refine Wx_congr (h2 := wu (wO t) (wO u)) ?_ (Wx_perm hd kk)
  rw [wl_wu hd, wl_wO (nd_l hw), wl_wO (nd_r hw), wl_wO hw]
theorem o_frO (h1 : ND t) (h2 : ND u) (hd : DJ (wO u) (wO t)) (kk : ND (t ++ u) → Wx p l e R s m args below meth c k A nL Q bc bs pc L st (wO (t ++ u))) : Wx p l e R s m args below meth c k A nL Q bc bs pc L st (wu (wO u) (wO t)) := by
  have hw := nd_dj h1 h2 hd
  refine Wx_perm hd ?_
  refine Wx_congr (h2 := wO (t ++ u)) ?_ (kk hw)
  rw [wl_wu (dj_nd hw), wl_wO h1, wl_wO h2, wl_wO hw]
end RULB
