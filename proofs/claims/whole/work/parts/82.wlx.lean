theorem wl_X0 {k : KC} {qs : List Nat} (hn : qs.Nodup) (hl : qs.length = 59) : wl (cW k (X0 qs) sZ) = List.zipWith (fun q r => (q, cE k (X0 qs) sZ r.1 r.2)) qs RL0 := by
  show qs.map (fun a => (a, (cW k (X0 qs) sZ).2 a)) = _
  refine List.ext_getElem ?_ (fun n h1 h2 => ?_)
  · rw [List.length_map, List.length_zipWith, hl, rl0_len]
    rfl
  · have h3 : n < 59 := by rw [List.length_map, hl] at h1; exact h1
    rw [List.getElem_map, List.getElem_zipWith]
    have e1 : xTg (X0 qs) qs[n] = some (RL0[n]'(by rw [rl0_len]; exact h3)) := by
      show RL0[qs.idxOf qs[n]]? = _
      rw [List.Nodup.idxOf_getElem hn n _]
      exact List.getElem?_eq_getElem _
    refine congrArg (Prod.mk _) ?_
    show (match xTg (X0 qs) qs[n] with | some r => cE k (X0 qs) sZ r.1 r.2 | none => xGb (X0 qs) qs[n]) = _
    rw [e1]
