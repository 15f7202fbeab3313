theorem dl_0 : decode cL_law 0 = .ok (.new 8, 3) := by decide +kernel
theorem dl_3 : decode cL_law 3 = .ok (.dup, 1) := by decide +kernel
theorem dl_4 : decode cL_law 4 = .ok (.invokespecial 162, 3) := by decide +kernel
theorem dl_7 : decode cL_law 7 = .ok (.astore_n 1, 1) := by decide +kernel
theorem dl_8 : decode cL_law 8 = .ok (.new 163, 3) := by decide +kernel
theorem dl_11 : decode cL_law 11 = .ok (.dup, 1) := by decide +kernel
theorem dl_12 : decode cL_law 12 = .ok (.invokespecial 165, 3) := by decide +kernel
theorem dl_15 : decode cL_law 15 = .ok (.astore_n 2, 1) := by decide +kernel
theorem dl_16 : decode cL_law 16 = .ok (.iconst 1, 1) := by decide +kernel
theorem dl_17 : decode cL_law 17 = .ok (.newarray .long, 2) := by decide +kernel
theorem dl_19 : decode cL_law 19 = .ok (.astore_n 3, 1) := by decide +kernel
theorem dl_20 : decode cL_law 20 = .ok (.iconst 0, 1) := by decide +kernel
theorem dl_21 : decode cL_law 21 = .ok (.istore 4, 2) := by decide +kernel
theorem dl_3254 : decode cL_law 3254 = .ok (.iconst 1, 1) := by decide +kernel
theorem dl_3255 : decode cL_law 3255 = .ok (.ireturn, 1) := by decide +kernel
set_option maxRecDepth 100000 in
theorem m_laU : Cond.laysStatic Bundle.tN "UNASSIGNED_STACK" Bundle.steD ∈ lw_tbl := by decide +kernel
set_option maxRecDepth 100000 in
theorem m_laS : Cond.laysStatic Bundle.tN "SUPPRESSED_SENTINEL" Bundle.listD ∈ lw_tbl := by decide +kernel
set_option maxRecDepth 100000 in
theorem m_laD : Cond.laysStatic RJx4a65c "DEFAULTCAPACITY_EMPTY_ELEMENTDATA" "[Ljava/lang/Object;" ∈ lw_tbl := by decide +kernel
set_option maxRecDepth 100000 in
theorem m_inT : Cond.initialized Bundle.tN ∈ lw_tbl := by decide +kernel
set_option maxRecDepth 100000 in
theorem m_irU : Cond.isRef (.static Bundle.tN "UNASSIGNED_STACK" Bundle.steD) ∈ flatC (Jvm.Cond.and given_1 narrow_1) := by decide +kernel
set_option maxRecDepth 100000 in
theorem m_irS : Cond.isRef (.static Bundle.tN "SUPPRESSED_SENTINEL" Bundle.listD) ∈ flatC (Jvm.Cond.and given_1 narrow_1) := by decide +kernel
set_option maxRecDepth 100000 in
theorem m_aoD : Cond.arrayOf (.static RJx4a65c "DEFAULTCAPACITY_EMPTY_ELEMENTDATA" "[Ljava/lang/Object;") (.object "java/lang/Object") ∈ flatC (Jvm.Cond.and given_1 narrow_1) := by decide +kernel
set_option maxRecDepth 100000 in
theorem m_leD : Cond.eq (.length (.static RJx4a65c "DEFAULTCAPACITY_EMPTY_ELEMENTDATA" "[Ljava/lang/Object;")) (.int 0) ∈ flatC (Jvm.Cond.and given_1 narrow_1) := by decide +kernel
theorem wl_nil : wl (wO []) = [] := rfl
theorem fr_nil {sz q : Nat} : fr (wO []) sz q ↔ sz ≤ q := by
  refine ⟨fun h => ?_, Or.inr⟩
  rcases h with ⟨i, e, h⟩ | h
  · cases h
  · exact h
theorem pp_nil {k : KC} {A : Nat → Prop} {H : Heap} : PP k A (wO []) H := by
  refine ⟨fun i q h => ?_, fun i j x y h _ _ => ?_, fun i q h => ?_⟩
  · have h2 : ([] : va_W)[i]? = some q := h
    simp at h2
  · have h2 : ([] : va_W)[i]? = some x := h
    simp at h2
  · have h2 : ([] : va_W)[i]? = some q := h
    simp at h2
theorem zq_of {s : State} {args : Array Value} (hts : ∀ w ∈ lw_tbl, w.before args s = true) (hg : (Jvm.Cond.and given_1 narrow_1).before args s = true) : ∃ k : KC, EV k s ∧ ZQ k (fr (wO []) s.heap.size) s s.heap := by
  have hT : ∀ w ∈ TB, w.before args s = true := fun w hw => hts w (List.mem_filter.mp hw).1
  have hn := flat_of_before _ hg
  have hA : ∀ a : Nat, a < s.heap.size → ¬ fr (wO []) s.heap.size a := fun a ha z => by have := fr_nil.mp z; omega
  obtain ⟨d, hd, hTd⟩ := va_Tof (N := 0) (f := fun _ => .null) (by decide) (hn _ m_aoD) (va_eqt (hn _ m_leD)) (fun j hj => absurd hj (Nat.not_lt_zero _)) hA
  obtain ⟨k, hk, hkd⟩ := ev_of hts hg (d := d)
  refine ⟨k, hk, vx_Zqof (hts _ m_laU) (hts _ m_inT) (hn _ m_irU) hA, vx_Zqof (hts _ m_laS) (hts _ m_inT) (hn _ m_irS) hA, ?_, ?_⟩
  · rw [hkd]
    exact va_Zof (hts _ m_laD) (hT _ q_in_Jx4a65c) hd hA
  · rw [hkd]
    exact hTd
section WUX
variable {p : Program} {l : Launch} {e : Env} {R : Room} {s : State} {m : MethodId} {args : Array Value} {below : List Frame} {meth : Method} {c : Code}
variable {k : KC} {A : Nat → Prop} {nL : Nat} {Q : State → Prop} {bc bs pc : Nat} {L : List (Option Value)} {st : List Value} {g h : Wd} {q : Nat} {e1 : va_E}
theorem wl_one : wl (wO [(q, e1)]) = [(q, e1)] := wl_wO (List.nodup_cons.mpr ⟨List.not_mem_nil, List.nodup_nil⟩)
theorem dj_one (hq : q ∉ h.1) : DJ h (wO [(q, e1)]) := fun a ha z => by
  have e2 : a = q := List.mem_singleton.mp ha
  exact hq (e2 ▸ z)
/-- a new cell is a world of its own -/
theorem Wx_one (hq : q ∉ h.1) (kk : Wx p l e R s m args below meth c k A nL Q bc bs pc L st (wu h (wO [(q, e1)]))) : Wx p l e R s m args below meth c k A nL Q bc bs pc L st (h.1 ++ [q], va_up h.2 q e1) := by
  refine Wx_congr (h2 := wu h (wO [(q, e1)])) ?_ kk
  rw [wl_wu (dj_one hq), wl_one]
  exact wl_push hq
end WUX
theorem no_traces {l : Launch} (h : l.flags = flags0) : l.stackTraces = false := by
  unfold Launch.stackTraces
  rw [h]
  decide +kernel
set_option maxRecDepth 100000 in
set_option maxHeartbeats 4000000 in
theorem whole_start {p : Program} {e : Env} {s : State} {m : MethodId} {below : List Frame} {meth : Method} {c : Code} (l : Launch) (hflags : l.flags = flags0) {b L : Nat} {xs : Nat → Int32} (hL : L ≤ 4096) (C0 : lw_At p s m meth c b L xs) : W p l e room_1 s m #[Value.ref b] below meth c s.heap [] 0 0 (lw_Z below #[Value.ref b] s) (entryFrame m ([Value.ref b] : List Value).toArray 8) := by
  obtain ⟨hexec, hbytes, hret, hmaxL, hown, hts, hX, hbl, hlocks, hgv⟩ := C0
  have hl := no_traces hflags
  obtain ⟨k, hE, hZ⟩ := zq_of hts hgv
  have hT : ∀ w ∈ TB, w.before #[Value.ref b] s = true := fun w hw => hts w (List.mem_filter.mp hw).1
  have G : GX p l room_1 s m #[Value.ref b] meth c k (fr (wO []) s.heap.size) RL cL_law 8 ret := ⟨hexec, hbytes, hmaxL, hown, hT, hlocks, hE, hZ, fun q hq => fr_nil.mpr hq, hl, hret⟩
  have hbA : ¬ fr (wO []) s.heap.size b := fun z => by have := fr_nil.mp z; omega
  have hfin : ∀ (bb mo ao : Nat) (ad : Nat → Nat) i X S M f, LV9 k bb X S ao f mo ad M → Wx p l e room_1 s m #[Value.ref b] below meth c k (fr (wO []) s.heap.size) 8 (lw_Z below #[Value.ref b] s) 0 0 3254 [some (.ref b), some (.ref bb), some (.ref mo), some (.ref ao), some (.int (nI i)), none, none, none] [] (WL k X S ao f mo ad M) := fun bb mo ao ad i X S M f _ => by
    refine x_iconst (pc := 3254) (v := 1) G dl_3254 (by decide) ?_
    intro H locs ls cells slots h1 h2 hP hS hl9
    refine va_forget (fun q hq => fr_nil.mp (hS.2.2 q hq)) ?_
    refine W.widen (k := 601024) (n := 7293034) (Nat.le_trans (Nat.le_add_right _ _) h1) (Nat.le_trans (Nat.le_add_right _ _) h2) ?_
    exact lw_ret hexec hbytes hret hlocks dl_3255
  have K : Wx p l e room_1 s m #[Value.ref b] below meth c k (fr (wO []) s.heap.size) 8 (lw_Z below #[Value.ref b] s) 2000 70000 0 [some (.ref b), none, none, none, none, none, none, none] [] (wO []) := by
    refine x_new (pc := 0) (ci := 11) (N := 18) (C := RX10) (T := TX10) (fs := [.null, .null, .null, .null, .null, .null, .null, .null, .null, .null, .null, .int 0, .int 0, .int 0, .int 0, .long 0, .int 0, .int 0]) (bc1 := 1900) (bs1 := 69000) G i_X10 tyX10 tyX10_ok q_cl_L_8 q_it_X10 q_in_X10 rfl (by decide) (Nat.le_of_ble_eq_true rfl) (Nat.le_of_ble_eq_true rfl) dl_0 (fun bb hq => ?_)
    refine o_nw (t := []) List.nodup_nil hq (fun hw => ?_)
    refine x_dup (pc := 3) G dl_3 rfl ?_
    refine x_callI (pc := 4) (bc1 := 1700) (bs1 := 63000) (n := 0) (As := []) (st := [.ref bb]) G (in_Office hl) q_ml_L_162 q_im_yX10_init q_in_X10 q_co_yX10_init rfl ⟨by decide +kernel, by decide +kernel, by decide +kernel⟩ ⟨Nat.le_of_ble_eq_true rfl, Nat.le_of_ble_eq_true rfl⟩ (Nat.le_of_ble_eq_true rfl) (Nat.le_of_ble_eq_true rfl) (Nat.le_of_ble_eq_true rfl) rfl rfl dl_4 (fun v h9 hp => ?_)
    obtain ⟨qs, hn9, hl9, hq0, e1, rfl⟩ := hp
    cases e1
    have hIN := x0_in hn9 hl9
    have hb11 : xAd (X0 qs) 11 0 = bb := by
      show qs.getD (RL0.idxOf (11, 0)) 0 = bb
      rw [show RL0.idxOf (11, 0) = 0 from by decide +kernel]
      exact hq0
    refine x_astore1 (pc := 7) G dl_7 (by decide) rfl ?_
    refine x_new (pc := 8) (ci := 12) (N := 66) (C := RX11) (T := TX11) (fs := [.int 0, .int 0, .null, .int 0, .null, .null, .null, .null, .null, .null, .int 0, .null, .null, .int 0, .int 0, .null, .null, .null, .null, .null, .null, .null, .null, .null, .null, .null, .null, .null, .null, .null, .null, .null, .null, .null, .null, .null, .null, .int 0, .int 0, .int 0, .null, .null, .null, .null, .null, .null, .null, .null, .null, .null, .null, .null, .null, .null, .null, .null, .null, .int 0, .null, .int 0, .null, .null, .null, .long 0, .int 0, .int 0]) (bc1 := 1690) (bs1 := 62900) G i_X11 tyX11 tyX11_ok q_cl_L_163 q_it_X11 q_in_X11 rfl (by decide) (Nat.le_of_ble_eq_true rfl) (Nat.le_of_ble_eq_true rfl) dl_8 (fun mo hq2 => ?_)
    refine Wx_one hq2 ?_
    refine x_dup (pc := 11) G dl_11 rfl ?_
    have hd2 := dj_one (e1 := .inr (12, [.int 0, .int 0, .null, .int 0, .null, .null, .null, .null, .null, .null, .int 0, .null, .null, .int 0, .int 0, .null, .null, .null, .null, .null, .null, .null, .null, .null, .null, .null, .null, .null, .null, .null, .null, .null, .null, .null, .null, .null, .null, .int 0, .int 0, .int 0, .null, .null, .null, .null, .null, .null, .null, .null, .null, .null, .null, .null, .null, .null, .null, .null, .null, .int 0, .null, .int 0, .null, .null, .null, .long 0, .int 0, .int 0])) hq2
    refine Wx_perm hd2 ?_
    refine x_callI (pc := 12) (bc1 := 1600) (bs1 := 60000) (n := 0) (As := []) (st := [.ref mo]) G ((c_mini hl).frame (fun a ha z => hd2 a z ha)) q_ml_L_165 q_im_yX11_init q_in_X11 q_co_yX11_init rfl ⟨by decide +kernel, by decide +kernel, by decide +kernel⟩ ⟨Nat.le_of_ble_eq_true rfl, Nat.le_of_ble_eq_true rfl⟩ (Nat.le_of_ble_eq_true rfl) (Nat.le_of_ble_eq_true rfl) (Nat.le_of_ble_eq_true rfl) rfl rfl dl_12 (fun v h9 hp => ?_)
    obtain ⟨_, ⟨ad, hH, e1, rfl⟩, hd3, rfl⟩ := hp
    cases e1
    refine x_astore2 (pc := 15) G dl_15 (by decide) rfl ?_
    refine x_iconst (pc := 16) (v := 1) G dl_16 (by decide) ?_
    refine x_lnewa (pc := 17) (N := 1) (bc1 := 1590) (bs1 := 59000) G q_ac_long (by decide) (by decide) (Nat.le_of_ble_eq_true rfl) (Nat.le_of_ble_eq_true rfl) (Nat.le_of_ble_eq_true rfl) dl_17 (fun ao hq3 => ?_)
    have ham : ao ∉ (mW k mo ad mZ3).1 := fun z => hq3 (List.mem_append_left _ z)
    have hac : ao ∉ (cW k (X0 qs) sZ).1 := fun z => hq3 (List.mem_append_right _ z)
    have d1 : DJ (cW k (X0 qs) sZ) (oW k ao (fun _ => 0)) := fun a ha z => hac (List.mem_singleton.mp ha ▸ z)
    have d2 : DJ (wu (cW k (X0 qs) sZ) (oW k ao (fun _ => 0))) (mW k mo ad mZ3) := fun a ha z => by
      rcases List.mem_append.mp z with y | y
      · exact hd3 a y ha
      · exact ham (List.mem_singleton.mp y ▸ ha)
    refine Wx_congr (h2 := wu (mW k mo ad mZ3) (wu (cW k (X0 qs) sZ) (oW k ao (fun _ => 0)))) ?_ ?_
    · rw [wl_wu (fun a ha z => d2 a z ha), wl_wu d1, ← wl_push hq3, wl_wu hd3, List.append_assoc]
      rfl
    refine Wx_perm (fun a ha z => d2 a z ha) ?_
    refine x_astore3 (pc := 19) G dl_19 (by decide) rfl ?_
    refine x_iconst (pc := 20) (v := 0) G dl_20 (by decide) ?_
    refine x_istore4 (pc := 21) G dl_21 (by decide) rfl ?_
    refine Wx_mono (bc1 := 3 * 512) (bs1 := 100 * 512) (Nat.le_of_ble_eq_true rfl) (Nat.le_of_ble_eq_true rfl) ?_
    exact lw_loop hl G hX hbl hbA hH hL (hfin bb mo ao ad) 512 0 (X0 qs) sZ mZ3 (fun _ => 0) (by omega) (by omega) ⟨hIN, hb11, d1, d2⟩
  have hK := K s.heap [] ((lg_sl [Value.ref b] ++ List.replicate (8 - (lg_sl [Value.ref b]).length) Slot.unset).toArray) 0 0 (by decide) (by decide) pp_nil va_S.rf (lp_start [.ref b] 7 8 (Nat.le_of_ble_eq_true rfl))
  rw [lg_entry_eq]
  exact hK
