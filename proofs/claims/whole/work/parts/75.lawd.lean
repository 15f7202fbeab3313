theorem dl_2509 : decode cL_law 2509 = .ok (.aload_n 1, 1) := by decide +kernel
theorem dl_2510 : decode cL_law 2510 = .ok (.invokevirtual 279, 3) := by decide +kernel
theorem dl_2513 : decode cL_law 2513 = .ok (.aload_n 2, 1) := by decide +kernel
theorem dl_2514 : decode cL_law 2514 = .ok (.invokevirtual 283, 3) := by decide +kernel
theorem dl_2517 : decode cL_law 2517 = .ok (.lcmp, 1) := by decide +kernel
theorem dl_2518 : decode cL_law 2518 = .ok (.ifCond .eq 730, 3) := by decide +kernel
set_option maxRecDepth 100000 in
set_option maxHeartbeats 4000000 in
theorem lk_payCard {p : Program} {l : Launch} {e : Env} {s : State} {m : MethodId} {args : Array Value} {below : List Frame} {meth : Method} {c : Code} {k : KC} {A : Nat → Prop} {Q : State → Prop} {bc1 bs1 b0 Ln b ao mo i : Nat} {xs : Nat → Int32} {ad : Nat → Nat} {f : Nat → Int64} {X : CX} {S : CT} {M : MS} {rt9 : Option FieldType} (hl : l.stackTraces = false) (G : GX p l room_1 s m args meth c k A RL cL_law 8 rt9) (hX : va_X b0 Ln xs s s.heap) (hbl : b0 < s.heap.size) (hbA : ¬ A b0) (hH : HM mo ad) (hi : i + 8 ≤ Ln) (hL : Ln ≤ 4096) (h : LV9 k b X S ao f mo ad M) (hend : ∀ X2 S2 M2 f2, LV9 k b X2 S2 ao f2 mo ad M2 → Wx p l e room_1 s m args below meth c k A 8 Q bc1 bs1 3248 [some (.ref b0), some (.ref b), some (.ref mo), some (.ref ao), some (.int (nI i)), none, none, none] [] (WL k X2 S2 ao f2 mo ad M2)) : Wx p l e room_1 s m args below meth c k A 8 Q (bc1 + 2) (bs1 + 80) 2509 [some (.ref b0), some (.ref b), some (.ref mo), some (.ref ao), some (.int (nI i)), none, none, none] [] (WL k X S ao f mo ad M) := by
  obtain ⟨hI, hb, hd1, hd2⟩ := h
  obtain ⟨hbm, fs, hbf⟩ := cw11 (k := k) (S := S) hI.1 hb
  have hvr := vr11 hb
  unfold WL
  refine x_aload1 (pc := 2509) G dl_2509 ?_
  have hC := ck_payCard (k := k) hl (S := S) hI.1
  rw [hvr] at hC
  refine x_callV (pc := 2510) (bc1 := bc1 + 1) (bs1 := bs1 + 40) (n := 0) (As := []) G ((hC.frame hd1).frame hd2) (List.mem_append_left _ (List.mem_append_left _ hbm)) ((if_pos (List.mem_append_left _ hbm)).trans ((if_pos hbm).trans hbf)) (show vwCl[11]? = some (_, _, _) from rfl) q_ml_L_279 q_im_yX10_payCard q_se_yX10_payCard q_in_X10 q_co_yX10_payCard ⟨by decide, by decide, by decide +kernel⟩ ⟨Nat.le_of_ble_eq_true rfl, Nat.le_of_ble_eq_true rfl⟩ (Nat.zero_le _) (Nat.le_add_right _ 1) (Nat.le_trans (Nat.add_le_add_left (Nat.le_of_ble_eq_true rfl : rm_X10_payCard.slots ≤ 40) _) (Nat.le_of_eq (Nat.add_assoc bs1 40 40))) rfl rfl dl_2510 (fun v w9 hp => ?_) (fun E w9 hp => by obtain ⟨_, ⟨_, hq, _⟩, _⟩ := hp; cases hq.1)
  obtain ⟨_, ⟨_, ⟨hv, rfl⟩, hd1', rfl⟩, hd2', rfl⟩ := hp
  have hv := Sum.inl.inj hv
  subst hv
  refine x_aload2 (pc := 2513) G dl_2513 ?_
  have hr := c_payCard (k := k) hl hH (M := M)
  refine Wx_perm hd2' ?_
  refine x_callV (pc := 2514) (bc1 := bc1) (bs1 := bs1) (n := 0) (As := []) G (hr.frame (fun a ha z => hd2' a z ha)) (List.mem_append_left _ mW_mo.1) ((if_pos mW_mo.1).trans mW_mo.2) (show vwCl[12]? = some (_, _, _) from rfl) q_ml_L_283 q_im_yX11_payCard q_se_yX11_payCard q_in_X11 q_co_yX11_payCard ⟨by decide, by decide, by decide +kernel⟩ ⟨Nat.le_of_ble_eq_true rfl, Nat.le_of_ble_eq_true rfl⟩ (Nat.le_of_ble_eq_true rfl) (Nat.le_add_right _ 1) (Nat.le_add_right _ 40) rfl rfl dl_2514 (fun v w9 hp => ?_) (fun E w9 hp => by obtain ⟨_, hq, _⟩ := hp; cases hq.1)
  obtain ⟨h9, ⟨hv, rfl⟩, hd3, rfl⟩ := hp
  have hv := Sum.inl.inj hv
  subst hv
  refine Wx_perm (fun a ha z => hd2' a z ha) ?_
  obtain ⟨hq, hR2⟩ := eq_payCard hI.2.2.1
  have hM2 := mv_payCard hI.2.2.2
  refine x_lcmp (pc := 2517) G dl_2517 ?_
  refine x_if_eq (pc := 2518) (tgt := 3248) (y := 0) G dl_2518 rfl (fun _ => ?_) (fun z8 => absurd (lg_same hq) z8)
  exact hend X _ _ f ⟨⟨hI.1, hI.2.1, hR2, hM2⟩, hb, hd1', hd2'⟩
theorem dl_2571 : decode cL_law 2571 = .ok (.aload_n 1, 1) := by decide +kernel
theorem dl_2572 : decode cL_law 2572 = .ok (.invokevirtual 287, 3) := by decide +kernel
theorem dl_2575 : decode cL_law 2575 = .ok (.aload_n 2, 1) := by decide +kernel
theorem dl_2576 : decode cL_law 2576 = .ok (.invokevirtual 290, 3) := by decide +kernel
theorem dl_2579 : decode cL_law 2579 = .ok (.if_icmp .eq 669, 3) := by decide +kernel
theorem dl_2582 : decode cL_law 2582 = .ok (.iconst 0, 1) := by decide +kernel
set_option maxRecDepth 100000 in
set_option maxHeartbeats 4000000 in
theorem lk_day {p : Program} {l : Launch} {e : Env} {s : State} {m : MethodId} {args : Array Value} {below : List Frame} {meth : Method} {c : Code} {k : KC} {A : Nat → Prop} {Q : State → Prop} {bc1 bs1 b0 Ln b ao mo i : Nat} {xs : Nat → Int32} {ad : Nat → Nat} {f : Nat → Int64} {X : CX} {S : CT} {M : MS} {rt9 : Option FieldType} (hl : l.stackTraces = false) (G : GX p l room_1 s m args meth c k A RL cL_law 8 rt9) (hX : va_X b0 Ln xs s s.heap) (hbl : b0 < s.heap.size) (hbA : ¬ A b0) (hH : HM mo ad) (hi : i + 8 ≤ Ln) (hL : Ln ≤ 4096) (h : LV9 k b X S ao f mo ad M) (hend : ∀ X2 S2 M2 f2, LV9 k b X2 S2 ao f2 mo ad M2 → Wx p l e room_1 s m args below meth c k A 8 Q bc1 bs1 3248 [some (.ref b0), some (.ref b), some (.ref mo), some (.ref ao), some (.int (nI i)), none, none, none] [] (WL k X2 S2 ao f2 mo ad M2)) : Wx p l e room_1 s m args below meth c k A 8 Q (bc1 + 2) (bs1 + 80) 2571 [some (.ref b0), some (.ref b), some (.ref mo), some (.ref ao), some (.int (nI i)), none, none, none] [] (WL k X S ao f mo ad M) := by
  obtain ⟨hI, hb, hd1, hd2⟩ := h
  obtain ⟨hbm, fs, hbf⟩ := cw11 (k := k) (S := S) hI.1 hb
  have hvr := vr11 hb
  unfold WL
  refine x_aload1 (pc := 2571) G dl_2571 ?_
  have hC := ck_day (k := k) hl (S := S) hI.1
  rw [hvr] at hC
  refine x_callV (pc := 2572) (bc1 := bc1 + 1) (bs1 := bs1 + 40) (n := 0) (As := []) G ((hC.frame hd1).frame hd2) (List.mem_append_left _ (List.mem_append_left _ hbm)) ((if_pos (List.mem_append_left _ hbm)).trans ((if_pos hbm).trans hbf)) (show vwCl[11]? = some (_, _, _) from rfl) q_ml_L_287 q_im_yX10_day q_se_yX10_day q_in_X10 q_co_yX10_day ⟨by decide, by decide, by decide +kernel⟩ ⟨Nat.le_of_ble_eq_true rfl, Nat.le_of_ble_eq_true rfl⟩ (Nat.zero_le _) (Nat.le_add_right _ 1) (Nat.le_trans (Nat.add_le_add_left (Nat.le_of_ble_eq_true rfl : rm_X10_day.slots ≤ 40) _) (Nat.le_of_eq (Nat.add_assoc bs1 40 40))) rfl rfl dl_2572 (fun v w9 hp => ?_) (fun E w9 hp => by obtain ⟨_, ⟨_, hq, _⟩, _⟩ := hp; cases hq.1)
  obtain ⟨_, ⟨_, ⟨hv, rfl⟩, hd1', rfl⟩, hd2', rfl⟩ := hp
  have hv := Sum.inl.inj hv
  subst hv
  refine x_aload2 (pc := 2575) G dl_2575 ?_
  have hr := c_day (k := k) hl hH (M := M)
  refine Wx_perm hd2' ?_
  refine x_callV (pc := 2576) (bc1 := bc1) (bs1 := bs1) (n := 0) (As := []) G (hr.frame (fun a ha z => hd2' a z ha)) (List.mem_append_left _ mW_mo.1) ((if_pos mW_mo.1).trans mW_mo.2) (show vwCl[12]? = some (_, _, _) from rfl) q_ml_L_290 q_im_yX11_day q_se_yX11_day q_in_X11 q_co_yX11_day ⟨by decide, by decide, by decide +kernel⟩ ⟨Nat.le_of_ble_eq_true rfl, Nat.le_of_ble_eq_true rfl⟩ (Nat.le_of_ble_eq_true rfl) (Nat.le_add_right _ 1) (Nat.le_add_right _ 40) rfl rfl dl_2576 (fun v w9 hp => ?_) (fun E w9 hp => by obtain ⟨_, hq, _⟩ := hp; cases hq.1)
  obtain ⟨h9, ⟨hv, rfl⟩, hd3, rfl⟩ := hp
  have hv := Sum.inl.inj hv
  subst hv
  refine Wx_perm (fun a ha z => hd2' a z ha) ?_
  obtain ⟨hq, -, hR2⟩ := eq_day hI.2.2.1
  have hM2 := mv_dayO hI.2.2.2
  refine x_icmp_eq (pc := 2579) (tgt := 3248) G dl_2579 rfl (fun _ => ?_) (fun z8 => absurd hq z8)
  exact hend X _ _ f ⟨⟨hI.1, hI.2.1, hR2, hM2⟩, hb, hd1', hd2'⟩
