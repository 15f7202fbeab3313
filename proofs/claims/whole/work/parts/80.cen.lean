theorem dX0_init_0 : decode cX0_init 0 = .ok (.aload_n 0, 1) := by decide +kernel
theorem dX0_init_1 : decode cX0_init 1 = .ok (.invokespecial 3, 3) := by decide +kernel
theorem dX0_init_4 : decode cX0_init 4 = .ok (.aload_n 0, 1) := by decide +kernel
theorem dX0_init_5 : decode cX0_init 5 = .ok (.new 9, 3) := by decide +kernel
theorem dX0_init_8 : decode cX0_init 8 = .ok (.dup, 1) := by decide +kernel
theorem dX0_init_9 : decode cX0_init 9 = .ok (.invokespecial 11, 3) := by decide +kernel
theorem dX0_init_12 : decode cX0_init 12 = .ok (.putfield 12, 3) := by decide +kernel
theorem dX0_init_15 : decode cX0_init 15 = .ok (.aload_n 0, 1) := by decide +kernel
theorem dX0_init_16 : decode cX0_init 16 = .ok (.iconst 0, 1) := by decide +kernel
theorem dX0_init_17 : decode cX0_init 17 = .ok (.putfield 18, 3) := by decide +kernel
theorem dX0_init_20 : decode cX0_init 20 = .ok (.iconst 0, 1) := by decide +kernel
theorem dX0_init_21 : decode cX0_init 21 = .ok (.istore_n 1, 1) := by decide +kernel
theorem dX0_init_22 : decode cX0_init 22 = .ok (.iload_n 1, 1) := by decide +kernel
theorem dX0_init_23 : decode cX0_init 23 = .ok (.iconst 3, 1) := by decide +kernel
theorem dX0_init_24 : decode cX0_init 24 = .ok (.if_icmp .ge 24, 3) := by decide +kernel
theorem dX0_init_27 : decode cX0_init 27 = .ok (.aload_n 0, 1) := by decide +kernel
theorem dX0_init_28 : decode cX0_init 28 = .ok (.getfield 12, 3) := by decide +kernel
theorem dX0_init_31 : decode cX0_init 31 = .ok (.new 22, 3) := by decide +kernel
theorem dX0_init_34 : decode cX0_init 34 = .ok (.dup, 1) := by decide +kernel
theorem dX0_init_35 : decode cX0_init 35 = .ok (.invokespecial 24, 3) := by decide +kernel
theorem dX0_init_38 : decode cX0_init 38 = .ok (.invokevirtual 25, 3) := by decide +kernel
theorem dX0_init_41 : decode cX0_init 41 = .ok (.pop, 1) := by decide +kernel
theorem dX0_init_42 : decode cX0_init 42 = .ok (.iinc 1 1, 3) := by decide +kernel
theorem dX0_init_45 : decode cX0_init 45 = .ok (.goto (-23), 3) := by decide +kernel
theorem dX0_init_48 : decode cX0_init 48 = .ok (.return_, 1) := by decide +kernel
abbrev rm_in_ce : Room := { frames := 8, cells := 7, slots := 231, locals := 300 }
set_option maxRecDepth 100000 in
set_option maxHeartbeats 4000000 in
theorem in_Centre {l : Launch} {k : KC} (hl : l.stackTraces = false) {b : Nat} : MI l k yX0_init (.code yX0_init cX0_init 2 none) rm_in_ce [.ref b] (wO [(b, .inr (1, [.null, .int 0]))]) (fun o h9 => ∃ q1 q2 q3 q4 q5, ND [(b, .inr (1, [.ref q1, .int 0])), (q1, .inr (0, [.int 3, .ref q3, .int (nI 3)])), (q2, .inr (7, [.long 0, .long 0, .long 0])), (q3, .inl (k.2.2.2.2.1, 10, .inr (.inr (.inr (.inr (va_up (va_up (va_up (fun _ => none) 0 (some q2)) 1 (some q4)) 2 (some q5))))))), (q4, .inr (7, [.long 0, .long 0, .long 0])), (q5, .inr (7, [.long 0, .long 0, .long 0]))] ∧ o = .inl none ∧ h9 = wO [(b, .inr (1, [.ref q1, .int 0])), (q1, .inr (0, [.int 3, .ref q3, .int (nI 3)])), (q2, .inr (7, [.long 0, .long 0, .long 0])), (q3, .inl (k.2.2.2.2.1, 10, .inr (.inr (.inr (.inr (va_up (va_up (va_up (fun _ => none) 0 (some q2)) 1 (some q4)) 2 (some q5))))))), (q4, .inr (7, [.long 0, .long 0, .long 0])), (q5, .inr (7, [.long 0, .long 0, .long 0]))]) := by
  refine MI.of 1 hl (by decide) (Nat.le_of_ble_eq_true rfl) ?_
  intro p e s m args below meth c A Q hini G B
  show Wx p l e rm_in_ce s m args below meth c k A 2 Q 7 231 0 [some (.ref b), none] [] (wO [(b, .inr (1, [.null, .int 0]))])
  have hw : ND [(b, (.inr (1, [.null, .int 0]) : va_E))] := List.nodup_cons.mpr ⟨List.not_mem_nil, List.nodup_nil⟩
  refine x_aload0 (pc := 0) G dX0_init_0 ?_
  refine x_objInit (pc := 1) G q_ml_X0_3 q_im_oinit q_co_oinit (Nat.le_of_ble_eq_true rfl) (Nat.le_of_ble_eq_true rfl) dX0_init_1 ?_
  refine x_aload0 (pc := 4) G dX0_init_4 ?_
  refine x_new (pc := 5) (ci := 0) (N := 3) (C := RJx4a65c) (T := TJx4a65c) (fs := [.int 0, .null, .int 0]) (bc1 := 6) (bs1 := 228) G i_Jx4a65c tyJx4a65c tyJx4a65c_ok q_cl_X0_9 q_it_Jx4a65c q_in_Jx4a65c rfl (by decide) (Nat.le_refl _) (Nat.le_refl _) dX0_init_5 (fun q1 hq => ?_)
  refine o_nw hw hq (fun hw => ?_)
  refine x_dup (pc := 8) G dX0_init_8 rfl ?_
  refine o_foc (l1 := [(b, .inr (1, [.null, .int 0]))]) (l2 := []) hw ?_
  refine x_callI (pc := 9) (bc1 := 6) (bs1 := 228) (n := 0) (As := []) (st := [.ref q1, .ref b]) G (in_AL hl mem_mid) q_ml_X0_11 q_im_yJx4a65c_init_da8c8 q_in_Jx4a65c q_co_yJx4a65c_init_da8c8 rfl ⟨by decide +kernel, by decide +kernel, by decide +kernel⟩ ⟨Nat.le_of_ble_eq_true rfl, Nat.le_of_ble_eq_true rfl⟩ (Nat.le_of_ble_eq_true rfl) (Nat.le_refl _) (Nat.le_refl _) rfl rfl dX0_init_9 (fun v h9 hp => ?_)
  obtain ⟨e1, rfl⟩ := hp
  cases e1
  refine o_unf hw (fun hw => ?_)
  refine o_foc (l1 := []) (l2 := [(q1, .inr (0, [.int 0, .ref k.2.2.2.2.2.1, .int 0]))]) hw ?_
  refine z_iP (pc := 12) (fs' := [.ref q1, .int 0]) G kb_1 gb_X0_12 hini rfl (mem_mid (l1 := [])) rfl ⟨rfl, rfl⟩ (Nat.le_of_ble_eq_true rfl) rfl dX0_init_12 ?_
  refine o_unf (l1 := []) hw (fun hw => ?_)
  refine x_aload0 (pc := 15) G dX0_init_15 ?_
  refine x_iconst (pc := 16) (v := 0) G dX0_init_16 ic_0 ?_
  refine o_foc (l1 := []) (l2 := [(q1, .inr (0, [.int 0, .ref k.2.2.2.2.2.1, .int 0]))]) hw ?_
  refine z_ip (pc := 17) (fs' := [.ref q1, .int 0]) G kb_1 gb_X0_18 (mem_mid (l1 := [])) rfl ⟨rfl, rfl⟩ (Nat.le_of_ble_eq_true rfl) rfl dX0_init_17 ?_
  refine o_unf (l1 := []) hw (fun hw => ?_)
  refine x_iconst (pc := 20) (v := 0) G dX0_init_20 ic_0 ?_
  refine x_istore1 (pc := 21) G dX0_init_21 (by decide) rfl ?_
  refine x_iload1 (pc := 22) G dX0_init_22 ?_
  refine x_iconst (pc := 23) (v := 3) G dX0_init_23 (by decide) ?_
  refine x_icmp_ge (pc := 24) (tgt := 48) G dX0_init_24 rfl (fun z => absurd z (by decide)) (fun _ => ?_)
  refine x_aload0 (pc := 27) G dX0_init_27 ?_
  refine x_getf (pc := 28) G (mem_mid (l1 := []) (l2 := [(q1, .inr (0, [.int 0, .ref k.2.2.2.2.2.1, .int 0]))])) (lk_mid (l1 := []) (l2 := [(q1, .inr (0, [.int 0, .ref k.2.2.2.2.2.1, .int 0]))]) hw) (C := RX0) (T := TX0) (N := 2) (j := 0) rfl i_X0 (by decide) q_fl_X0_12 (fun _ h => h) (v := .ref q1) rfl dX0_init_28 ?_
  refine x_new (pc := 31) (ci := 7) (N := 3) (C := RX6) (T := TX6) (fs := [.long 0, .long 0, .long 0]) (bc1 := 5) (bs1 := 225) G i_X6 tyX6 tyX6_ok q_cl_X0_22 q_it_X6 q_in_X6 rfl (by decide) (Nat.le_refl _) (Nat.le_refl _) dX0_init_31 (fun q2 hq => ?_)
  refine o_nw hw hq (fun hw => ?_)
  refine x_dup (pc := 34) G dX0_init_34 rfl ?_
  refine o_foc (l1 := [(b, .inr (1, [.ref q1, .int 0])), (q1, .inr (0, [.int 0, .ref k.2.2.2.2.2.1, .int 0]))]) (l2 := []) hw ?_
  refine x_callIN (pc := 35) (bc1 := 5) (bs1 := 225) (n := 0) (As := []) (st := [.ref q2, .ref q1]) (host := "ChitWright") G (in_Purse hl mem_mid) (by decide +kernel) q_im_yX6_init q_in_X6 q_co_yX6_init rfl ⟨by decide +kernel, by decide +kernel, by decide +kernel⟩ ⟨Nat.le_of_ble_eq_true rfl, Nat.le_of_ble_eq_true rfl⟩ (Nat.le_of_ble_eq_true rfl) (Nat.le_refl _) (Nat.le_refl _) rfl rfl dX0_init_35 (fun v h9 hp => ?_)
  obtain ⟨e1, rfl⟩ := hp
  cases e1
  refine o_unf hw (fun hw => ?_)
  refine x_callV (pc := 38) (bc1 := 4) (bs1 := 152) (n := 1) (As := [.ref q2]) (st := []) G (c_addz (k := k) (ci := 7) hl (show vwCl[7]? = some (_, _, _) from rfl) (by decide +kernel) (by decide) (mem_mid (l1 := [(b, .inr (1, [.ref q1, .int 0])), (q1, .inr (0, [.int 0, .ref k.2.2.2.2.2.1, .int 0]))]) (l2 := [])) (lk_mid (l1 := [(b, .inr (1, [.ref q1, .int 0])), (q1, .inr (0, [.int 0, .ref k.2.2.2.2.2.1, .int 0]))]) (l2 := []) hw) (mem_mid (l1 := [(b, .inr (1, [.ref q1, .int 0]))]) (l2 := [(q2, .inr (7, [.long 0, .long 0, .long 0]))])) (lk_mid (l1 := [(b, .inr (1, [.ref q1, .int 0]))]) (l2 := [(q2, .inr (7, [.long 0, .long 0, .long 0]))]) hw)) (mem_mid (l1 := [(b, .inr (1, [.ref q1, .int 0]))]) (l2 := [(q2, .inr (7, [.long 0, .long 0, .long 0]))])) (lk_mid (l1 := [(b, .inr (1, [.ref q1, .int 0]))]) (l2 := [(q2, .inr (7, [.long 0, .long 0, .long 0]))]) hw) rfl q_ml_X0_25 q_im_yJx4a65c_add_9ea2d q_se_yJx4a65c_add_9ea2d q_in_Jx4a65c q_co_yJx4a65c_add_9ea2d ⟨by decide +kernel, by decide +kernel, by decide +kernel⟩ ⟨Nat.le_of_ble_eq_true rfl, Nat.le_of_ble_eq_true rfl⟩ (Nat.zero_le _) (Nat.le_of_ble_eq_true rfl) (Nat.le_of_ble_eq_true rfl) rfl rfl dX0_init_38 (fun v h9 hp => ?_) (fun E h9 hp => by obtain ⟨_, _, z, _⟩ := hp; cases z)
  obtain ⟨q3, hq3, e1, rfl⟩ := hp
  cases e1
  refine o_az (l1 := [(b, .inr (1, [.ref q1, .int 0]))]) (l2 := [(q2, .inr (7, [.long 0, .long 0, .long 0]))]) (e2 := .inr (0, [.int 1, .ref q3, .int (nI 1)])) hw hq3 (fun hw => ?_)
  refine x_pop (pc := 41) G dX0_init_41 rfl ?_
  refine x_iinc1 (pc := 42) (v := 1) G dX0_init_42 (by decide) (by decide) rfl ?_
  refine x_goto (pc := 45) (tgt := 22) G dX0_init_45 rfl ?_
  refine x_iload1 (pc := 22) G dX0_init_22 ?_
  refine x_iconst (pc := 23) (v := 3) G dX0_init_23 (by decide) ?_
  refine x_icmp_ge (pc := 24) (tgt := 48) G dX0_init_24 rfl (fun z => absurd z (by decide)) (fun _ => ?_)
  refine x_aload0 (pc := 27) G dX0_init_27 ?_
  refine x_getf (pc := 28) G (mem_mid (l1 := []) (l2 := [(q1, .inr (0, [.int 1, .ref q3, .int (nI 1)])), (q2, .inr (7, [.long 0, .long 0, .long 0])), (q3, .inl (k.2.2.2.2.1, 10, .inr (.inr (.inr (.inr (va_up (fun _ => none) 0 (some q2)))))))])) (lk_mid (l1 := []) (l2 := [(q1, .inr (0, [.int 1, .ref q3, .int (nI 1)])), (q2, .inr (7, [.long 0, .long 0, .long 0])), (q3, .inl (k.2.2.2.2.1, 10, .inr (.inr (.inr (.inr (va_up (fun _ => none) 0 (some q2)))))))]) hw) (C := RX0) (T := TX0) (N := 2) (j := 0) rfl i_X0 (by decide) q_fl_X0_12 (fun _ h => h) (v := .ref q1) rfl dX0_init_28 ?_
  refine x_new (pc := 31) (ci := 7) (N := 3) (C := RX6) (T := TX6) (fs := [.long 0, .long 0, .long 0]) (bc1 := 3) (bs1 := 149) G i_X6 tyX6 tyX6_ok q_cl_X0_22 q_it_X6 q_in_X6 rfl (by decide) (Nat.le_refl _) (Nat.le_refl _) dX0_init_31 (fun q4 hq => ?_)
  refine o_nw hw hq (fun hw => ?_)
  refine x_dup (pc := 34) G dX0_init_34 rfl ?_
  refine o_foc (l1 := [(b, .inr (1, [.ref q1, .int 0])), (q1, .inr (0, [.int 1, .ref q3, .int (nI 1)])), (q2, .inr (7, [.long 0, .long 0, .long 0])), (q3, .inl (k.2.2.2.2.1, 10, .inr (.inr (.inr (.inr (va_up (fun _ => none) 0 (some q2)))))))]) (l2 := []) hw ?_
  refine x_callIN (pc := 35) (bc1 := 3) (bs1 := 149) (n := 0) (As := []) (st := [.ref q4, .ref q1]) (host := "ChitWright") G (in_Purse hl mem_mid) (by decide +kernel) q_im_yX6_init q_in_X6 q_co_yX6_init rfl ⟨by decide +kernel, by decide +kernel, by decide +kernel⟩ ⟨Nat.le_of_ble_eq_true rfl, Nat.le_of_ble_eq_true rfl⟩ (Nat.le_of_ble_eq_true rfl) (Nat.le_refl _) (Nat.le_refl _) rfl rfl dX0_init_35 (fun v h9 hp => ?_)
  obtain ⟨e1, rfl⟩ := hp
  cases e1
  refine o_unf hw (fun hw => ?_)
  refine x_callV (pc := 38) (bc1 := 2) (bs1 := 76) (n := 1) (As := [.ref q4]) (st := []) G (c_add (k := k) (ci := 7) (n := 1) (N0 := 10) hl (show vwCl[7]? = some (_, _, _) from rfl) (by decide +kernel) (by decide) (mem_mid (l1 := [(b, .inr (1, [.ref q1, .int 0])), (q1, .inr (0, [.int 1, .ref q3, .int (nI 1)])), (q2, .inr (7, [.long 0, .long 0, .long 0])), (q3, .inl (k.2.2.2.2.1, 10, .inr (.inr (.inr (.inr (va_up (fun _ => none) 0 (some q2)))))))]) (l2 := [])) (lk_mid (l1 := [(b, .inr (1, [.ref q1, .int 0])), (q1, .inr (0, [.int 1, .ref q3, .int (nI 1)])), (q2, .inr (7, [.long 0, .long 0, .long 0])), (q3, .inl (k.2.2.2.2.1, 10, .inr (.inr (.inr (.inr (va_up (fun _ => none) 0 (some q2)))))))]) (l2 := []) hw) (mem_mid (l1 := [(b, .inr (1, [.ref q1, .int 0]))]) (l2 := [(q2, .inr (7, [.long 0, .long 0, .long 0])), (q3, .inl (k.2.2.2.2.1, 10, .inr (.inr (.inr (.inr (va_up (fun _ => none) 0 (some q2))))))), (q4, .inr (7, [.long 0, .long 0, .long 0]))])) (lk_mid (l1 := [(b, .inr (1, [.ref q1, .int 0]))]) (l2 := [(q2, .inr (7, [.long 0, .long 0, .long 0])), (q3, .inl (k.2.2.2.2.1, 10, .inr (.inr (.inr (.inr (va_up (fun _ => none) 0 (some q2))))))), (q4, .inr (7, [.long 0, .long 0, .long 0]))]) hw) (mem_mid (l1 := [(b, .inr (1, [.ref q1, .int 0])), (q1, .inr (0, [.int 1, .ref q3, .int (nI 1)])), (q2, .inr (7, [.long 0, .long 0, .long 0]))]) (l2 := [(q4, .inr (7, [.long 0, .long 0, .long 0]))])) (lk_mid (l1 := [(b, .inr (1, [.ref q1, .int 0])), (q1, .inr (0, [.int 1, .ref q3, .int (nI 1)])), (q2, .inr (7, [.long 0, .long 0, .long 0]))]) (l2 := [(q4, .inr (7, [.long 0, .long 0, .long 0]))]) hw) (by decide) (by decide)) (mem_mid (l1 := [(b, .inr (1, [.ref q1, .int 0]))]) (l2 := [(q2, .inr (7, [.long 0, .long 0, .long 0])), (q3, .inl (k.2.2.2.2.1, 10, .inr (.inr (.inr (.inr (va_up (fun _ => none) 0 (some q2))))))), (q4, .inr (7, [.long 0, .long 0, .long 0]))])) (lk_mid (l1 := [(b, .inr (1, [.ref q1, .int 0]))]) (l2 := [(q2, .inr (7, [.long 0, .long 0, .long 0])), (q3, .inl (k.2.2.2.2.1, 10, .inr (.inr (.inr (.inr (va_up (fun _ => none) 0 (some q2))))))), (q4, .inr (7, [.long 0, .long 0, .long 0]))]) hw) rfl q_ml_X0_25 q_im_yJx4a65c_add_9ea2d q_se_yJx4a65c_add_9ea2d q_in_Jx4a65c q_co_yJx4a65c_add_9ea2d ⟨by decide +kernel, by decide +kernel, by decide +kernel⟩ ⟨Nat.le_of_ble_eq_true rfl, Nat.le_of_ble_eq_true rfl⟩ (Nat.zero_le _) (Nat.le_of_ble_eq_true rfl) (Nat.le_of_ble_eq_true rfl) rfl rfl dX0_init_38 (fun v h9 hp => ?_) (fun E h9 hp => by cases hp.1)
  obtain ⟨e1, rfl⟩ := hp
  cases e1
  refine o_ai (l1 := [(b, .inr (1, [.ref q1, .int 0])), (q1, .inr (0, [.int 1, .ref q3, .int (nI 1)])), (q2, .inr (7, [.long 0, .long 0, .long 0]))]) (l2 := [(q4, .inr (7, [.long 0, .long 0, .long 0]))]) (e2 := .inl (k.2.2.2.2.1, 10, .inr (.inr (.inr (.inr (va_up (va_up (fun _ => none) 0 (some q2)) 1 (some q4))))))) (l3 := [(b, .inr (1, [.ref q1, .int 0]))]) (l4 := [(q2, .inr (7, [.long 0, .long 0, .long 0])), (q3, .inl (k.2.2.2.2.1, 10, .inr (.inr (.inr (.inr (va_up (va_up (fun _ => none) 0 (some q2)) 1 (some q4))))))), (q4, .inr (7, [.long 0, .long 0, .long 0]))]) (e4 := .inr (0, [.int 2, .ref q3, .int (nI 2)])) hw rfl (fun hw => ?_)
  refine x_pop (pc := 41) G dX0_init_41 rfl ?_
  refine x_iinc1 (pc := 42) (v := 2) G dX0_init_42 (by decide) (by decide) rfl ?_
  refine x_goto (pc := 45) (tgt := 22) G dX0_init_45 rfl ?_
  refine x_iload1 (pc := 22) G dX0_init_22 ?_
  refine x_iconst (pc := 23) (v := 3) G dX0_init_23 (by decide) ?_
  refine x_icmp_ge (pc := 24) (tgt := 48) G dX0_init_24 rfl (fun z => absurd z (by decide)) (fun _ => ?_)
  refine x_aload0 (pc := 27) G dX0_init_27 ?_
  refine x_getf (pc := 28) G (mem_mid (l1 := []) (l2 := [(q1, .inr (0, [.int 2, .ref q3, .int (nI 2)])), (q2, .inr (7, [.long 0, .long 0, .long 0])), (q3, .inl (k.2.2.2.2.1, 10, .inr (.inr (.inr (.inr (va_up (va_up (fun _ => none) 0 (some q2)) 1 (some q4))))))), (q4, .inr (7, [.long 0, .long 0, .long 0]))])) (lk_mid (l1 := []) (l2 := [(q1, .inr (0, [.int 2, .ref q3, .int (nI 2)])), (q2, .inr (7, [.long 0, .long 0, .long 0])), (q3, .inl (k.2.2.2.2.1, 10, .inr (.inr (.inr (.inr (va_up (va_up (fun _ => none) 0 (some q2)) 1 (some q4))))))), (q4, .inr (7, [.long 0, .long 0, .long 0]))]) hw) (C := RX0) (T := TX0) (N := 2) (j := 0) rfl i_X0 (by decide) q_fl_X0_12 (fun _ h => h) (v := .ref q1) rfl dX0_init_28 ?_
  refine x_new (pc := 31) (ci := 7) (N := 3) (C := RX6) (T := TX6) (fs := [.long 0, .long 0, .long 0]) (bc1 := 1) (bs1 := 73) G i_X6 tyX6 tyX6_ok q_cl_X0_22 q_it_X6 q_in_X6 rfl (by decide) (Nat.le_refl _) (Nat.le_refl _) dX0_init_31 (fun q5 hq => ?_)
  refine o_nw hw hq (fun hw => ?_)
  refine x_dup (pc := 34) G dX0_init_34 rfl ?_
  refine o_foc (l1 := [(b, .inr (1, [.ref q1, .int 0])), (q1, .inr (0, [.int 2, .ref q3, .int (nI 2)])), (q2, .inr (7, [.long 0, .long 0, .long 0])), (q3, .inl (k.2.2.2.2.1, 10, .inr (.inr (.inr (.inr (va_up (va_up (fun _ => none) 0 (some q2)) 1 (some q4))))))), (q4, .inr (7, [.long 0, .long 0, .long 0]))]) (l2 := []) hw ?_
  refine x_callIN (pc := 35) (bc1 := 1) (bs1 := 73) (n := 0) (As := []) (st := [.ref q5, .ref q1]) (host := "ChitWright") G (in_Purse hl mem_mid) (by decide +kernel) q_im_yX6_init q_in_X6 q_co_yX6_init rfl ⟨by decide +kernel, by decide +kernel, by decide +kernel⟩ ⟨Nat.le_of_ble_eq_true rfl, Nat.le_of_ble_eq_true rfl⟩ (Nat.le_of_ble_eq_true rfl) (Nat.le_refl _) (Nat.le_refl _) rfl rfl dX0_init_35 (fun v h9 hp => ?_)
  obtain ⟨e1, rfl⟩ := hp
  cases e1
  refine o_unf hw (fun hw => ?_)
  refine x_callV (pc := 38) (bc1 := 0) (bs1 := 0) (n := 1) (As := [.ref q5]) (st := []) G (c_add (k := k) (ci := 7) (n := 2) (N0 := 10) hl (show vwCl[7]? = some (_, _, _) from rfl) (by decide +kernel) (by decide) (mem_mid (l1 := [(b, .inr (1, [.ref q1, .int 0])), (q1, .inr (0, [.int 2, .ref q3, .int (nI 2)])), (q2, .inr (7, [.long 0, .long 0, .long 0])), (q3, .inl (k.2.2.2.2.1, 10, .inr (.inr (.inr (.inr (va_up (va_up (fun _ => none) 0 (some q2)) 1 (some q4))))))), (q4, .inr (7, [.long 0, .long 0, .long 0]))]) (l2 := [])) (lk_mid (l1 := [(b, .inr (1, [.ref q1, .int 0])), (q1, .inr (0, [.int 2, .ref q3, .int (nI 2)])), (q2, .inr (7, [.long 0, .long 0, .long 0])), (q3, .inl (k.2.2.2.2.1, 10, .inr (.inr (.inr (.inr (va_up (va_up (fun _ => none) 0 (some q2)) 1 (some q4))))))), (q4, .inr (7, [.long 0, .long 0, .long 0]))]) (l2 := []) hw) (mem_mid (l1 := [(b, .inr (1, [.ref q1, .int 0]))]) (l2 := [(q2, .inr (7, [.long 0, .long 0, .long 0])), (q3, .inl (k.2.2.2.2.1, 10, .inr (.inr (.inr (.inr (va_up (va_up (fun _ => none) 0 (some q2)) 1 (some q4))))))), (q4, .inr (7, [.long 0, .long 0, .long 0])), (q5, .inr (7, [.long 0, .long 0, .long 0]))])) (lk_mid (l1 := [(b, .inr (1, [.ref q1, .int 0]))]) (l2 := [(q2, .inr (7, [.long 0, .long 0, .long 0])), (q3, .inl (k.2.2.2.2.1, 10, .inr (.inr (.inr (.inr (va_up (va_up (fun _ => none) 0 (some q2)) 1 (some q4))))))), (q4, .inr (7, [.long 0, .long 0, .long 0])), (q5, .inr (7, [.long 0, .long 0, .long 0]))]) hw) (mem_mid (l1 := [(b, .inr (1, [.ref q1, .int 0])), (q1, .inr (0, [.int 2, .ref q3, .int (nI 2)])), (q2, .inr (7, [.long 0, .long 0, .long 0]))]) (l2 := [(q4, .inr (7, [.long 0, .long 0, .long 0])), (q5, .inr (7, [.long 0, .long 0, .long 0]))])) (lk_mid (l1 := [(b, .inr (1, [.ref q1, .int 0])), (q1, .inr (0, [.int 2, .ref q3, .int (nI 2)])), (q2, .inr (7, [.long 0, .long 0, .long 0]))]) (l2 := [(q4, .inr (7, [.long 0, .long 0, .long 0])), (q5, .inr (7, [.long 0, .long 0, .long 0]))]) hw) (by decide) (by decide)) (mem_mid (l1 := [(b, .inr (1, [.ref q1, .int 0]))]) (l2 := [(q2, .inr (7, [.long 0, .long 0, .long 0])), (q3, .inl (k.2.2.2.2.1, 10, .inr (.inr (.inr (.inr (va_up (va_up (fun _ => none) 0 (some q2)) 1 (some q4))))))), (q4, .inr (7, [.long 0, .long 0, .long 0])), (q5, .inr (7, [.long 0, .long 0, .long 0]))])) (lk_mid (l1 := [(b, .inr (1, [.ref q1, .int 0]))]) (l2 := [(q2, .inr (7, [.long 0, .long 0, .long 0])), (q3, .inl (k.2.2.2.2.1, 10, .inr (.inr (.inr (.inr (va_up (va_up (fun _ => none) 0 (some q2)) 1 (some q4))))))), (q4, .inr (7, [.long 0, .long 0, .long 0])), (q5, .inr (7, [.long 0, .long 0, .long 0]))]) hw) rfl q_ml_X0_25 q_im_yJx4a65c_add_9ea2d q_se_yJx4a65c_add_9ea2d q_in_Jx4a65c q_co_yJx4a65c_add_9ea2d ⟨by decide +kernel, by decide +kernel, by decide +kernel⟩ ⟨Nat.le_of_ble_eq_true rfl, Nat.le_of_ble_eq_true rfl⟩ (Nat.zero_le _) (Nat.le_of_ble_eq_true rfl) (Nat.le_of_ble_eq_true rfl) rfl rfl dX0_init_38 (fun v h9 hp => ?_) (fun E h9 hp => by cases hp.1)
  obtain ⟨e1, rfl⟩ := hp
  cases e1
  refine o_ai (l1 := [(b, .inr (1, [.ref q1, .int 0])), (q1, .inr (0, [.int 2, .ref q3, .int (nI 2)])), (q2, .inr (7, [.long 0, .long 0, .long 0]))]) (l2 := [(q4, .inr (7, [.long 0, .long 0, .long 0])), (q5, .inr (7, [.long 0, .long 0, .long 0]))]) (e2 := .inl (k.2.2.2.2.1, 10, .inr (.inr (.inr (.inr (va_up (va_up (va_up (fun _ => none) 0 (some q2)) 1 (some q4)) 2 (some q5))))))) (l3 := [(b, .inr (1, [.ref q1, .int 0]))]) (l4 := [(q2, .inr (7, [.long 0, .long 0, .long 0])), (q3, .inl (k.2.2.2.2.1, 10, .inr (.inr (.inr (.inr (va_up (va_up (va_up (fun _ => none) 0 (some q2)) 1 (some q4)) 2 (some q5))))))), (q4, .inr (7, [.long 0, .long 0, .long 0])), (q5, .inr (7, [.long 0, .long 0, .long 0]))]) (e4 := .inr (0, [.int 3, .ref q3, .int (nI 3)])) hw rfl (fun hw => ?_)
  refine x_pop (pc := 41) G dX0_init_41 rfl ?_
  refine x_iinc1 (pc := 42) (v := 3) G dX0_init_42 (by decide) (by decide) rfl ?_
  refine x_goto (pc := 45) (tgt := 22) G dX0_init_45 rfl ?_
  refine x_iload1 (pc := 22) G dX0_init_22 ?_
  refine x_iconst (pc := 23) (v := 3) G dX0_init_23 (by decide) ?_
  refine x_icmp_ge (pc := 24) (tgt := 48) G dX0_init_24 rfl (fun _ => ?_) (fun z => absurd (by decide) z)
  exact x_vret (pc := 48) G B rfl dX0_init_48 ⟨q1, q2, q3, q4, q5, hw, rfl, rfl⟩
