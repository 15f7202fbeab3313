theorem dX10_requireNumber_0 : decode cX10_requireNumber 0 = .ok (.iload_n 0, 1) := by decide +kernel
theorem dX10_requireNumber_1 : decode cX10_requireNumber 1 = .ok (.ifCond .lt 8, 3) := by decide +kernel
theorem dX10_requireNumber_4 : decode cX10_requireNumber 4 = .ok (.iload_n 0, 1) := by decide +kernel
theorem dX10_requireNumber_5 : decode cX10_requireNumber 5 = .ok (.iload_n 1, 1) := by decide +kernel
theorem dX10_requireNumber_6 : decode cX10_requireNumber 6 = .ok (.if_icmp .lt 14, 3) := by decide +kernel
theorem dX10_requireNumber_9 : decode cX10_requireNumber 9 = .ok (.new 180, 3) := by decide +kernel
theorem dX10_requireNumber_12 : decode cX10_requireNumber 12 = .ok (.dup, 1) := by decide +kernel
theorem dX10_requireNumber_13 : decode cX10_requireNumber 13 = .ok (.ldc_w 483, 3) := by decide +kernel
theorem dX10_requireNumber_16 : decode cX10_requireNumber 16 = .ok (.invokespecial 184, 3) := by decide +kernel
theorem dX10_requireNumber_19 : decode cX10_requireNumber 19 = .ok (.athrow, 1) := by decide +kernel
theorem dX10_requireNumber_20 : decode cX10_requireNumber 20 = .ok (.return_, 1) := by decide +kernel
abbrev rm_X10_requireNumber : Room := { frames := 6, cells := 0, slots := 0, locals := 90 }
abbrev rmt_X10_requireNumber : Room := { frames := 6, cells := 1, slots := 6, locals := 90 }
theorem ok_requireNumber {l : Launch} {k : KC} (hl : l.stackTraces = false) {h : Wd} {p1 : Int32} {p2 : Int32} (hP : P_num p1 p2) : MC l k yX10_requireNumber (.code yX10_requireNumber cX10_requireNumber 2 none) rm_X10_requireNumber [.int p1, .int p2] h (pR none h) := by
  refine MC.of 0 hl (by decide) (Nat.le_of_ble_eq_true rfl) ?_
  intro p e s m args below meth c A Q G B B2 hout
  show Wx p l e rm_X10_requireNumber s m args below meth c k A 2 Q 0 0 0 [some (.int p1), some (.int p2)] [] h
  refine x_iload0 (pc := 0) G dX10_requireNumber_0 ?_
  refine x_if_lt (pc := 1) (y := 0) (tgt := 9) G dX10_requireNumber_1 rfl (fun q => absurd q (Int32.not_lt.mpr hP.1)) (fun _ => ?_)
  refine x_iload0 (pc := 4) G dX10_requireNumber_4 ?_
  refine x_iload1 (pc := 5) G dX10_requireNumber_5 ?_
  refine x_icmp_lt (pc := 6) (tgt := 20) G dX10_requireNumber_6 rfl (fun _ => ?_) (fun q => absurd hP.2 q)
  exact x_vret (pc := 20) G B rfl dX10_requireNumber_20 ⟨rfl, rfl⟩
theorem no_requireNumber {l : Launch} {k : KC} (hl : l.stackTraces = false) {h : Wd} {p1 : Int32} {p2 : Int32} (hP : ¬ (P_num p1 p2)) : MC l k yX10_requireNumber (.code yX10_requireNumber cX10_requireNumber 2 none) rmt_X10_requireNumber [.int p1, .int p2] h (pT "java/lang/IndexOutOfBoundsException" h) := by
  refine MC.of 0 hl (by decide) (Nat.le_of_ble_eq_true rfl) ?_
  intro p e s m args below meth c A Q G B B2 hout
  show Wx p l e rmt_X10_requireNumber s m args below meth c k A 2 Q 1 6 0 [some (.int p1), some (.int p2)] [] h
  refine x_iload0 (pc := 0) G dX10_requireNumber_0 ?_
  refine x_if_lt (pc := 1) (y := 0) (tgt := 9) G dX10_requireNumber_1 rfl (fun q => ?_) (fun q1 => ?_)
  · exact z_IOOBE (pc := 9) G B B2 hout (is := 483) (text := "no such number") (by decide +kernel) dX10_requireNumber_9 dX10_requireNumber_12 (Or.inr ⟨dX10_requireNumber_13, dX10_requireNumber_16, dX10_requireNumber_19⟩) ⟨Nat.le_of_ble_eq_true rfl, Nat.le_of_ble_eq_true rfl⟩ (Nat.le_of_ble_eq_true rfl) (Nat.le_of_ble_eq_true rfl) ⟨rfl, rfl⟩
  refine x_iload0 (pc := 4) G dX10_requireNumber_4 ?_
  refine x_iload1 (pc := 5) G dX10_requireNumber_5 ?_
  refine x_icmp_lt (pc := 6) (tgt := 20) G dX10_requireNumber_6 rfl (fun q => absurd ⟨Int32.not_lt.mp q1, q⟩ hP) (fun _ => ?_)
  exact z_IOOBE (pc := 9) G B B2 hout (is := 483) (text := "no such number") (by decide +kernel) dX10_requireNumber_9 dX10_requireNumber_12 (Or.inr ⟨dX10_requireNumber_13, dX10_requireNumber_16, dX10_requireNumber_19⟩) ⟨Nat.le_of_ble_eq_true rfl, Nat.le_of_ble_eq_true rfl⟩ (Nat.le_of_ble_eq_true rfl) (Nat.le_of_ble_eq_true rfl) ⟨rfl, rfl⟩
theorem dX10_requireRange_0 : decode cX10_requireRange 0 = .ok (.iload_n 0, 1) := by decide +kernel
theorem dX10_requireRange_1 : decode cX10_requireRange 1 = .ok (.iload_n 1, 1) := by decide +kernel
theorem dX10_requireRange_2 : decode cX10_requireRange 2 = .ok (.if_icmp .lt 8, 3) := by decide +kernel
theorem dX10_requireRange_5 : decode cX10_requireRange 5 = .ok (.iload_n 0, 1) := by decide +kernel
theorem dX10_requireRange_6 : decode cX10_requireRange 6 = .ok (.iload_n 2, 1) := by decide +kernel
theorem dX10_requireRange_7 : decode cX10_requireRange 7 = .ok (.if_icmp .le 14, 3) := by decide +kernel
theorem dX10_requireRange_10 : decode cX10_requireRange 10 = .ok (.new 115, 3) := by decide +kernel
theorem dX10_requireRange_13 : decode cX10_requireRange 13 = .ok (.dup, 1) := by decide +kernel
theorem dX10_requireRange_14 : decode cX10_requireRange 14 = .ok (.ldc_w 485, 3) := by decide +kernel
theorem dX10_requireRange_17 : decode cX10_requireRange 17 = .ok (.invokespecial 119, 3) := by decide +kernel
theorem dX10_requireRange_20 : decode cX10_requireRange 20 = .ok (.athrow, 1) := by decide +kernel
theorem dX10_requireRange_21 : decode cX10_requireRange 21 = .ok (.return_, 1) := by decide +kernel
abbrev rm_X10_requireRange : Room := { frames := 6, cells := 0, slots := 0, locals := 90 }
abbrev rmt_X10_requireRange : Room := { frames := 6, cells := 1, slots := 6, locals := 90 }
theorem ok_requireRange {l : Launch} {k : KC} (hl : l.stackTraces = false) {h : Wd} {p1 : Int32} {p2 : Int32} {p3 : Int32} (hP : P_in p1 p2 p3) : MC l k yX10_requireRange (.code yX10_requireRange cX10_requireRange 3 none) rm_X10_requireRange [.int p1, .int p2, .int p3] h (pR none h) := by
  refine MC.of 0 hl (by decide) (Nat.le_of_ble_eq_true rfl) ?_
  intro p e s m args below meth c A Q G B B2 hout
  show Wx p l e rm_X10_requireRange s m args below meth c k A 3 Q 0 0 0 [some (.int p1), some (.int p2), some (.int p3)] [] h
  refine x_iload0 (pc := 0) G dX10_requireRange_0 ?_
  refine x_iload1 (pc := 1) G dX10_requireRange_1 ?_
  refine x_icmp_lt (pc := 2) (tgt := 10) G dX10_requireRange_2 rfl (fun q => absurd q (Int32.not_lt.mpr hP.1)) (fun _ => ?_)
  refine x_iload0 (pc := 5) G dX10_requireRange_5 ?_
  refine x_iload2 (pc := 6) G dX10_requireRange_6 ?_
  refine x_icmp_le (pc := 7) (tgt := 21) G dX10_requireRange_7 rfl (fun _ => ?_) (fun q => absurd hP.2 q)
  exact x_vret (pc := 21) G B rfl dX10_requireRange_21 ⟨rfl, rfl⟩
theorem no_requireRange {l : Launch} {k : KC} (hl : l.stackTraces = false) {h : Wd} {p1 : Int32} {p2 : Int32} {p3 : Int32} (hP : ¬ (P_in p1 p2 p3)) : MC l k yX10_requireRange (.code yX10_requireRange cX10_requireRange 3 none) rmt_X10_requireRange [.int p1, .int p2, .int p3] h (pT "java/lang/IllegalArgumentException" h) := by
  refine MC.of 0 hl (by decide) (Nat.le_of_ble_eq_true rfl) ?_
  intro p e s m args below meth c A Q G B B2 hout
  show Wx p l e rmt_X10_requireRange s m args below meth c k A 3 Q 1 6 0 [some (.int p1), some (.int p2), some (.int p3)] [] h
  refine x_iload0 (pc := 0) G dX10_requireRange_0 ?_
  refine x_iload1 (pc := 1) G dX10_requireRange_1 ?_
  refine x_icmp_lt (pc := 2) (tgt := 10) G dX10_requireRange_2 rfl (fun q => ?_) (fun q1 => ?_)
  · exact z_IAE (pc := 10) G B B2 hout (is := 485) (text := "out of range") (by decide +kernel) dX10_requireRange_10 dX10_requireRange_13 (Or.inr ⟨dX10_requireRange_14, dX10_requireRange_17, dX10_requireRange_20⟩) ⟨Nat.le_of_ble_eq_true rfl, Nat.le_of_ble_eq_true rfl⟩ (Nat.le_of_ble_eq_true rfl) (Nat.le_of_ble_eq_true rfl) ⟨rfl, rfl⟩
  refine x_iload0 (pc := 5) G dX10_requireRange_5 ?_
  refine x_iload2 (pc := 6) G dX10_requireRange_6 ?_
  refine x_icmp_le (pc := 7) (tgt := 21) G dX10_requireRange_7 rfl (fun q => absurd ⟨Int32.not_lt.mp q1, q⟩ hP) (fun _ => ?_)
  exact z_IAE (pc := 10) G B B2 hout (is := 485) (text := "out of range") (by decide +kernel) dX10_requireRange_10 dX10_requireRange_13 (Or.inr ⟨dX10_requireRange_14, dX10_requireRange_17, dX10_requireRange_20⟩) ⟨Nat.le_of_ble_eq_true rfl, Nat.le_of_ble_eq_true rfl⟩ (Nat.le_of_ble_eq_true rfl) (Nat.le_of_ble_eq_true rfl) ⟨rfl, rfl⟩
theorem dX10_thisYear_0 : decode cX10_thisYear 0 = .ok (.aload_n 0, 1) := by decide +kernel
theorem dX10_thisYear_1 : decode cX10_thisYear 1 = .ok (.getfield 49, 3) := by decide +kernel
theorem dX10_thisYear_4 : decode cX10_thisYear 4 = .ok (.sipush 360, 3) := by decide +kernel
theorem dX10_thisYear_7 : decode cX10_thisYear 7 = .ok (.idiv, 1) := by decide +kernel
theorem dX10_thisYear_8 : decode cX10_thisYear 8 = .ok (.ireturn, 1) := by decide +kernel
def k_thisYear  (X : CX) (S : CT) : Int32 :=
    ((ci S 363 0) / 360)
abbrev rm_X10_thisYear : Room := { frames := 0, cells := 0, slots := 0, locals := 0 }
set_option maxRecDepth 100000 in
set_option maxHeartbeats 4000000 in
theorem ck_thisYear {l : Launch} {k : KC} (hl : l.stackTraces = false) {X : CX} {S : CT} (hX : XOK X)   : MC l k yX10_thisYear (.code yX10_thisYear cX10_thisYear 1 (some .int)) rm_X10_thisYear [(vr X 11 0)] (cW k X S) (pR (some (.int (k_thisYear X S))) (cW k X S)) := by
  refine MC.of 0 hl (by decide) (by simp only [lg_sl_vr, lg_sl_i, lg_sl_l, lg_sl_0]; exact Nat.le_of_ble_eq_true rfl) ?_
  intro p e s m args below meth c A Q G B B2 hout
  simp only [lp_args_vr, lp_args_i, lp_args_l, lp_args_0]
  show Wx p l e rm_X10_thisYear s m args below meth c k A 1 Q 0 0 0 [some ((vr X 11 0))] [] (cW k X S)
  refine z_aload0 (pc := 0) G vr_r dX10_thisYear_0 ?_
  refine z_g (pc := 1) (f := 363) (x := 0) (v := (.int (ci S 363 0))) G kb_11 gb_X10_49 rfl hX.1 hX.l11 cr_363 dX10_thisYear_1 ?_
  refine x_sipush (pc := 4) (v := 360) G dX10_thisYear_4 sp_360 ?_
  refine x_idiv (pc := 7) G dX10_thisYear_7 (by decide) ?_
  exact x_iret (pc := 8) G B rfl dX10_thisYear_8 ⟨by rw [k_thisYear], rfl⟩
theorem dX10_personAt_0 : decode cX10_personAt 0 = .ok (.iload_n 1, 1) := by decide +kernel
theorem dX10_personAt_1 : decode cX10_personAt 1 = .ok (.aload_n 0, 1) := by decide +kernel
theorem dX10_personAt_2 : decode cX10_personAt 2 = .ok (.getfield 10, 3) := by decide +kernel
theorem dX10_personAt_5 : decode cX10_personAt 5 = .ok (.invokevirtual 96, 3) := by decide +kernel
theorem dX10_personAt_8 : decode cX10_personAt 8 = .ok (.invokestatic 156, 3) := by decide +kernel
theorem dX10_personAt_11 : decode cX10_personAt 11 = .ok (.aload_n 0, 1) := by decide +kernel
theorem dX10_personAt_12 : decode cX10_personAt 12 = .ok (.getfield 10, 3) := by decide +kernel
theorem dX10_personAt_15 : decode cX10_personAt 15 = .ok (.iload_n 1, 1) := by decide +kernel
theorem dX10_personAt_16 : decode cX10_personAt 16 = .ok (.invokevirtual 364, 3) := by decide +kernel
theorem dX10_personAt_19 : decode cX10_personAt 19 = .ok (.checkcast 107, 3) := by decide +kernel
theorem dX10_personAt_22 : decode cX10_personAt 22 = .ok (.areturn, 1) := by decide +kernel
abbrev rm_X10_personAt : Room := { frames := 7, cells := 0, slots := 0, locals := 111 }
abbrev rmt_X10_personAt : Room := { frames := 7, cells := 1, slots := 6, locals := 111 }
set_option maxRecDepth 100000 in
set_option maxHeartbeats 4000000 in
theorem ok_personAt {l : Launch} {k : KC} (hl : l.stackTraces = false) {X : CX} {S : CT} (hX : XOK X) {p1 : Int32} (hP : P_num p1 (nS X 20 0)) : MC l k yX10_personAt (.code yX10_personAt cX10_personAt 2 (some (.object "ChitWright$Person"))) rm_X10_personAt [(vr X 11 0), .int p1] (cW k X S) (pR (some (vr X 6 p1)) (cW k X S)) := by
  refine MC.of 0 hl (by decide) (by simp only [lg_sl_vr, lg_sl_i, lg_sl_l, lg_sl_0]; exact Nat.le_of_ble_eq_true rfl) ?_
  intro p e s m args below meth c A Q G B B2 hout
  simp only [lp_args_vr, lp_args_i, lp_args_l, lp_args_0]
  show Wx p l e rm_X10_personAt s m args below meth c k A 2 Q 0 0 0 [some ((vr X 11 0)), some (.int p1)] [] (cW k X S)
  refine x_iload1 (pc := 0) G dX10_personAt_0 ?_
  refine z_aload0 (pc := 1) G vr_r dX10_personAt_1 ?_
  refine z_g (pc := 2) (f := 352) (x := 0) (v := (aR X 20 0)) G kb_11 gb_X10_10 rfl hX.1 hX.l11 cr_352 dX10_personAt_2 ?_
  refine z_size (pc := 5) (Li := 20) (x := 0) G hX.1 hX.lw20 q_ml_X10_96 ⟨Nat.le_of_ble_eq_true rfl, Nat.le_of_ble_eq_true rfl⟩ (Nat.le_of_ble_eq_true rfl) dX10_personAt_5 ?_
  refine x_cSv2 (pc := 8) G (ok_requireNumber hl hP) q_ml_X10_156 h_X10_requireNumber ⟨Nat.le_of_ble_eq_true rfl, Nat.le_of_ble_eq_true rfl⟩ (Nat.le_of_ble_eq_true rfl) (Nat.le_refl _) (Nat.le_refl _) dX10_personAt_8 ?_
  refine z_aload0 (pc := 11) G vr_r dX10_personAt_11 ?_
  refine z_g (pc := 12) (f := 352) (x := 0) (v := (aR X 20 0)) G kb_11 gb_X10_10 rfl hX.1 hX.l11 cr_352 dX10_personAt_12 ?_
  refine x_iload1 (pc := 15) G dX10_personAt_15 ?_
  refine z_get (pc := 16) (Li := 20) (kd := 6) (x := 0) (y := p1) (z := p1) G hX.1 hX.lw20 hP (hX.el20 hP) rfl (hX.ei (by decide)) q_ml_X10_364 ⟨Nat.le_of_ble_eq_true rfl, Nat.le_of_ble_eq_true rfl⟩ (Nat.le_of_ble_eq_true rfl) dX10_personAt_16 ?_
  refine z_cast (pc := 19) G kb_6 hX.1 (hX.el20 hP) q_cl_X10_107 dX10_personAt_19 ?_
  exact x_aret (pc := 22) G B rfl (Or.inl ⟨_, rfl⟩) vr_r dX10_personAt_22 ⟨rfl, rfl⟩
set_option maxRecDepth 100000 in
set_option maxHeartbeats 4000000 in
theorem no_personAt {l : Launch} {k : KC} (hl : l.stackTraces = false) {X : CX} {S : CT} (hX : XOK X) {p1 : Int32} (hP : ¬ (P_num p1 (nS X 20 0))) : MC l k yX10_personAt (.code yX10_personAt cX10_personAt 2 (some (.object "ChitWright$Person"))) rmt_X10_personAt [(vr X 11 0), .int p1] (cW k X S) (pT "java/lang/IndexOutOfBoundsException" (cW k X S)) := by
  refine MC.of 0 hl (by decide) (by simp only [lg_sl_vr, lg_sl_i, lg_sl_l, lg_sl_0]; exact Nat.le_of_ble_eq_true rfl) ?_
  intro p e s m args below meth c A Q G B B2 hout
  simp only [lp_args_vr, lp_args_i, lp_args_l, lp_args_0]
  show Wx p l e rmt_X10_personAt s m args below meth c k A 2 Q 1 6 0 [some ((vr X 11 0)), some (.int p1)] [] (cW k X S)
  refine x_iload1 (pc := 0) G dX10_personAt_0 ?_
  refine z_aload0 (pc := 1) G vr_r dX10_personAt_1 ?_
  refine z_g (pc := 2) (f := 352) (x := 0) (v := (aR X 20 0)) G kb_11 gb_X10_10 rfl hX.1 hX.l11 cr_352 dX10_personAt_2 ?_
  refine z_size (pc := 5) (Li := 20) (x := 0) G hX.1 hX.lw20 q_ml_X10_96 ⟨Nat.le_of_ble_eq_true rfl, Nat.le_of_ble_eq_true rfl⟩ (Nat.le_of_ble_eq_true rfl) dX10_personAt_5 ?_
  exact x_cSt2 (pc := 8) G B B2 hout (no_requireNumber hl hP) q_ml_X10_156 h_X10_requireNumber ⟨Nat.le_of_ble_eq_true rfl, Nat.le_of_ble_eq_true rfl⟩ (Nat.le_of_ble_eq_true rfl) (Nat.le_refl _) (Nat.le_refl _) dX10_personAt_8 ⟨rfl, rfl⟩
theorem dX10_centreAt_0 : decode cX10_centreAt 0 = .ok (.iload_n 1, 1) := by decide +kernel
theorem dX10_centreAt_1 : decode cX10_centreAt 1 = .ok (.aload_n 0, 1) := by decide +kernel
theorem dX10_centreAt_2 : decode cX10_centreAt 2 = .ok (.getfield 16, 3) := by decide +kernel
theorem dX10_centreAt_5 : decode cX10_centreAt 5 = .ok (.invokevirtual 96, 3) := by decide +kernel
theorem dX10_centreAt_8 : decode cX10_centreAt 8 = .ok (.invokestatic 156, 3) := by decide +kernel
theorem dX10_centreAt_11 : decode cX10_centreAt 11 = .ok (.aload_n 0, 1) := by decide +kernel
theorem dX10_centreAt_12 : decode cX10_centreAt 12 = .ok (.getfield 16, 3) := by decide +kernel
theorem dX10_centreAt_15 : decode cX10_centreAt 15 = .ok (.iload_n 1, 1) := by decide +kernel
theorem dX10_centreAt_16 : decode cX10_centreAt 16 = .ok (.invokevirtual 364, 3) := by decide +kernel
theorem dX10_centreAt_19 : decode cX10_centreAt 19 = .ok (.checkcast 72, 3) := by decide +kernel
theorem dX10_centreAt_22 : decode cX10_centreAt 22 = .ok (.areturn, 1) := by decide +kernel
abbrev rm_X10_centreAt : Room := { frames := 7, cells := 0, slots := 0, locals := 111 }
abbrev rmt_X10_centreAt : Room := { frames := 7, cells := 1, slots := 6, locals := 111 }
set_option maxRecDepth 100000 in
set_option maxHeartbeats 4000000 in
theorem ok_centreAt {l : Launch} {k : KC} (hl : l.stackTraces = false) {X : CX} {S : CT} (hX : XOK X) {p1 : Int32} (hP : P_num p1 (nS X 21 0)) : MC l k yX10_centreAt (.code yX10_centreAt cX10_centreAt 2 (some (.object "ChitWright$Centre"))) rm_X10_centreAt [(vr X 11 0), .int p1] (cW k X S) (pR (some (vr X 1 p1)) (cW k X S)) := by
  refine MC.of 0 hl (by decide) (by simp only [lg_sl_vr, lg_sl_i, lg_sl_l, lg_sl_0]; exact Nat.le_of_ble_eq_true rfl) ?_
  intro p e s m args below meth c A Q G B B2 hout
  simp only [lp_args_vr, lp_args_i, lp_args_l, lp_args_0]
  show Wx p l e rm_X10_centreAt s m args below meth c k A 2 Q 0 0 0 [some ((vr X 11 0)), some (.int p1)] [] (cW k X S)
  refine x_iload1 (pc := 0) G dX10_centreAt_0 ?_
  refine z_aload0 (pc := 1) G vr_r dX10_centreAt_1 ?_
  refine z_g (pc := 2) (f := 353) (x := 0) (v := (aR X 21 0)) G kb_11 gb_X10_16 rfl hX.1 hX.l11 cr_353 dX10_centreAt_2 ?_
  refine z_size (pc := 5) (Li := 21) (x := 0) G hX.1 hX.lw21 q_ml_X10_96 ⟨Nat.le_of_ble_eq_true rfl, Nat.le_of_ble_eq_true rfl⟩ (Nat.le_of_ble_eq_true rfl) dX10_centreAt_5 ?_
  refine x_cSv2 (pc := 8) G (ok_requireNumber hl hP) q_ml_X10_156 h_X10_requireNumber ⟨Nat.le_of_ble_eq_true rfl, Nat.le_of_ble_eq_true rfl⟩ (Nat.le_of_ble_eq_true rfl) (Nat.le_refl _) (Nat.le_refl _) dX10_centreAt_8 ?_
  refine z_aload0 (pc := 11) G vr_r dX10_centreAt_11 ?_
  refine z_g (pc := 12) (f := 353) (x := 0) (v := (aR X 21 0)) G kb_11 gb_X10_16 rfl hX.1 hX.l11 cr_353 dX10_centreAt_12 ?_
  refine x_iload1 (pc := 15) G dX10_centreAt_15 ?_
  refine z_get (pc := 16) (Li := 21) (kd := 1) (x := 0) (y := p1) (z := p1) G hX.1 hX.lw21 hP (hX.el21 hP) rfl (hX.ei (by decide)) q_ml_X10_364 ⟨Nat.le_of_ble_eq_true rfl, Nat.le_of_ble_eq_true rfl⟩ (Nat.le_of_ble_eq_true rfl) dX10_centreAt_16 ?_
  refine z_cast (pc := 19) G kb_1 hX.1 (hX.el21 hP) q_cl_X10_72 dX10_centreAt_19 ?_
  exact x_aret (pc := 22) G B rfl (Or.inl ⟨_, rfl⟩) vr_r dX10_centreAt_22 ⟨rfl, rfl⟩
set_option maxRecDepth 100000 in
set_option maxHeartbeats 4000000 in
theorem no_centreAt {l : Launch} {k : KC} (hl : l.stackTraces = false) {X : CX} {S : CT} (hX : XOK X) {p1 : Int32} (hP : ¬ (P_num p1 (nS X 21 0))) : MC l k yX10_centreAt (.code yX10_centreAt cX10_centreAt 2 (some (.object "ChitWright$Centre"))) rmt_X10_centreAt [(vr X 11 0), .int p1] (cW k X S) (pT "java/lang/IndexOutOfBoundsException" (cW k X S)) := by
  refine MC.of 0 hl (by decide) (by simp only [lg_sl_vr, lg_sl_i, lg_sl_l, lg_sl_0]; exact Nat.le_of_ble_eq_true rfl) ?_
  intro p e s m args below meth c A Q G B B2 hout
  simp only [lp_args_vr, lp_args_i, lp_args_l, lp_args_0]
  show Wx p l e rmt_X10_centreAt s m args below meth c k A 2 Q 1 6 0 [some ((vr X 11 0)), some (.int p1)] [] (cW k X S)
  refine x_iload1 (pc := 0) G dX10_centreAt_0 ?_
  refine z_aload0 (pc := 1) G vr_r dX10_centreAt_1 ?_
  refine z_g (pc := 2) (f := 353) (x := 0) (v := (aR X 21 0)) G kb_11 gb_X10_16 rfl hX.1 hX.l11 cr_353 dX10_centreAt_2 ?_
  refine z_size (pc := 5) (Li := 21) (x := 0) G hX.1 hX.lw21 q_ml_X10_96 ⟨Nat.le_of_ble_eq_true rfl, Nat.le_of_ble_eq_true rfl⟩ (Nat.le_of_ble_eq_true rfl) dX10_centreAt_5 ?_
  exact x_cSt2 (pc := 8) G B B2 hout (no_requireNumber hl hP) q_ml_X10_156 h_X10_requireNumber ⟨Nat.le_of_ble_eq_true rfl, Nat.le_of_ble_eq_true rfl⟩ (Nat.le_of_ble_eq_true rfl) (Nat.le_refl _) (Nat.le_refl _) dX10_centreAt_8 ⟨rfl, rfl⟩
theorem dX10_moneyAt_0 : decode cX10_moneyAt 0 = .ok (.iload_n 1, 1) := by decide +kernel
theorem dX10_moneyAt_1 : decode cX10_moneyAt 1 = .ok (.aload_n 0, 1) := by decide +kernel
theorem dX10_moneyAt_2 : decode cX10_moneyAt 2 = .ok (.getfield 19, 3) := by decide +kernel
theorem dX10_moneyAt_5 : decode cX10_moneyAt 5 = .ok (.invokevirtual 96, 3) := by decide +kernel
theorem dX10_moneyAt_8 : decode cX10_moneyAt 8 = .ok (.invokestatic 156, 3) := by decide +kernel
theorem dX10_moneyAt_11 : decode cX10_moneyAt 11 = .ok (.aload_n 0, 1) := by decide +kernel
theorem dX10_moneyAt_12 : decode cX10_moneyAt 12 = .ok (.getfield 19, 3) := by decide +kernel
theorem dX10_moneyAt_15 : decode cX10_moneyAt 15 = .ok (.iload_n 1, 1) := by decide +kernel
theorem dX10_moneyAt_16 : decode cX10_moneyAt 16 = .ok (.invokevirtual 364, 3) := by decide +kernel
theorem dX10_moneyAt_19 : decode cX10_moneyAt 19 = .ok (.checkcast 79, 3) := by decide +kernel
theorem dX10_moneyAt_22 : decode cX10_moneyAt 22 = .ok (.areturn, 1) := by decide +kernel
abbrev rm_X10_moneyAt : Room := { frames := 7, cells := 0, slots := 0, locals := 111 }
abbrev rmt_X10_moneyAt : Room := { frames := 7, cells := 1, slots := 6, locals := 111 }
set_option maxRecDepth 100000 in
set_option maxHeartbeats 4000000 in
theorem ok_moneyAt {l : Launch} {k : KC} (hl : l.stackTraces = false) {X : CX} {S : CT} (hX : XOK X) {p1 : Int32} (hP : P_num p1 (nS X 22 0)) : MC l k yX10_moneyAt (.code yX10_moneyAt cX10_moneyAt 2 (some (.object "ChitWright$Money"))) rm_X10_moneyAt [(vr X 11 0), .int p1] (cW k X S) (pR (some (vr X 5 p1)) (cW k X S)) := by
  refine MC.of 0 hl (by decide) (by simp only [lg_sl_vr, lg_sl_i, lg_sl_l, lg_sl_0]; exact Nat.le_of_ble_eq_true rfl) ?_
  intro p e s m args below meth c A Q G B B2 hout
  simp only [lp_args_vr, lp_args_i, lp_args_l, lp_args_0]
  show Wx p l e rm_X10_moneyAt s m args below meth c k A 2 Q 0 0 0 [some ((vr X 11 0)), some (.int p1)] [] (cW k X S)
  refine x_iload1 (pc := 0) G dX10_moneyAt_0 ?_
  refine z_aload0 (pc := 1) G vr_r dX10_moneyAt_1 ?_
  refine z_g (pc := 2) (f := 354) (x := 0) (v := (aR X 22 0)) G kb_11 gb_X10_19 rfl hX.1 hX.l11 cr_354 dX10_moneyAt_2 ?_
  refine z_size (pc := 5) (Li := 22) (x := 0) G hX.1 hX.lw22 q_ml_X10_96 ⟨Nat.le_of_ble_eq_true rfl, Nat.le_of_ble_eq_true rfl⟩ (Nat.le_of_ble_eq_true rfl) dX10_moneyAt_5 ?_
  refine x_cSv2 (pc := 8) G (ok_requireNumber hl hP) q_ml_X10_156 h_X10_requireNumber ⟨Nat.le_of_ble_eq_true rfl, Nat.le_of_ble_eq_true rfl⟩ (Nat.le_of_ble_eq_true rfl) (Nat.le_refl _) (Nat.le_refl _) dX10_moneyAt_8 ?_
  refine z_aload0 (pc := 11) G vr_r dX10_moneyAt_11 ?_
  refine z_g (pc := 12) (f := 354) (x := 0) (v := (aR X 22 0)) G kb_11 gb_X10_19 rfl hX.1 hX.l11 cr_354 dX10_moneyAt_12 ?_
  refine x_iload1 (pc := 15) G dX10_moneyAt_15 ?_
  refine z_get (pc := 16) (Li := 22) (kd := 5) (x := 0) (y := p1) (z := p1) G hX.1 hX.lw22 hP (hX.el22 hP) rfl (hX.ei (by decide)) q_ml_X10_364 ⟨Nat.le_of_ble_eq_true rfl, Nat.le_of_ble_eq_true rfl⟩ (Nat.le_of_ble_eq_true rfl) dX10_moneyAt_16 ?_
  refine z_cast (pc := 19) G kb_5 hX.1 (hX.el22 hP) q_cl_X10_79 dX10_moneyAt_19 ?_
  exact x_aret (pc := 22) G B rfl (Or.inl ⟨_, rfl⟩) vr_r dX10_moneyAt_22 ⟨rfl, rfl⟩
set_option maxRecDepth 100000 in
set_option maxHeartbeats 4000000 in
theorem no_moneyAt {l : Launch} {k : KC} (hl : l.stackTraces = false) {X : CX} {S : CT} (hX : XOK X) {p1 : Int32} (hP : ¬ (P_num p1 (nS X 22 0))) : MC l k yX10_moneyAt (.code yX10_moneyAt cX10_moneyAt 2 (some (.object "ChitWright$Money"))) rmt_X10_moneyAt [(vr X 11 0), .int p1] (cW k X S) (pT "java/lang/IndexOutOfBoundsException" (cW k X S)) := by
  refine MC.of 0 hl (by decide) (by simp only [lg_sl_vr, lg_sl_i, lg_sl_l, lg_sl_0]; exact Nat.le_of_ble_eq_true rfl) ?_
  intro p e s m args below meth c A Q G B B2 hout
  simp only [lp_args_vr, lp_args_i, lp_args_l, lp_args_0]
  show Wx p l e rmt_X10_moneyAt s m args below meth c k A 2 Q 1 6 0 [some ((vr X 11 0)), some (.int p1)] [] (cW k X S)
  refine x_iload1 (pc := 0) G dX10_moneyAt_0 ?_
  refine z_aload0 (pc := 1) G vr_r dX10_moneyAt_1 ?_
  refine z_g (pc := 2) (f := 354) (x := 0) (v := (aR X 22 0)) G kb_11 gb_X10_19 rfl hX.1 hX.l11 cr_354 dX10_moneyAt_2 ?_
  refine z_size (pc := 5) (Li := 22) (x := 0) G hX.1 hX.lw22 q_ml_X10_96 ⟨Nat.le_of_ble_eq_true rfl, Nat.le_of_ble_eq_true rfl⟩ (Nat.le_of_ble_eq_true rfl) dX10_moneyAt_5 ?_
  exact x_cSt2 (pc := 8) G B B2 hout (no_requireNumber hl hP) q_ml_X10_156 h_X10_requireNumber ⟨Nat.le_of_ble_eq_true rfl, Nat.le_of_ble_eq_true rfl⟩ (Nat.le_of_ble_eq_true rfl) (Nat.le_refl _) (Nat.le_refl _) dX10_moneyAt_8 ⟨rfl, rfl⟩
theorem dX10_supplierAt_0 : decode cX10_supplierAt 0 = .ok (.iload_n 1, 1) := by decide +kernel
theorem dX10_supplierAt_1 : decode cX10_supplierAt 1 = .ok (.aload_n 0, 1) := by decide +kernel
theorem dX10_supplierAt_2 : decode cX10_supplierAt 2 = .ok (.getfield 22, 3) := by decide +kernel
theorem dX10_supplierAt_5 : decode cX10_supplierAt 5 = .ok (.invokevirtual 96, 3) := by decide +kernel
theorem dX10_supplierAt_8 : decode cX10_supplierAt 8 = .ok (.invokestatic 156, 3) := by decide +kernel
theorem dX10_supplierAt_11 : decode cX10_supplierAt 11 = .ok (.aload_n 0, 1) := by decide +kernel
theorem dX10_supplierAt_12 : decode cX10_supplierAt 12 = .ok (.getfield 22, 3) := by decide +kernel
theorem dX10_supplierAt_15 : decode cX10_supplierAt 15 = .ok (.iload_n 1, 1) := by decide +kernel
theorem dX10_supplierAt_16 : decode cX10_supplierAt 16 = .ok (.invokevirtual 364, 3) := by decide +kernel
theorem dX10_supplierAt_19 : decode cX10_supplierAt 19 = .ok (.checkcast 82, 3) := by decide +kernel
theorem dX10_supplierAt_22 : decode cX10_supplierAt 22 = .ok (.areturn, 1) := by decide +kernel
abbrev rm_X10_supplierAt : Room := { frames := 7, cells := 0, slots := 0, locals := 111 }
abbrev rmt_X10_supplierAt : Room := { frames := 7, cells := 1, slots := 6, locals := 111 }
set_option maxRecDepth 100000 in
set_option maxHeartbeats 4000000 in
theorem ok_supplierAt {l : Launch} {k : KC} (hl : l.stackTraces = false) {X : CX} {S : CT} (hX : XOK X) {p1 : Int32} (hP : P_num p1 (nS X 23 0)) : MC l k yX10_supplierAt (.code yX10_supplierAt cX10_supplierAt 2 (some (.object "ChitWright$Supplier"))) rm_X10_supplierAt [(vr X 11 0), .int p1] (cW k X S) (pR (some (vr X 9 p1)) (cW k X S)) := by
  refine MC.of 0 hl (by decide) (by simp only [lg_sl_vr, lg_sl_i, lg_sl_l, lg_sl_0]; exact Nat.le_of_ble_eq_true rfl) ?_
  intro p e s m args below meth c A Q G B B2 hout
  simp only [lp_args_vr, lp_args_i, lp_args_l, lp_args_0]
  show Wx p l e rm_X10_supplierAt s m args below meth c k A 2 Q 0 0 0 [some ((vr X 11 0)), some (.int p1)] [] (cW k X S)
  refine x_iload1 (pc := 0) G dX10_supplierAt_0 ?_
  refine z_aload0 (pc := 1) G vr_r dX10_supplierAt_1 ?_
  refine z_g (pc := 2) (f := 355) (x := 0) (v := (aR X 23 0)) G kb_11 gb_X10_22 rfl hX.1 hX.l11 cr_355 dX10_supplierAt_2 ?_
  refine z_size (pc := 5) (Li := 23) (x := 0) G hX.1 hX.lw23 q_ml_X10_96 ⟨Nat.le_of_ble_eq_true rfl, Nat.le_of_ble_eq_true rfl⟩ (Nat.le_of_ble_eq_true rfl) dX10_supplierAt_5 ?_
  refine x_cSv2 (pc := 8) G (ok_requireNumber hl hP) q_ml_X10_156 h_X10_requireNumber ⟨Nat.le_of_ble_eq_true rfl, Nat.le_of_ble_eq_true rfl⟩ (Nat.le_of_ble_eq_true rfl) (Nat.le_refl _) (Nat.le_refl _) dX10_supplierAt_8 ?_
  refine z_aload0 (pc := 11) G vr_r dX10_supplierAt_11 ?_
  refine z_g (pc := 12) (f := 355) (x := 0) (v := (aR X 23 0)) G kb_11 gb_X10_22 rfl hX.1 hX.l11 cr_355 dX10_supplierAt_12 ?_
  refine x_iload1 (pc := 15) G dX10_supplierAt_15 ?_
  refine z_get (pc := 16) (Li := 23) (kd := 9) (x := 0) (y := p1) (z := p1) G hX.1 hX.lw23 hP (hX.el23 hP) rfl (hX.ei (by decide)) q_ml_X10_364 ⟨Nat.le_of_ble_eq_true rfl, Nat.le_of_ble_eq_true rfl⟩ (Nat.le_of_ble_eq_true rfl) dX10_supplierAt_16 ?_
  refine z_cast (pc := 19) G kb_9 hX.1 (hX.el23 hP) q_cl_X10_82 dX10_supplierAt_19 ?_
  exact x_aret (pc := 22) G B rfl (Or.inl ⟨_, rfl⟩) vr_r dX10_supplierAt_22 ⟨rfl, rfl⟩
set_option maxRecDepth 100000 in
set_option maxHeartbeats 4000000 in
theorem no_supplierAt {l : Launch} {k : KC} (hl : l.stackTraces = false) {X : CX} {S : CT} (hX : XOK X) {p1 : Int32} (hP : ¬ (P_num p1 (nS X 23 0))) : MC l k yX10_supplierAt (.code yX10_supplierAt cX10_supplierAt 2 (some (.object "ChitWright$Supplier"))) rmt_X10_supplierAt [(vr X 11 0), .int p1] (cW k X S) (pT "java/lang/IndexOutOfBoundsException" (cW k X S)) := by
  refine MC.of 0 hl (by decide) (by simp only [lg_sl_vr, lg_sl_i, lg_sl_l, lg_sl_0]; exact Nat.le_of_ble_eq_true rfl) ?_
  intro p e s m args below meth c A Q G B B2 hout
  simp only [lp_args_vr, lp_args_i, lp_args_l, lp_args_0]
  show Wx p l e rmt_X10_supplierAt s m args below meth c k A 2 Q 1 6 0 [some ((vr X 11 0)), some (.int p1)] [] (cW k X S)
  refine x_iload1 (pc := 0) G dX10_supplierAt_0 ?_
  refine z_aload0 (pc := 1) G vr_r dX10_supplierAt_1 ?_
  refine z_g (pc := 2) (f := 355) (x := 0) (v := (aR X 23 0)) G kb_11 gb_X10_22 rfl hX.1 hX.l11 cr_355 dX10_supplierAt_2 ?_
  refine z_size (pc := 5) (Li := 23) (x := 0) G hX.1 hX.lw23 q_ml_X10_96 ⟨Nat.le_of_ble_eq_true rfl, Nat.le_of_ble_eq_true rfl⟩ (Nat.le_of_ble_eq_true rfl) dX10_supplierAt_5 ?_
  exact x_cSt2 (pc := 8) G B B2 hout (no_requireNumber hl hP) q_ml_X10_156 h_X10_requireNumber ⟨Nat.le_of_ble_eq_true rfl, Nat.le_of_ble_eq_true rfl⟩ (Nat.le_of_ble_eq_true rfl) (Nat.le_refl _) (Nat.le_refl _) dX10_supplierAt_8 ⟨rfl, rfl⟩
theorem dX10_requestAt_0 : decode cX10_requestAt 0 = .ok (.iload_n 1, 1) := by decide +kernel
theorem dX10_requestAt_1 : decode cX10_requestAt 1 = .ok (.aload_n 0, 1) := by decide +kernel
theorem dX10_requestAt_2 : decode cX10_requestAt 2 = .ok (.getfield 25, 3) := by decide +kernel
theorem dX10_requestAt_5 : decode cX10_requestAt 5 = .ok (.invokevirtual 96, 3) := by decide +kernel
theorem dX10_requestAt_8 : decode cX10_requestAt 8 = .ok (.invokestatic 156, 3) := by decide +kernel
theorem dX10_requestAt_11 : decode cX10_requestAt 11 = .ok (.aload_n 0, 1) := by decide +kernel
theorem dX10_requestAt_12 : decode cX10_requestAt 12 = .ok (.getfield 25, 3) := by decide +kernel
theorem dX10_requestAt_15 : decode cX10_requestAt 15 = .ok (.iload_n 1, 1) := by decide +kernel
theorem dX10_requestAt_16 : decode cX10_requestAt 16 = .ok (.invokevirtual 364, 3) := by decide +kernel
theorem dX10_requestAt_19 : decode cX10_requestAt 19 = .ok (.checkcast 199, 3) := by decide +kernel
theorem dX10_requestAt_22 : decode cX10_requestAt 22 = .ok (.areturn, 1) := by decide +kernel
abbrev rm_X10_requestAt : Room := { frames := 7, cells := 0, slots := 0, locals := 111 }
abbrev rmt_X10_requestAt : Room := { frames := 7, cells := 1, slots := 6, locals := 111 }
set_option maxRecDepth 100000 in
set_option maxHeartbeats 4000000 in
theorem ok_requestAt {l : Launch} {k : KC} (hl : l.stackTraces = false) {X : CX} {S : CT} (hX : XOK X) {p1 : Int32} (hP : P_num p1 (nS X 24 0)) : MC l k yX10_requestAt (.code yX10_requestAt cX10_requestAt 2 (some (.object "ChitWright$Request"))) rm_X10_requestAt [(vr X 11 0), .int p1] (cW k X S) (pR (some (vr X 8 p1)) (cW k X S)) := by
  refine MC.of 0 hl (by decide) (by simp only [lg_sl_vr, lg_sl_i, lg_sl_l, lg_sl_0]; exact Nat.le_of_ble_eq_true rfl) ?_
  intro p e s m args below meth c A Q G B B2 hout
  simp only [lp_args_vr, lp_args_i, lp_args_l, lp_args_0]
  show Wx p l e rm_X10_requestAt s m args below meth c k A 2 Q 0 0 0 [some ((vr X 11 0)), some (.int p1)] [] (cW k X S)
  refine x_iload1 (pc := 0) G dX10_requestAt_0 ?_
  refine z_aload0 (pc := 1) G vr_r dX10_requestAt_1 ?_
  refine z_g (pc := 2) (f := 356) (x := 0) (v := (aR X 24 0)) G kb_11 gb_X10_25 rfl hX.1 hX.l11 cr_356 dX10_requestAt_2 ?_
  refine z_size (pc := 5) (Li := 24) (x := 0) G hX.1 hX.lw24 q_ml_X10_96 ⟨Nat.le_of_ble_eq_true rfl, Nat.le_of_ble_eq_true rfl⟩ (Nat.le_of_ble_eq_true rfl) dX10_requestAt_5 ?_
  refine x_cSv2 (pc := 8) G (ok_requireNumber hl hP) q_ml_X10_156 h_X10_requireNumber ⟨Nat.le_of_ble_eq_true rfl, Nat.le_of_ble_eq_true rfl⟩ (Nat.le_of_ble_eq_true rfl) (Nat.le_refl _) (Nat.le_refl _) dX10_requestAt_8 ?_
  refine z_aload0 (pc := 11) G vr_r dX10_requestAt_11 ?_
  refine z_g (pc := 12) (f := 356) (x := 0) (v := (aR X 24 0)) G kb_11 gb_X10_25 rfl hX.1 hX.l11 cr_356 dX10_requestAt_12 ?_
  refine x_iload1 (pc := 15) G dX10_requestAt_15 ?_
  refine z_get (pc := 16) (Li := 24) (kd := 8) (x := 0) (y := p1) (z := p1) G hX.1 hX.lw24 hP (hX.el24 hP) rfl (hX.ei (by decide)) q_ml_X10_364 ⟨Nat.le_of_ble_eq_true rfl, Nat.le_of_ble_eq_true rfl⟩ (Nat.le_of_ble_eq_true rfl) dX10_requestAt_16 ?_
  refine z_cast (pc := 19) G kb_8 hX.1 (hX.el24 hP) q_cl_X10_199 dX10_requestAt_19 ?_
  exact x_aret (pc := 22) G B rfl (Or.inl ⟨_, rfl⟩) vr_r dX10_requestAt_22 ⟨rfl, rfl⟩
set_option maxRecDepth 100000 in
set_option maxHeartbeats 4000000 in
theorem no_requestAt {l : Launch} {k : KC} (hl : l.stackTraces = false) {X : CX} {S : CT} (hX : XOK X) {p1 : Int32} (hP : ¬ (P_num p1 (nS X 24 0))) : MC l k yX10_requestAt (.code yX10_requestAt cX10_requestAt 2 (some (.object "ChitWright$Request"))) rmt_X10_requestAt [(vr X 11 0), .int p1] (cW k X S) (pT "java/lang/IndexOutOfBoundsException" (cW k X S)) := by
  refine MC.of 0 hl (by decide) (by simp only [lg_sl_vr, lg_sl_i, lg_sl_l, lg_sl_0]; exact Nat.le_of_ble_eq_true rfl) ?_
  intro p e s m args below meth c A Q G B B2 hout
  simp only [lp_args_vr, lp_args_i, lp_args_l, lp_args_0]
  show Wx p l e rmt_X10_requestAt s m args below meth c k A 2 Q 1 6 0 [some ((vr X 11 0)), some (.int p1)] [] (cW k X S)
  refine x_iload1 (pc := 0) G dX10_requestAt_0 ?_
  refine z_aload0 (pc := 1) G vr_r dX10_requestAt_1 ?_
  refine z_g (pc := 2) (f := 356) (x := 0) (v := (aR X 24 0)) G kb_11 gb_X10_25 rfl hX.1 hX.l11 cr_356 dX10_requestAt_2 ?_
  refine z_size (pc := 5) (Li := 24) (x := 0) G hX.1 hX.lw24 q_ml_X10_96 ⟨Nat.le_of_ble_eq_true rfl, Nat.le_of_ble_eq_true rfl⟩ (Nat.le_of_ble_eq_true rfl) dX10_requestAt_5 ?_
  exact x_cSt2 (pc := 8) G B B2 hout (no_requireNumber hl hP) q_ml_X10_156 h_X10_requireNumber ⟨Nat.le_of_ble_eq_true rfl, Nat.le_of_ble_eq_true rfl⟩ (Nat.le_of_ble_eq_true rfl) (Nat.le_refl _) (Nat.le_refl _) dX10_requestAt_8 ⟨rfl, rfl⟩
theorem dX10_invoiceAt_0 : decode cX10_invoiceAt 0 = .ok (.iload_n 1, 1) := by decide +kernel
theorem dX10_invoiceAt_1 : decode cX10_invoiceAt 1 = .ok (.aload_n 0, 1) := by decide +kernel
theorem dX10_invoiceAt_2 : decode cX10_invoiceAt 2 = .ok (.getfield 28, 3) := by decide +kernel
theorem dX10_invoiceAt_5 : decode cX10_invoiceAt 5 = .ok (.invokevirtual 96, 3) := by decide +kernel
theorem dX10_invoiceAt_8 : decode cX10_invoiceAt 8 = .ok (.invokestatic 156, 3) := by decide +kernel
theorem dX10_invoiceAt_11 : decode cX10_invoiceAt 11 = .ok (.aload_n 0, 1) := by decide +kernel
theorem dX10_invoiceAt_12 : decode cX10_invoiceAt 12 = .ok (.getfield 28, 3) := by decide +kernel
theorem dX10_invoiceAt_15 : decode cX10_invoiceAt 15 = .ok (.iload_n 1, 1) := by decide +kernel
theorem dX10_invoiceAt_16 : decode cX10_invoiceAt 16 = .ok (.invokevirtual 364, 3) := by decide +kernel
theorem dX10_invoiceAt_19 : decode cX10_invoiceAt 19 = .ok (.checkcast 340, 3) := by decide +kernel
theorem dX10_invoiceAt_22 : decode cX10_invoiceAt 22 = .ok (.areturn, 1) := by decide +kernel
abbrev rm_X10_invoiceAt : Room := { frames := 7, cells := 0, slots := 0, locals := 111 }
abbrev rmt_X10_invoiceAt : Room := { frames := 7, cells := 1, slots := 6, locals := 111 }
set_option maxRecDepth 100000 in
set_option maxHeartbeats 4000000 in
theorem ok_invoiceAt {l : Launch} {k : KC} (hl : l.stackTraces = false) {X : CX} {S : CT} (hX : XOK X) {p1 : Int32} (hP : P_num p1 (nS X 25 0)) : MC l k yX10_invoiceAt (.code yX10_invoiceAt cX10_invoiceAt 2 (some (.object "ChitWright$Invoice"))) rm_X10_invoiceAt [(vr X 11 0), .int p1] (cW k X S) (pR (some (vr X 3 p1)) (cW k X S)) := by
  refine MC.of 0 hl (by decide) (by simp only [lg_sl_vr, lg_sl_i, lg_sl_l, lg_sl_0]; exact Nat.le_of_ble_eq_true rfl) ?_
  intro p e s m args below meth c A Q G B B2 hout
  simp only [lp_args_vr, lp_args_i, lp_args_l, lp_args_0]
  show Wx p l e rm_X10_invoiceAt s m args below meth c k A 2 Q 0 0 0 [some ((vr X 11 0)), some (.int p1)] [] (cW k X S)
  refine x_iload1 (pc := 0) G dX10_invoiceAt_0 ?_
  refine z_aload0 (pc := 1) G vr_r dX10_invoiceAt_1 ?_
  refine z_g (pc := 2) (f := 357) (x := 0) (v := (aR X 25 0)) G kb_11 gb_X10_28 rfl hX.1 hX.l11 cr_357 dX10_invoiceAt_2 ?_
  refine z_size (pc := 5) (Li := 25) (x := 0) G hX.1 hX.lw25 q_ml_X10_96 ⟨Nat.le_of_ble_eq_true rfl, Nat.le_of_ble_eq_true rfl⟩ (Nat.le_of_ble_eq_true rfl) dX10_invoiceAt_5 ?_
  refine x_cSv2 (pc := 8) G (ok_requireNumber hl hP) q_ml_X10_156 h_X10_requireNumber ⟨Nat.le_of_ble_eq_true rfl, Nat.le_of_ble_eq_true rfl⟩ (Nat.le_of_ble_eq_true rfl) (Nat.le_refl _) (Nat.le_refl _) dX10_invoiceAt_8 ?_
  refine z_aload0 (pc := 11) G vr_r dX10_invoiceAt_11 ?_
  refine z_g (pc := 12) (f := 357) (x := 0) (v := (aR X 25 0)) G kb_11 gb_X10_28 rfl hX.1 hX.l11 cr_357 dX10_invoiceAt_12 ?_
  refine x_iload1 (pc := 15) G dX10_invoiceAt_15 ?_
  refine z_get (pc := 16) (Li := 25) (kd := 3) (x := 0) (y := p1) (z := p1) G hX.1 hX.lw25 hP (hX.el25 hP) rfl (hX.ei (by decide)) q_ml_X10_364 ⟨Nat.le_of_ble_eq_true rfl, Nat.le_of_ble_eq_true rfl⟩ (Nat.le_of_ble_eq_true rfl) dX10_invoiceAt_16 ?_
  refine z_cast (pc := 19) G kb_3 hX.1 (hX.el25 hP) q_cl_X10_340 dX10_invoiceAt_19 ?_
  exact x_aret (pc := 22) G B rfl (Or.inl ⟨_, rfl⟩) vr_r dX10_invoiceAt_22 ⟨rfl, rfl⟩
set_option maxRecDepth 100000 in
set_option maxHeartbeats 4000000 in
theorem no_invoiceAt {l : Launch} {k : KC} (hl : l.stackTraces = false) {X : CX} {S : CT} (hX : XOK X) {p1 : Int32} (hP : ¬ (P_num p1 (nS X 25 0))) : MC l k yX10_invoiceAt (.code yX10_invoiceAt cX10_invoiceAt 2 (some (.object "ChitWright$Invoice"))) rmt_X10_invoiceAt [(vr X 11 0), .int p1] (cW k X S) (pT "java/lang/IndexOutOfBoundsException" (cW k X S)) := by
  refine MC.of 0 hl (by decide) (by simp only [lg_sl_vr, lg_sl_i, lg_sl_l, lg_sl_0]; exact Nat.le_of_ble_eq_true rfl) ?_
  intro p e s m args below meth c A Q G B B2 hout
  simp only [lp_args_vr, lp_args_i, lp_args_l, lp_args_0]
  show Wx p l e rmt_X10_invoiceAt s m args below meth c k A 2 Q 1 6 0 [some ((vr X 11 0)), some (.int p1)] [] (cW k X S)
  refine x_iload1 (pc := 0) G dX10_invoiceAt_0 ?_
  refine z_aload0 (pc := 1) G vr_r dX10_invoiceAt_1 ?_
  refine z_g (pc := 2) (f := 357) (x := 0) (v := (aR X 25 0)) G kb_11 gb_X10_28 rfl hX.1 hX.l11 cr_357 dX10_invoiceAt_2 ?_
  refine z_size (pc := 5) (Li := 25) (x := 0) G hX.1 hX.lw25 q_ml_X10_96 ⟨Nat.le_of_ble_eq_true rfl, Nat.le_of_ble_eq_true rfl⟩ (Nat.le_of_ble_eq_true rfl) dX10_invoiceAt_5 ?_
  exact x_cSt2 (pc := 8) G B B2 hout (no_requireNumber hl hP) q_ml_X10_156 h_X10_requireNumber ⟨Nat.le_of_ble_eq_true rfl, Nat.le_of_ble_eq_true rfl⟩ (Nat.le_of_ble_eq_true rfl) (Nat.le_refl _) (Nat.le_refl _) dX10_invoiceAt_8 ⟨rfl, rfl⟩
theorem dX10_entryAt_0 : decode cX10_entryAt 0 = .ok (.iload_n 1, 1) := by decide +kernel
theorem dX10_entryAt_1 : decode cX10_entryAt 1 = .ok (.aload_n 0, 1) := by decide +kernel
theorem dX10_entryAt_2 : decode cX10_entryAt 2 = .ok (.getfield 34, 3) := by decide +kernel
theorem dX10_entryAt_5 : decode cX10_entryAt 5 = .ok (.invokevirtual 96, 3) := by decide +kernel
theorem dX10_entryAt_8 : decode cX10_entryAt 8 = .ok (.invokestatic 156, 3) := by decide +kernel
theorem dX10_entryAt_11 : decode cX10_entryAt 11 = .ok (.aload_n 0, 1) := by decide +kernel
theorem dX10_entryAt_12 : decode cX10_entryAt 12 = .ok (.getfield 34, 3) := by decide +kernel
theorem dX10_entryAt_15 : decode cX10_entryAt 15 = .ok (.iload_n 1, 1) := by decide +kernel
theorem dX10_entryAt_16 : decode cX10_entryAt 16 = .ok (.invokevirtual 364, 3) := by decide +kernel
theorem dX10_entryAt_19 : decode cX10_entryAt 19 = .ok (.checkcast 422, 3) := by decide +kernel
theorem dX10_entryAt_22 : decode cX10_entryAt 22 = .ok (.areturn, 1) := by decide +kernel
abbrev rm_X10_entryAt : Room := { frames := 7, cells := 0, slots := 0, locals := 111 }
abbrev rmt_X10_entryAt : Room := { frames := 7, cells := 1, slots := 6, locals := 111 }
set_option maxRecDepth 100000 in
set_option maxHeartbeats 4000000 in
theorem ok_entryAt {l : Launch} {k : KC} (hl : l.stackTraces = false) {X : CX} {S : CT} (hX : XOK X) {p1 : Int32} (hP : P_num p1 (nS X 27 0)) : MC l k yX10_entryAt (.code yX10_entryAt cX10_entryAt 2 (some (.object "ChitWright$Entry"))) rm_X10_entryAt [(vr X 11 0), .int p1] (cW k X S) (pR (some (vr X 2 p1)) (cW k X S)) := by
  refine MC.of 0 hl (by decide) (by simp only [lg_sl_vr, lg_sl_i, lg_sl_l, lg_sl_0]; exact Nat.le_of_ble_eq_true rfl) ?_
  intro p e s m args below meth c A Q G B B2 hout
  simp only [lp_args_vr, lp_args_i, lp_args_l, lp_args_0]
  show Wx p l e rm_X10_entryAt s m args below meth c k A 2 Q 0 0 0 [some ((vr X 11 0)), some (.int p1)] [] (cW k X S)
  refine x_iload1 (pc := 0) G dX10_entryAt_0 ?_
  refine z_aload0 (pc := 1) G vr_r dX10_entryAt_1 ?_
  refine z_g (pc := 2) (f := 359) (x := 0) (v := (aR X 27 0)) G kb_11 gb_X10_34 rfl hX.1 hX.l11 cr_359 dX10_entryAt_2 ?_
  refine z_size (pc := 5) (Li := 27) (x := 0) G hX.1 hX.lw27 q_ml_X10_96 ⟨Nat.le_of_ble_eq_true rfl, Nat.le_of_ble_eq_true rfl⟩ (Nat.le_of_ble_eq_true rfl) dX10_entryAt_5 ?_
  refine x_cSv2 (pc := 8) G (ok_requireNumber hl hP) q_ml_X10_156 h_X10_requireNumber ⟨Nat.le_of_ble_eq_true rfl, Nat.le_of_ble_eq_true rfl⟩ (Nat.le_of_ble_eq_true rfl) (Nat.le_refl _) (Nat.le_refl _) dX10_entryAt_8 ?_
  refine z_aload0 (pc := 11) G vr_r dX10_entryAt_11 ?_
  refine z_g (pc := 12) (f := 359) (x := 0) (v := (aR X 27 0)) G kb_11 gb_X10_34 rfl hX.1 hX.l11 cr_359 dX10_entryAt_12 ?_
  refine x_iload1 (pc := 15) G dX10_entryAt_15 ?_
  refine z_get (pc := 16) (Li := 27) (kd := 2) (x := 0) (y := p1) (z := p1) G hX.1 hX.lw27 hP (hX.el27 hP) rfl (hX.ei (by decide)) q_ml_X10_364 ⟨Nat.le_of_ble_eq_true rfl, Nat.le_of_ble_eq_true rfl⟩ (Nat.le_of_ble_eq_true rfl) dX10_entryAt_16 ?_
  refine z_cast (pc := 19) G kb_2 hX.1 (hX.el27 hP) q_cl_X10_422 dX10_entryAt_19 ?_
  exact x_aret (pc := 22) G B rfl (Or.inl ⟨_, rfl⟩) vr_r dX10_entryAt_22 ⟨rfl, rfl⟩
set_option maxRecDepth 100000 in
set_option maxHeartbeats 4000000 in
theorem no_entryAt {l : Launch} {k : KC} (hl : l.stackTraces = false) {X : CX} {S : CT} (hX : XOK X) {p1 : Int32} (hP : ¬ (P_num p1 (nS X 27 0))) : MC l k yX10_entryAt (.code yX10_entryAt cX10_entryAt 2 (some (.object "ChitWright$Entry"))) rmt_X10_entryAt [(vr X 11 0), .int p1] (cW k X S) (pT "java/lang/IndexOutOfBoundsException" (cW k X S)) := by
  refine MC.of 0 hl (by decide) (by simp only [lg_sl_vr, lg_sl_i, lg_sl_l, lg_sl_0]; exact Nat.le_of_ble_eq_true rfl) ?_
  intro p e s m args below meth c A Q G B B2 hout
  simp only [lp_args_vr, lp_args_i, lp_args_l, lp_args_0]
  show Wx p l e rmt_X10_entryAt s m args below meth c k A 2 Q 1 6 0 [some ((vr X 11 0)), some (.int p1)] [] (cW k X S)
  refine x_iload1 (pc := 0) G dX10_entryAt_0 ?_
  refine z_aload0 (pc := 1) G vr_r dX10_entryAt_1 ?_
  refine z_g (pc := 2) (f := 359) (x := 0) (v := (aR X 27 0)) G kb_11 gb_X10_34 rfl hX.1 hX.l11 cr_359 dX10_entryAt_2 ?_
  refine z_size (pc := 5) (Li := 27) (x := 0) G hX.1 hX.lw27 q_ml_X10_96 ⟨Nat.le_of_ble_eq_true rfl, Nat.le_of_ble_eq_true rfl⟩ (Nat.le_of_ble_eq_true rfl) dX10_entryAt_5 ?_
  exact x_cSt2 (pc := 8) G B B2 hout (no_requireNumber hl hP) q_ml_X10_156 h_X10_requireNumber ⟨Nat.le_of_ble_eq_true rfl, Nat.le_of_ble_eq_true rfl⟩ (Nat.le_of_ble_eq_true rfl) (Nat.le_refl _) (Nat.le_refl _) dX10_entryAt_8 ⟨rfl, rfl⟩
theorem dX10_lineAt_0 : decode cX10_lineAt 0 = .ok (.iload_n 1, 1) := by decide +kernel
theorem dX10_lineAt_1 : decode cX10_lineAt 1 = .ok (.aload_n 0, 1) := by decide +kernel
theorem dX10_lineAt_2 : decode cX10_lineAt 2 = .ok (.getfield 212, 3) := by decide +kernel
theorem dX10_lineAt_5 : decode cX10_lineAt 5 = .ok (.invokevirtual 96, 3) := by decide +kernel
theorem dX10_lineAt_8 : decode cX10_lineAt 8 = .ok (.invokestatic 156, 3) := by decide +kernel
theorem dX10_lineAt_11 : decode cX10_lineAt 11 = .ok (.aload_n 0, 1) := by decide +kernel
theorem dX10_lineAt_12 : decode cX10_lineAt 12 = .ok (.getfield 212, 3) := by decide +kernel
theorem dX10_lineAt_15 : decode cX10_lineAt 15 = .ok (.iload_n 1, 1) := by decide +kernel
theorem dX10_lineAt_16 : decode cX10_lineAt 16 = .ok (.invokevirtual 364, 3) := by decide +kernel
theorem dX10_lineAt_19 : decode cX10_lineAt 19 = .ok (.checkcast 217, 3) := by decide +kernel
theorem dX10_lineAt_22 : decode cX10_lineAt 22 = .ok (.areturn, 1) := by decide +kernel
abbrev rm_X10_lineAt : Room := { frames := 7, cells := 0, slots := 0, locals := 111 }
abbrev rmt_X10_lineAt : Room := { frames := 7, cells := 1, slots := 6, locals := 111 }
set_option maxRecDepth 100000 in
set_option maxHeartbeats 4000000 in
theorem ok_lineAt {l : Launch} {k : KC} (hl : l.stackTraces = false) {X : CX} {S : CT} (hX : XOK X) {p1 : Int32} {p2 : Int32} (hp1 : lI X 8 p1) (hP : P_num p2 (nS X 29 p1)) : MC l k yX10_lineAt (.code yX10_lineAt cX10_lineAt 2 (some (.object "ChitWright$Line"))) rm_X10_lineAt [(vr X 8 p1), .int p2] (cW k X S) (pR (some (vr X 4 (4 * p1 + p2))) (cW k X S)) := by
  refine MC.of 0 hl (by decide) (by simp only [lg_sl_vr, lg_sl_i, lg_sl_l, lg_sl_0]; exact Nat.le_of_ble_eq_true rfl) ?_
  intro p e s m args below meth c A Q G B B2 hout
  simp only [lp_args_vr, lp_args_i, lp_args_l, lp_args_0]
  show Wx p l e rm_X10_lineAt s m args below meth c k A 2 Q 0 0 0 [some ((vr X 8 p1)), some (.int p2)] [] (cW k X S)
  refine x_iload1 (pc := 0) G dX10_lineAt_0 ?_
  refine z_aload0 (pc := 1) G vr_r dX10_lineAt_1 ?_
  refine z_g (pc := 2) (f := 258) (x := p1) (v := (aR X 29 p1)) G kb_8 gb_X10_212 rfl hX.1 hp1 cr_258 dX10_lineAt_2 ?_
  refine z_size (pc := 5) (Li := 29) (x := p1) G hX.1 (hX.lw29 hp1) q_ml_X10_96 ⟨Nat.le_of_ble_eq_true rfl, Nat.le_of_ble_eq_true rfl⟩ (Nat.le_of_ble_eq_true rfl) dX10_lineAt_5 ?_
  refine x_cSv2 (pc := 8) G (ok_requireNumber hl hP) q_ml_X10_156 h_X10_requireNumber ⟨Nat.le_of_ble_eq_true rfl, Nat.le_of_ble_eq_true rfl⟩ (Nat.le_of_ble_eq_true rfl) (Nat.le_refl _) (Nat.le_refl _) dX10_lineAt_8 ?_
  refine z_aload0 (pc := 11) G vr_r dX10_lineAt_11 ?_
  refine z_g (pc := 12) (f := 258) (x := p1) (v := (aR X 29 p1)) G kb_8 gb_X10_212 rfl hX.1 hp1 cr_258 dX10_lineAt_12 ?_
  refine x_iload1 (pc := 15) G dX10_lineAt_15 ?_
  refine z_get (pc := 16) (Li := 29) (kd := 4) (x := p1) (y := p2) (z := (4 * p1 + p2)) G hX.1 (hX.lw29 hp1) hP (hX.el29 hp1 hP) rfl (hX.ei29 hp1 hP) q_ml_X10_364 ⟨Nat.le_of_ble_eq_true rfl, Nat.le_of_ble_eq_true rfl⟩ (Nat.le_of_ble_eq_true rfl) dX10_lineAt_16 ?_
  refine z_cast (pc := 19) G kb_4 hX.1 (hX.el29 hp1 hP) q_cl_X10_217 dX10_lineAt_19 ?_
  exact x_aret (pc := 22) G B rfl (Or.inl ⟨_, rfl⟩) vr_r dX10_lineAt_22 ⟨rfl, rfl⟩
set_option maxRecDepth 100000 in
set_option maxHeartbeats 4000000 in
theorem no_lineAt {l : Launch} {k : KC} (hl : l.stackTraces = false) {X : CX} {S : CT} (hX : XOK X) {p1 : Int32} {p2 : Int32} (hp1 : lI X 8 p1) (hP : ¬ (P_num p2 (nS X 29 p1))) : MC l k yX10_lineAt (.code yX10_lineAt cX10_lineAt 2 (some (.object "ChitWright$Line"))) rmt_X10_lineAt [(vr X 8 p1), .int p2] (cW k X S) (pT "java/lang/IndexOutOfBoundsException" (cW k X S)) := by
  refine MC.of 0 hl (by decide) (by simp only [lg_sl_vr, lg_sl_i, lg_sl_l, lg_sl_0]; exact Nat.le_of_ble_eq_true rfl) ?_
  intro p e s m args below meth c A Q G B B2 hout
  simp only [lp_args_vr, lp_args_i, lp_args_l, lp_args_0]
  show Wx p l e rmt_X10_lineAt s m args below meth c k A 2 Q 1 6 0 [some ((vr X 8 p1)), some (.int p2)] [] (cW k X S)
  refine x_iload1 (pc := 0) G dX10_lineAt_0 ?_
  refine z_aload0 (pc := 1) G vr_r dX10_lineAt_1 ?_
  refine z_g (pc := 2) (f := 258) (x := p1) (v := (aR X 29 p1)) G kb_8 gb_X10_212 rfl hX.1 hp1 cr_258 dX10_lineAt_2 ?_
  refine z_size (pc := 5) (Li := 29) (x := p1) G hX.1 (hX.lw29 hp1) q_ml_X10_96 ⟨Nat.le_of_ble_eq_true rfl, Nat.le_of_ble_eq_true rfl⟩ (Nat.le_of_ble_eq_true rfl) dX10_lineAt_5 ?_
  exact x_cSt2 (pc := 8) G B B2 hout (no_requireNumber hl hP) q_ml_X10_156 h_X10_requireNumber ⟨Nat.le_of_ble_eq_true rfl, Nat.le_of_ble_eq_true rfl⟩ (Nat.le_of_ble_eq_true rfl) (Nat.le_refl _) (Nat.le_refl _) dX10_lineAt_8 ⟨rfl, rfl⟩
theorem dX10_purseOf_0 : decode cX10_purseOf 0 = .ok (.iload_n 1, 1) := by decide +kernel
theorem dX10_purseOf_1 : decode cX10_purseOf 1 = .ok (.aload_n 0, 1) := by decide +kernel
theorem dX10_purseOf_2 : decode cX10_purseOf 2 = .ok (.getfield 491, 3) := by decide +kernel
theorem dX10_purseOf_5 : decode cX10_purseOf 5 = .ok (.invokevirtual 96, 3) := by decide +kernel
theorem dX10_purseOf_8 : decode cX10_purseOf 8 = .ok (.invokestatic 156, 3) := by decide +kernel
theorem dX10_purseOf_11 : decode cX10_purseOf 11 = .ok (.aload_n 0, 1) := by decide +kernel
theorem dX10_purseOf_12 : decode cX10_purseOf 12 = .ok (.getfield 491, 3) := by decide +kernel
theorem dX10_purseOf_15 : decode cX10_purseOf 15 = .ok (.iload_n 1, 1) := by decide +kernel
theorem dX10_purseOf_16 : decode cX10_purseOf 16 = .ok (.invokevirtual 364, 3) := by decide +kernel
theorem dX10_purseOf_19 : decode cX10_purseOf 19 = .ok (.checkcast 132, 3) := by decide +kernel
theorem dX10_purseOf_22 : decode cX10_purseOf 22 = .ok (.areturn, 1) := by decide +kernel
abbrev rm_X10_purseOf : Room := { frames := 7, cells := 0, slots := 0, locals := 111 }
abbrev rmt_X10_purseOf : Room := { frames := 7, cells := 1, slots := 6, locals := 111 }
set_option maxRecDepth 100000 in
set_option maxHeartbeats 4000000 in
theorem ok_purseOf {l : Launch} {k : KC} (hl : l.stackTraces = false) {X : CX} {S : CT} (hX : XOK X) {p1 : Int32} {p2 : Int32} (hp1 : lI X 1 p1) (hP : P_num p2 (nS X 28 p1)) : MC l k yX10_purseOf (.code yX10_purseOf cX10_purseOf 2 (some (.object "ChitWright$Purse"))) rm_X10_purseOf [(vr X 1 p1), .int p2] (cW k X S) (pR (some (vr X 7 (3 * p1 + p2))) (cW k X S)) := by
  refine MC.of 0 hl (by decide) (by simp only [lg_sl_vr, lg_sl_i, lg_sl_l, lg_sl_0]; exact Nat.le_of_ble_eq_true rfl) ?_
  intro p e s m args below meth c A Q G B B2 hout
  simp only [lp_args_vr, lp_args_i, lp_args_l, lp_args_0]
  show Wx p l e rm_X10_purseOf s m args below meth c k A 2 Q 0 0 0 [some ((vr X 1 p1)), some (.int p2)] [] (cW k X S)
  refine x_iload1 (pc := 0) G dX10_purseOf_0 ?_
  refine z_aload0 (pc := 1) G vr_r dX10_purseOf_1 ?_
  refine z_g (pc := 2) (f := 32) (x := p1) (v := (aR X 28 p1)) G kb_1 gb_X10_491 rfl hX.1 hp1 cr_32 dX10_purseOf_2 ?_
  refine z_size (pc := 5) (Li := 28) (x := p1) G hX.1 (hX.lw28 hp1) q_ml_X10_96 ⟨Nat.le_of_ble_eq_true rfl, Nat.le_of_ble_eq_true rfl⟩ (Nat.le_of_ble_eq_true rfl) dX10_purseOf_5 ?_
  refine x_cSv2 (pc := 8) G (ok_requireNumber hl hP) q_ml_X10_156 h_X10_requireNumber ⟨Nat.le_of_ble_eq_true rfl, Nat.le_of_ble_eq_true rfl⟩ (Nat.le_of_ble_eq_true rfl) (Nat.le_refl _) (Nat.le_refl _) dX10_purseOf_8 ?_
  refine z_aload0 (pc := 11) G vr_r dX10_purseOf_11 ?_
  refine z_g (pc := 12) (f := 32) (x := p1) (v := (aR X 28 p1)) G kb_1 gb_X10_491 rfl hX.1 hp1 cr_32 dX10_purseOf_12 ?_
  refine x_iload1 (pc := 15) G dX10_purseOf_15 ?_
  refine z_get (pc := 16) (Li := 28) (kd := 7) (x := p1) (y := p2) (z := (3 * p1 + p2)) G hX.1 (hX.lw28 hp1) hP (hX.el28 hp1 hP) rfl (hX.ei28 hp1 hP) q_ml_X10_364 ⟨Nat.le_of_ble_eq_true rfl, Nat.le_of_ble_eq_true rfl⟩ (Nat.le_of_ble_eq_true rfl) dX10_purseOf_16 ?_
  refine z_cast (pc := 19) G kb_7 hX.1 (hX.el28 hp1 hP) q_cl_X10_132 dX10_purseOf_19 ?_
  exact x_aret (pc := 22) G B rfl (Or.inl ⟨_, rfl⟩) vr_r dX10_purseOf_22 ⟨rfl, rfl⟩
set_option maxRecDepth 100000 in
set_option maxHeartbeats 4000000 in
theorem no_purseOf {l : Launch} {k : KC} (hl : l.stackTraces = false) {X : CX} {S : CT} (hX : XOK X) {p1 : Int32} {p2 : Int32} (hp1 : lI X 1 p1) (hP : ¬ (P_num p2 (nS X 28 p1))) : MC l k yX10_purseOf (.code yX10_purseOf cX10_purseOf 2 (some (.object "ChitWright$Purse"))) rmt_X10_purseOf [(vr X 1 p1), .int p2] (cW k X S) (pT "java/lang/IndexOutOfBoundsException" (cW k X S)) := by
  refine MC.of 0 hl (by decide) (by simp only [lg_sl_vr, lg_sl_i, lg_sl_l, lg_sl_0]; exact Nat.le_of_ble_eq_true rfl) ?_
  intro p e s m args below meth c A Q G B B2 hout
  simp only [lp_args_vr, lp_args_i, lp_args_l, lp_args_0]
  show Wx p l e rmt_X10_purseOf s m args below meth c k A 2 Q 1 6 0 [some ((vr X 1 p1)), some (.int p2)] [] (cW k X S)
  refine x_iload1 (pc := 0) G dX10_purseOf_0 ?_
  refine z_aload0 (pc := 1) G vr_r dX10_purseOf_1 ?_
  refine z_g (pc := 2) (f := 32) (x := p1) (v := (aR X 28 p1)) G kb_1 gb_X10_491 rfl hX.1 hp1 cr_32 dX10_purseOf_2 ?_
  refine z_size (pc := 5) (Li := 28) (x := p1) G hX.1 (hX.lw28 hp1) q_ml_X10_96 ⟨Nat.le_of_ble_eq_true rfl, Nat.le_of_ble_eq_true rfl⟩ (Nat.le_of_ble_eq_true rfl) dX10_purseOf_5 ?_
  exact x_cSt2 (pc := 8) G B B2 hout (no_requireNumber hl hP) q_ml_X10_156 h_X10_requireNumber ⟨Nat.le_of_ble_eq_true rfl, Nat.le_of_ble_eq_true rfl⟩ (Nat.le_of_ble_eq_true rfl) (Nat.le_refl _) (Nat.le_refl _) dX10_purseOf_8 ⟨rfl, rfl⟩
theorem dX6_free_0 : decode cX6_free 0 = .ok (.aload_n 0, 1) := by decide +kernel
theorem dX6_free_1 : decode cX6_free 1 = .ok (.getfield 7, 3) := by decide +kernel
theorem dX6_free_4 : decode cX6_free 4 = .ok (.aload_n 0, 1) := by decide +kernel
theorem dX6_free_5 : decode cX6_free 5 = .ok (.getfield 13, 3) := by decide +kernel
theorem dX6_free_8 : decode cX6_free 8 = .ok (.lsub, 1) := by decide +kernel
theorem dX6_free_9 : decode cX6_free 9 = .ok (.aload_n 0, 1) := by decide +kernel
theorem dX6_free_10 : decode cX6_free 10 = .ok (.getfield 16, 3) := by decide +kernel
theorem dX6_free_13 : decode cX6_free 13 = .ok (.lsub, 1) := by decide +kernel
theorem dX6_free_14 : decode cX6_free 14 = .ok (.lreturn, 1) := by decide +kernel
def k_free (t : Int32)  (X : CX) (S : CT) : Int64 :=
    (((cj S 224 t) - (cj S 225 t)) - (cj S 226 t))
abbrev rm_X6_free : Room := { frames := 0, cells := 0, slots := 0, locals := 0 }
set_option maxRecDepth 100000 in
set_option maxHeartbeats 4000000 in
theorem ck_free {l : Launch} {k : KC} (hl : l.stackTraces = false) {X : CX} {S : CT} (hX : XOK X) {t : Int32}  (ht : lI X 7 t)  : MC l k yX6_free (.code yX6_free cX6_free 1 (some .long)) rm_X6_free [(vr X 7 t)] (cW k X S) (pR (some (.long (k_free t X S))) (cW k X S)) := by
  refine MC.of 0 hl (by decide) (by simp only [lg_sl_vr, lg_sl_i, lg_sl_l, lg_sl_0]; exact Nat.le_of_ble_eq_true rfl) ?_
  intro p e s m args below meth c A Q G B B2 hout
  simp only [lp_args_vr, lp_args_i, lp_args_l, lp_args_0]
  show Wx p l e rm_X6_free s m args below meth c k A 1 Q 0 0 0 [some ((vr X 7 t))] [] (cW k X S)
  refine z_aload0 (pc := 0) G vr_r dX6_free_0 ?_
  refine z_g (pc := 1) (f := 224) (x := t) (v := (.long (cj S 224 t))) G kb_7 gb_X6_7 rfl hX.1 ht cr_224 dX6_free_1 ?_
  refine z_aload0 (pc := 4) G vr_r dX6_free_4 ?_
  refine z_g (pc := 5) (f := 225) (x := t) (v := (.long (cj S 225 t))) G kb_7 gb_X6_13 rfl hX.1 ht cr_225 dX6_free_5 ?_
  refine x_lsub (pc := 8) G dX6_free_8 ?_
  refine z_aload0 (pc := 9) G vr_r dX6_free_9 ?_
  refine z_g (pc := 10) (f := 226) (x := t) (v := (.long (cj S 226 t))) G kb_7 gb_X6_16 rfl hX.1 ht cr_226 dX6_free_10 ?_
  refine x_lsub (pc := 13) G dX6_free_13 ?_
  exact x_lret (pc := 14) G B rfl dX6_free_14 ⟨by rw [k_free], rfl⟩
theorem dX10_requireFree_0 : decode cX10_requireFree 0 = .ok (.aload_n 0, 1) := by decide +kernel
theorem dX10_requireFree_1 : decode cX10_requireFree 1 = .ok (.getfield 148, 3) := by decide +kernel
theorem dX10_requireFree_4 : decode cX10_requireFree 4 = .ok (.ifCond .ne 26, 3) := by decide +kernel
theorem dX10_requireFree_7 : decode cX10_requireFree 7 = .ok (.lload_n 2, 1) := by decide +kernel
theorem dX10_requireFree_8 : decode cX10_requireFree 8 = .ok (.aload_n 0, 1) := by decide +kernel
theorem dX10_requireFree_9 : decode cX10_requireFree 9 = .ok (.iload_n 1, 1) := by decide +kernel
theorem dX10_requireFree_10 : decode cX10_requireFree 10 = .ok (.invokestatic 487, 3) := by decide +kernel
theorem dX10_requireFree_13 : decode cX10_requireFree 13 = .ok (.invokevirtual 138, 3) := by decide +kernel
theorem dX10_requireFree_16 : decode cX10_requireFree 16 = .ok (.lcmp, 1) := by decide +kernel
theorem dX10_requireFree_17 : decode cX10_requireFree 17 = .ok (.ifCond .le 13, 3) := by decide +kernel
theorem dX10_requireFree_20 : decode cX10_requireFree 20 = .ok (.new 100, 3) := by decide +kernel
theorem dX10_requireFree_23 : decode cX10_requireFree 23 = .ok (.dup, 1) := by decide +kernel
theorem dX10_requireFree_24 : decode cX10_requireFree 24 = .ok (.ldc 142, 2) := by decide +kernel
theorem dX10_requireFree_26 : decode cX10_requireFree 26 = .ok (.invokespecial 104, 3) := by decide +kernel
theorem dX10_requireFree_29 : decode cX10_requireFree 29 = .ok (.athrow, 1) := by decide +kernel
theorem dX10_requireFree_30 : decode cX10_requireFree 30 = .ok (.return_, 1) := by decide +kernel
abbrev rm_X10_requireFree : Room := { frames := 8, cells := 0, slots := 0, locals := 132 }
abbrev rmt_X10_requireFree : Room := { frames := 8, cells := 1, slots := 6, locals := 132 }
set_option maxRecDepth 100000 in
set_option maxHeartbeats 4000000 in
theorem ok_requireFree {l : Launch} {k : KC} (hl : l.stackTraces = false) {X : CX} {S : CT} (hX : XOK X) {p1 : Int32} {p2 : Int32} {p3 : Int64} (hp1 : lI X 1 p1) (hy : P_num p2 (nS X 28 p1)) (hP : ¬ ci S 33 p1 = 0 ∨ p3 ≤ k_free (3 * p1 + p2) X S) : MC l k yX10_requireFree (.code yX10_requireFree cX10_requireFree 4 none) rm_X10_requireFree [(vr X 1 p1), .int p2, .long p3] (cW k X S) (pR none (cW k X S)) := by
  refine MC.of 0 hl (by decide) (by simp only [lg_sl_vr, lg_sl_i, lg_sl_l, lg_sl_0]; exact Nat.le_of_ble_eq_true rfl) ?_
  intro p e s m args below meth c A Q G B B2 hout
  simp only [lp_args_vr, lp_args_i, lp_args_l, lp_args_0]
  show Wx p l e rm_X10_requireFree s m args below meth c k A 4 Q 0 0 0 [some ((vr X 1 p1)), some (.int p2), some (.long p3), none] [] (cW k X S)
  refine z_aload0 (pc := 0) G vr_r dX10_requireFree_0 ?_
  refine z_g (pc := 1) (f := 33) (x := p1) (v := (.int (ci S 33 p1))) G kb_1 gb_X10_148 rfl hX.1 hp1 cr_33 dX10_requireFree_1 ?_
  refine x_if_ne (pc := 4) (y := 0) (tgt := 30) G dX10_requireFree_4 rfl (fun c1 => ?_) (fun c1 => ?_)
  · exact x_vret (pc := 30) G B rfl dX10_requireFree_30 ⟨rfl, rfl⟩
  refine x_lload2 (pc := 7) G dX10_requireFree_7 ?_
  refine z_aload0 (pc := 8) G vr_r dX10_requireFree_8 ?_
  refine x_iload1 (pc := 9) G dX10_requireFree_9 ?_
  refine x_cS2 (pc := 10) G (ok_purseOf hl hX hp1 hy) q_ml_X10_487 h_X10_purseOf ⟨Nat.le_of_ble_eq_true rfl, Nat.le_of_ble_eq_true rfl⟩ (Nat.le_of_ble_eq_true rfl) (Nat.le_refl _) (Nat.le_refl _) dX10_requireFree_10 ?_
  refine z_cV0 (pc := 13) G kb_7 hX.1 (hX.el28 hp1 hy) (ck_free hl hX (hX.el28 hp1 hy) ) rfl q_ml_X10_138 h_X6_free ⟨Nat.le_of_ble_eq_true rfl, Nat.le_of_ble_eq_true rfl⟩ (Nat.le_of_ble_eq_true rfl) (Nat.le_refl _) (Nat.le_refl _) dX10_requireFree_13 ?_
  refine x_lcmp (pc := 16) G dX10_requireFree_16 ?_
  refine x_if_le (pc := 17) (y := 0) (tgt := 30) G dX10_requireFree_17 rfl (fun c2 => ?_) (fun c2 => ?_)
  · exact x_vret (pc := 30) G B rfl dX10_requireFree_30 ⟨rfl, rfl⟩
  exact absurd hP (fun q => q.elim (fun a => a c1) (fun b => c2 (by rw [lg_cmp_le]; exact b)))
set_option maxRecDepth 100000 in
set_option maxHeartbeats 4000000 in
theorem no_requireFree {l : Launch} {k : KC} (hl : l.stackTraces = false) {X : CX} {S : CT} (hX : XOK X) {p1 : Int32} {p2 : Int32} {p3 : Int64} (hp1 : lI X 1 p1) (hy : P_num p2 (nS X 28 p1)) (hP : ¬ (¬ ci S 33 p1 = 0 ∨ p3 ≤ k_free (3 * p1 + p2) X S)) : MC l k yX10_requireFree (.code yX10_requireFree cX10_requireFree 4 none) rmt_X10_requireFree [(vr X 1 p1), .int p2, .long p3] (cW k X S) (pT "java/lang/IllegalStateException" (cW k X S)) := by
  refine MC.of 0 hl (by decide) (by simp only [lg_sl_vr, lg_sl_i, lg_sl_l, lg_sl_0]; exact Nat.le_of_ble_eq_true rfl) ?_
  intro p e s m args below meth c A Q G B B2 hout
  simp only [lp_args_vr, lp_args_i, lp_args_l, lp_args_0]
  show Wx p l e rmt_X10_requireFree s m args below meth c k A 4 Q 1 6 0 [some ((vr X 1 p1)), some (.int p2), some (.long p3), none] [] (cW k X S)
  refine z_aload0 (pc := 0) G vr_r dX10_requireFree_0 ?_
  refine z_g (pc := 1) (f := 33) (x := p1) (v := (.int (ci S 33 p1))) G kb_1 gb_X10_148 rfl hX.1 hp1 cr_33 dX10_requireFree_1 ?_
  refine x_if_ne (pc := 4) (y := 0) (tgt := 30) G dX10_requireFree_4 rfl (fun c1 => ?_) (fun c1 => ?_)
  · exact absurd (Or.inl c1) hP
  refine x_lload2 (pc := 7) G dX10_requireFree_7 ?_
  refine z_aload0 (pc := 8) G vr_r dX10_requireFree_8 ?_
  refine x_iload1 (pc := 9) G dX10_requireFree_9 ?_
  refine x_cS2 (pc := 10) G (ok_purseOf hl hX hp1 hy) q_ml_X10_487 h_X10_purseOf ⟨Nat.le_of_ble_eq_true rfl, Nat.le_of_ble_eq_true rfl⟩ (Nat.le_of_ble_eq_true rfl) (Nat.le_refl _) (Nat.le_refl _) dX10_requireFree_10 ?_
  refine z_cV0 (pc := 13) G kb_7 hX.1 (hX.el28 hp1 hy) (ck_free hl hX (hX.el28 hp1 hy) ) rfl q_ml_X10_138 h_X6_free ⟨Nat.le_of_ble_eq_true rfl, Nat.le_of_ble_eq_true rfl⟩ (Nat.le_of_ble_eq_true rfl) (Nat.le_refl _) (Nat.le_refl _) dX10_requireFree_13 ?_
  refine x_lcmp (pc := 16) G dX10_requireFree_16 ?_
  refine x_if_le (pc := 17) (y := 0) (tgt := 30) G dX10_requireFree_17 rfl (fun c2 => ?_) (fun c2 => ?_)
  · exact absurd (Or.inr (by have h9 := c2; rw [lg_cmp_le] at h9; exact h9)) hP
  exact z_ISE (pc := 20) G B B2 hout (is := 142) (text := "so much is not free") (by decide +kernel) dX10_requireFree_20 dX10_requireFree_23 (Or.inl ⟨dX10_requireFree_24, dX10_requireFree_26, dX10_requireFree_29⟩) ⟨Nat.le_of_ble_eq_true rfl, Nat.le_of_ble_eq_true rfl⟩ (Nat.le_of_ble_eq_true rfl) (Nat.le_of_ble_eq_true rfl) ⟨rfl, rfl⟩
theorem dX2_orderedValue_0 : decode cX2_orderedValue 0 = .ok (.aload_n 0, 1) := by decide +kernel
theorem dX2_orderedValue_1 : decode cX2_orderedValue 1 = .ok (.getfield 62, 3) := by decide +kernel
theorem dX2_orderedValue_4 : decode cX2_orderedValue 4 = .ok (.i2l, 1) := by decide +kernel
theorem dX2_orderedValue_5 : decode cX2_orderedValue 5 = .ok (.aload_n 0, 1) := by decide +kernel
theorem dX2_orderedValue_6 : decode cX2_orderedValue 6 = .ok (.getfield 54, 3) := by decide +kernel
theorem dX2_orderedValue_9 : decode cX2_orderedValue 9 = .ok (.getfield 84, 3) := by decide +kernel
theorem dX2_orderedValue_12 : decode cX2_orderedValue 12 = .ok (.i2l, 1) := by decide +kernel
theorem dX2_orderedValue_13 : decode cX2_orderedValue 13 = .ok (.lmul, 1) := by decide +kernel
theorem dX2_orderedValue_14 : decode cX2_orderedValue 14 = .ok (.lreturn, 1) := by decide +kernel
def k_orderedValue (t : Int32)  (X : CX) (S : CT) : Int64 :=
    (((xi X 99 t).toInt64) * ((xi X 129 (xi X 97 t)).toInt64))
abbrev rm_X2_orderedValue : Room := { frames := 0, cells := 0, slots := 0, locals := 0 }
set_option maxRecDepth 100000 in
set_option maxHeartbeats 4000000 in
theorem ck_orderedValue {l : Launch} {k : KC} (hl : l.stackTraces = false) {X : CX} {S : CT} (hX : XOK X) {t : Int32}  (ht : lI X 3 t)  : MC l k yX2_orderedValue (.code yX2_orderedValue cX2_orderedValue 1 (some .long)) rm_X2_orderedValue [(vr X 3 t)] (cW k X S) (pR (some (.long (k_orderedValue t X S))) (cW k X S)) := by
  refine MC.of 0 hl (by decide) (by simp only [lg_sl_vr, lg_sl_i, lg_sl_l, lg_sl_0]; exact Nat.le_of_ble_eq_true rfl) ?_
  intro p e s m args below meth c A Q G B B2 hout
  simp only [lp_args_vr, lp_args_i, lp_args_l, lp_args_0]
  show Wx p l e rm_X2_orderedValue s m args below meth c k A 1 Q 0 0 0 [some ((vr X 3 t))] [] (cW k X S)
  refine z_aload0 (pc := 0) G vr_r dX2_orderedValue_0 ?_
  refine z_g (pc := 1) (f := 99) (x := t) (v := (.int (xi X 99 t))) G kb_3 gb_X2_62 rfl hX.1 ht cr_99 dX2_orderedValue_1 ?_
  refine x_i2l (pc := 4) G dX2_orderedValue_4 ?_
  refine z_aload0 (pc := 5) G vr_r dX2_orderedValue_5 ?_
  refine z_g (pc := 6) (f := 97) (x := t) (v := (vr X 4 (xi X 97 t))) G kb_3 gb_X2_54 rfl hX.1 ht cr_97 dX2_orderedValue_6 ?_
  refine z_g (pc := 9) (f := 129) (x := (xi X 97 t)) (v := (.int (xi X 129 (xi X 97 t)))) G kb_4 gb_X2_84 rfl hX.1 (hX.ivL ht) cr_129 dX2_orderedValue_9 ?_
  refine x_i2l (pc := 12) G dX2_orderedValue_12 ?_
  refine x_lmul (pc := 13) G dX2_orderedValue_13 ?_
  exact x_lret (pc := 14) G B rfl dX2_orderedValue_14 ⟨by rw [k_orderedValue], rfl⟩
theorem dX2_isTooDear_0 : decode cX2_isTooDear 0 = .ok (.aload_n 0, 1) := by decide +kernel
theorem dX2_isTooDear_1 : decode cX2_isTooDear 1 = .ok (.invokevirtual 103, 3) := by decide +kernel
theorem dX2_isTooDear_4 : decode cX2_isTooDear 4 = .ok (.lstore_n 1, 1) := by decide +kernel
theorem dX2_isTooDear_5 : decode cX2_isTooDear 5 = .ok (.aload_n 0, 1) := by decide +kernel
theorem dX2_isTooDear_6 : decode cX2_isTooDear 6 = .ok (.getfield 15, 3) := by decide +kernel
theorem dX2_isTooDear_9 : decode cX2_isTooDear 9 = .ok (.ifCond .ne 26, 3) := by decide +kernel
theorem dX2_isTooDear_12 : decode cX2_isTooDear 12 = .ok (.aload_n 0, 1) := by decide +kernel
theorem dX2_isTooDear_13 : decode cX2_isTooDear 13 = .ok (.getfield 81, 3) := by decide +kernel
theorem dX2_isTooDear_16 : decode cX2_isTooDear 16 = .ok (.lload_n 1, 1) := by decide +kernel
theorem dX2_isTooDear_17 : decode cX2_isTooDear 17 = .ok (.lload_n 1, 1) := by decide +kernel
theorem dX2_isTooDear_18 : decode cX2_isTooDear 18 = .ok (.ldc2_w 107, 3) := by decide +kernel
theorem dX2_isTooDear_21 : decode cX2_isTooDear 21 = .ok (.lmul, 1) := by decide +kernel
theorem dX2_isTooDear_22 : decode cX2_isTooDear 22 = .ok (.ldc2_w 109, 3) := by decide +kernel
theorem dX2_isTooDear_25 : decode cX2_isTooDear 25 = .ok (.ldiv, 1) := by decide +kernel
theorem dX2_isTooDear_26 : decode cX2_isTooDear 26 = .ok (.ladd, 1) := by decide +kernel
theorem dX2_isTooDear_27 : decode cX2_isTooDear 27 = .ok (.lcmp, 1) := by decide +kernel
theorem dX2_isTooDear_28 : decode cX2_isTooDear 28 = .ok (.ifCond .le 7, 3) := by decide +kernel
theorem dX2_isTooDear_31 : decode cX2_isTooDear 31 = .ok (.iconst 1, 1) := by decide +kernel
theorem dX2_isTooDear_32 : decode cX2_isTooDear 32 = .ok (.goto 4, 3) := by decide +kernel
theorem dX2_isTooDear_35 : decode cX2_isTooDear 35 = .ok (.iconst 0, 1) := by decide +kernel
theorem dX2_isTooDear_36 : decode cX2_isTooDear 36 = .ok (.ireturn, 1) := by decide +kernel
def k_isTooDear (t : Int32)  (X : CX) (S : CT) : Int32 :=
    if (ci S 103 t) = 0 then
      if (lg_cmp (xj X 101 t) ((k_orderedValue t X S) + (((k_orderedValue t X S) * 5) / 100))) ≤ 0 then
        0
      else
      1
    else
    0
abbrev rm_X2_isTooDear : Room := { frames := 1, cells := 0, slots := 0, locals := 20 }
set_option maxRecDepth 100000 in
set_option maxHeartbeats 4000000 in
theorem ck_isTooDear {l : Launch} {k : KC} (hl : l.stackTraces = false) {X : CX} {S : CT} (hX : XOK X) {t : Int32}  (ht : lI X 3 t)  : MC l k yX2_isTooDear (.code yX2_isTooDear cX2_isTooDear 3 (some .boolean)) rm_X2_isTooDear [(vr X 3 t)] (cW k X S) (pR (some (.int (k_isTooDear t X S))) (cW k X S)) := by
  refine MC.of 2 hl (by decide) (by simp only [lg_sl_vr, lg_sl_i, lg_sl_l, lg_sl_0]; exact Nat.le_of_ble_eq_true rfl) ?_
  intro p e s m args below meth c A Q G B B2 hout
  simp only [lp_args_vr, lp_args_i, lp_args_l, lp_args_0]
  show Wx p l e rm_X2_isTooDear s m args below meth c k A 3 Q 0 0 0 [some ((vr X 3 t)), none, none] [] (cW k X S)
  refine z_aload0 (pc := 0) G vr_r dX2_isTooDear_0 ?_
  refine z_cV0 (pc := 1) G kb_3 hX.1 ht (ck_orderedValue hl hX ht ) rfl q_ml_X2_103 h_X2_orderedValue ⟨Nat.le_of_ble_eq_true rfl, Nat.le_of_ble_eq_true rfl⟩ (Nat.le_of_ble_eq_true rfl) (Nat.le_refl _) (Nat.le_refl _) dX2_isTooDear_1 ?_
  refine x_lstore1 (pc := 4) G dX2_isTooDear_4 (Nat.le_of_ble_eq_true rfl) lp_c2_vr ?_
  refine z_aload0 (pc := 5) G vr_r dX2_isTooDear_5 ?_
  refine z_g (pc := 6) (f := 103) (x := t) (v := (.int (ci S 103 t))) G kb_3 gb_X2_15 rfl hX.1 ht cr_103 dX2_isTooDear_6 ?_
  refine x_if_ne (pc := 9) (y := 0) (tgt := 35) G dX2_isTooDear_9 rfl (fun c1 => ?_) (fun c1 => ?_)
  · refine x_iconst (pc := 35) (v := 0) G dX2_isTooDear_35 ic_0 ?_
    exact x_zret (pc := 36) G B rfl (by decide) dX2_isTooDear_36 ⟨by rw [k_isTooDear, if_neg c1], rfl⟩
  refine z_aload0 (pc := 12) G vr_r dX2_isTooDear_12 ?_
  refine z_g (pc := 13) (f := 101) (x := t) (v := (.long (xj X 101 t))) G kb_3 gb_X2_81 rfl hX.1 ht cr_101 dX2_isTooDear_13 ?_
  refine x_lload1 (pc := 16) G dX2_isTooDear_16 ?_
  refine x_lload1 (pc := 17) G dX2_isTooDear_17 ?_
  refine x_ldc2 (pc := 18) G q_cL_X2_107 dX2_isTooDear_18 ?_
  refine x_lmul (pc := 21) G dX2_isTooDear_21 ?_
  refine x_ldc2 (pc := 22) G q_cL_X2_109 dX2_isTooDear_22 ?_
  refine x_ldiv (pc := 25) G dX2_isTooDear_25 (by decide) ?_
  refine x_ladd (pc := 26) G dX2_isTooDear_26 ?_
  refine x_lcmp (pc := 27) G dX2_isTooDear_27 ?_
  refine x_if_le (pc := 28) (y := 0) (tgt := 35) G dX2_isTooDear_28 rfl (fun c2 => ?_) (fun c2 => ?_)
  · refine x_iconst (pc := 35) (v := 0) G dX2_isTooDear_35 ic_0 ?_
    exact x_zret (pc := 36) G B rfl (by decide) dX2_isTooDear_36 ⟨by rw [k_isTooDear, if_pos c1, if_pos c2], rfl⟩
  refine x_iconst (pc := 31) (v := 1) G dX2_isTooDear_31 ic_1 ?_
  refine x_goto (pc := 32) (tgt := 36) G dX2_isTooDear_32 rfl ?_
  exact x_zret (pc := 36) G B rfl (by decide) dX2_isTooDear_36 ⟨by rw [k_isTooDear, if_pos c1, if_neg c2], rfl⟩
abbrev K_isTooDear (t : Int32)  (X : CX) (S : CT) : Prop := ci S 103 t = 0 ∧ ¬ lg_cmp (xj X 101 t) (k_orderedValue t X S + k_orderedValue t X S * 5 / 100) ≤ 0
theorem vk_isTooDear {t : Int32}  {X : CX} {S : CT} : (k_isTooDear t X S) = if K_isTooDear t X S then 1 else 0 := by
  unfold k_isTooDear K_isTooDear
  repeat' split
  all_goals simp_all
theorem bk_isTooDear {l : Launch} {k : KC} (hl : l.stackTraces = false) {X : CX} {S : CT} (hX : XOK X) {t : Int32}  (ht : lI X 3 t)  : (K_isTooDear t X S → MC l k yX2_isTooDear (.code yX2_isTooDear cX2_isTooDear 3 (some .boolean)) rm_X2_isTooDear [(vr X 3 t)] (cW k X S) (pR (some (.int 1)) (cW k X S))) ∧ (¬ K_isTooDear t X S → MC l k yX2_isTooDear (.code yX2_isTooDear cX2_isTooDear 3 (some .boolean)) rm_X2_isTooDear [(vr X 3 t)] (cW k X S) (pR (some (.int 0)) (cW k X S))) := MC.bool (by rw [← vk_isTooDear]; exact ck_isTooDear hl hX ht)
theorem dX2_reasons_0 : decode cX2_reasons 0 = .ok (.iconst 0, 1) := by decide +kernel
theorem dX2_reasons_1 : decode cX2_reasons 1 = .ok (.istore_n 1, 1) := by decide +kernel
theorem dX2_reasons_2 : decode cX2_reasons 2 = .ok (.aload_n 0, 1) := by decide +kernel
theorem dX2_reasons_3 : decode cX2_reasons 3 = .ok (.getfield 54, 3) := by decide +kernel
theorem dX2_reasons_6 : decode cX2_reasons 6 = .ok (.getfield 87, 3) := by decide +kernel
theorem dX2_reasons_9 : decode cX2_reasons 9 = .ok (.aload_n 0, 1) := by decide +kernel
theorem dX2_reasons_10 : decode cX2_reasons 10 = .ok (.getfield 62, 3) := by decide +kernel
theorem dX2_reasons_13 : decode cX2_reasons 13 = .ok (.iadd, 1) := by decide +kernel
theorem dX2_reasons_14 : decode cX2_reasons 14 = .ok (.aload_n 0, 1) := by decide +kernel
theorem dX2_reasons_15 : decode cX2_reasons 15 = .ok (.getfield 54, 3) := by decide +kernel
theorem dX2_reasons_18 : decode cX2_reasons 18 = .ok (.getfield 90, 3) := by decide +kernel
theorem dX2_reasons_21 : decode cX2_reasons 21 = .ok (.ifCond .eq 13, 3) := by decide +kernel
theorem dX2_reasons_24 : decode cX2_reasons 24 = .ok (.aload_n 0, 1) := by decide +kernel
theorem dX2_reasons_25 : decode cX2_reasons 25 = .ok (.getfield 54, 3) := by decide +kernel
theorem dX2_reasons_28 : decode cX2_reasons 28 = .ok (.getfield 93, 3) := by decide +kernel
theorem dX2_reasons_31 : decode cX2_reasons 31 = .ok (.goto 10, 3) := by decide +kernel
theorem dX2_reasons_34 : decode cX2_reasons 34 = .ok (.aload_n 0, 1) := by decide +kernel
theorem dX2_reasons_35 : decode cX2_reasons 35 = .ok (.getfield 54, 3) := by decide +kernel
theorem dX2_reasons_38 : decode cX2_reasons 38 = .ok (.getfield 96, 3) := by decide +kernel
theorem dX2_reasons_41 : decode cX2_reasons 41 = .ok (.if_icmp .le 6, 3) := by decide +kernel
theorem dX2_reasons_44 : decode cX2_reasons 44 = .ok (.iinc 1 1, 3) := by decide +kernel
theorem dX2_reasons_47 : decode cX2_reasons 47 = .ok (.aload_n 0, 1) := by decide +kernel
theorem dX2_reasons_48 : decode cX2_reasons 48 = .ok (.invokevirtual 99, 3) := by decide +kernel
theorem dX2_reasons_51 : decode cX2_reasons 51 = .ok (.ifCond .eq 6, 3) := by decide +kernel
theorem dX2_reasons_54 : decode cX2_reasons 54 = .ok (.iinc 1 2, 3) := by decide +kernel
theorem dX2_reasons_57 : decode cX2_reasons 57 = .ok (.iload_n 1, 1) := by decide +kernel
theorem dX2_reasons_58 : decode cX2_reasons 58 = .ok (.ireturn, 1) := by decide +kernel
def k_reasons (t : Int32)  (X : CX) (S : CT) : Int32 :=
    if (xi X 128 (xi X 97 t)) = 0 then
      if ((ci S 132 (xi X 97 t)) + (xi X 99 t)) ≤ (ci S 131 (xi X 97 t)) then
        if K_isTooDear t X S then
          2
        else
        0
      else
      if K_isTooDear t X S then
        3
      else
      1
    else
    if ((ci S 132 (xi X 97 t)) + (xi X 99 t)) ≤ (ci S 130 (xi X 97 t)) then
      if K_isTooDear t X S then
        2
      else
      0
    else
    if K_isTooDear t X S then
      3
    else
    1
abbrev rm_X2_reasons : Room := { frames := 2, cells := 0, slots := 0, locals := 42 }
set_option maxRecDepth 100000 in
set_option maxHeartbeats 4000000 in
theorem ck_reasons {l : Launch} {k : KC} (hl : l.stackTraces = false) {X : CX} {S : CT} (hX : XOK X) {t : Int32}  (ht : lI X 3 t)  : MC l k yX2_reasons (.code yX2_reasons cX2_reasons 2 (some .int)) rm_X2_reasons [(vr X 3 t)] (cW k X S) (pR (some (.int (k_reasons t X S))) (cW k X S)) := by
  refine MC.of 1 hl (by decide) (by simp only [lg_sl_vr, lg_sl_i, lg_sl_l, lg_sl_0]; exact Nat.le_of_ble_eq_true rfl) ?_
  intro p e s m args below meth c A Q G B B2 hout
  simp only [lp_args_vr, lp_args_i, lp_args_l, lp_args_0]
  show Wx p l e rm_X2_reasons s m args below meth c k A 2 Q 0 0 0 [some ((vr X 3 t)), none] [] (cW k X S)
  refine x_iconst (pc := 0) (v := 0) G dX2_reasons_0 ic_0 ?_
  refine x_istore1 (pc := 1) G dX2_reasons_1 (Nat.le_of_ble_eq_true rfl) lp_c2_vr ?_
  refine z_aload0 (pc := 2) G vr_r dX2_reasons_2 ?_
  refine z_g (pc := 3) (f := 97) (x := t) (v := (vr X 4 (xi X 97 t))) G kb_3 gb_X2_54 rfl hX.1 ht cr_97 dX2_reasons_3 ?_
  refine z_g (pc := 6) (f := 132) (x := (xi X 97 t)) (v := (.int (ci S 132 (xi X 97 t)))) G kb_4 gb_X2_87 rfl hX.1 (hX.ivL ht) cr_132 dX2_reasons_6 ?_
  refine z_aload0 (pc := 9) G vr_r dX2_reasons_9 ?_
  refine z_g (pc := 10) (f := 99) (x := t) (v := (.int (xi X 99 t))) G kb_3 gb_X2_62 rfl hX.1 ht cr_99 dX2_reasons_10 ?_
  refine x_iadd (pc := 13) G dX2_reasons_13 ?_
  refine z_aload0 (pc := 14) G vr_r dX2_reasons_14 ?_
  refine z_g (pc := 15) (f := 97) (x := t) (v := (vr X 4 (xi X 97 t))) G kb_3 gb_X2_54 rfl hX.1 ht cr_97 dX2_reasons_15 ?_
  refine z_g (pc := 18) (f := 128) (x := (xi X 97 t)) (v := (.int (xi X 128 (xi X 97 t)))) G kb_4 gb_X2_90 rfl hX.1 (hX.ivL ht) cr_128 dX2_reasons_18 ?_
  refine x_if_eq (pc := 21) (y := 0) (tgt := 34) G dX2_reasons_21 rfl (fun c1 => ?_) (fun c1 => ?_)
  · refine z_aload0 (pc := 34) G vr_r dX2_reasons_34 ?_
    refine z_g (pc := 35) (f := 97) (x := t) (v := (vr X 4 (xi X 97 t))) G kb_3 gb_X2_54 rfl hX.1 ht cr_97 dX2_reasons_35 ?_
    refine z_g (pc := 38) (f := 131) (x := (xi X 97 t)) (v := (.int (ci S 131 (xi X 97 t)))) G kb_4 gb_X2_96 rfl hX.1 (hX.ivL ht) cr_131 dX2_reasons_38 ?_
    refine x_icmp_le (pc := 41) (tgt := 47) G dX2_reasons_41 rfl (fun c2 => ?_) (fun c2 => ?_)
    · refine z_aload0 (pc := 47) G vr_r dX2_reasons_47 ?_
      refine z_cVb0 (pc := 48) G kb_3 hX.1 ht (bk_isTooDear hl hX ht ) rfl q_ml_X2_99 h_X2_isTooDear ⟨Nat.le_of_ble_eq_true rfl, Nat.le_of_ble_eq_true rfl⟩ (Nat.le_of_ble_eq_true rfl) (Nat.le_refl _) (Nat.le_refl _) dX2_reasons_48 (fun c3 => ?_) (fun c3 => ?_)
      · refine x_if_eq (pc := 51) (y := 0) (tgt := 57) G dX2_reasons_51 rfl (fun q => absurd q (by decide)) (fun _ => ?_)
        refine x_iinc1 (pc := 54) (v := 2) G dX2_reasons_54 (by decide) (Nat.le_of_ble_eq_true rfl) lp_c2_vr ?_
        refine x_iload1 (pc := 57) G dX2_reasons_57 ?_
        exact x_iret (pc := 58) G B rfl dX2_reasons_58 ⟨by rw [k_reasons, if_pos c1, if_pos c2, if_pos c3], rfl⟩
      refine x_if_eq (pc := 51) (y := 0) (tgt := 57) G dX2_reasons_51 rfl (fun _ => ?_) (fun q => absurd q (by decide))
      refine x_iload1 (pc := 57) G dX2_reasons_57 ?_
      exact x_iret (pc := 58) G B rfl dX2_reasons_58 ⟨by rw [k_reasons, if_pos c1, if_pos c2, if_neg c3], rfl⟩
    refine x_iinc1 (pc := 44) (v := 1) G dX2_reasons_44 (by decide) (Nat.le_of_ble_eq_true rfl) lp_c2_vr ?_
    refine z_aload0 (pc := 47) G vr_r dX2_reasons_47 ?_
    refine z_cVb0 (pc := 48) G kb_3 hX.1 ht (bk_isTooDear hl hX ht ) rfl q_ml_X2_99 h_X2_isTooDear ⟨Nat.le_of_ble_eq_true rfl, Nat.le_of_ble_eq_true rfl⟩ (Nat.le_of_ble_eq_true rfl) (Nat.le_refl _) (Nat.le_refl _) dX2_reasons_48 (fun c4 => ?_) (fun c4 => ?_)
    · refine x_if_eq (pc := 51) (y := 0) (tgt := 57) G dX2_reasons_51 rfl (fun q => absurd q (by decide)) (fun _ => ?_)
      refine x_iinc1 (pc := 54) (v := 3) G dX2_reasons_54 (by decide) (Nat.le_of_ble_eq_true rfl) lp_c2_vr ?_
      refine x_iload1 (pc := 57) G dX2_reasons_57 ?_
      exact x_iret (pc := 58) G B rfl dX2_reasons_58 ⟨by rw [k_reasons, if_pos c1, if_neg c2, if_pos c4], rfl⟩
    refine x_if_eq (pc := 51) (y := 0) (tgt := 57) G dX2_reasons_51 rfl (fun _ => ?_) (fun q => absurd q (by decide))
    refine x_iload1 (pc := 57) G dX2_reasons_57 ?_
    exact x_iret (pc := 58) G B rfl dX2_reasons_58 ⟨by rw [k_reasons, if_pos c1, if_neg c2, if_neg c4], rfl⟩
  refine z_aload0 (pc := 24) G vr_r dX2_reasons_24 ?_
  refine z_g (pc := 25) (f := 97) (x := t) (v := (vr X 4 (xi X 97 t))) G kb_3 gb_X2_54 rfl hX.1 ht cr_97 dX2_reasons_25 ?_
  refine z_g (pc := 28) (f := 130) (x := (xi X 97 t)) (v := (.int (ci S 130 (xi X 97 t)))) G kb_4 gb_X2_93 rfl hX.1 (hX.ivL ht) cr_130 dX2_reasons_28 ?_
  refine x_goto (pc := 31) (tgt := 41) G dX2_reasons_31 rfl ?_
  refine x_icmp_le (pc := 41) (tgt := 47) G dX2_reasons_41 rfl (fun c5 => ?_) (fun c5 => ?_)
  · refine z_aload0 (pc := 47) G vr_r dX2_reasons_47 ?_
    refine z_cVb0 (pc := 48) G kb_3 hX.1 ht (bk_isTooDear hl hX ht ) rfl q_ml_X2_99 h_X2_isTooDear ⟨Nat.le_of_ble_eq_true rfl, Nat.le_of_ble_eq_true rfl⟩ (Nat.le_of_ble_eq_true rfl) (Nat.le_refl _) (Nat.le_refl _) dX2_reasons_48 (fun c6 => ?_) (fun c6 => ?_)
    · refine x_if_eq (pc := 51) (y := 0) (tgt := 57) G dX2_reasons_51 rfl (fun q => absurd q (by decide)) (fun _ => ?_)
      refine x_iinc1 (pc := 54) (v := 2) G dX2_reasons_54 (by decide) (Nat.le_of_ble_eq_true rfl) lp_c2_vr ?_
      refine x_iload1 (pc := 57) G dX2_reasons_57 ?_
      exact x_iret (pc := 58) G B rfl dX2_reasons_58 ⟨by rw [k_reasons, if_neg c1, if_pos c5, if_pos c6], rfl⟩
    refine x_if_eq (pc := 51) (y := 0) (tgt := 57) G dX2_reasons_51 rfl (fun _ => ?_) (fun q => absurd q (by decide))
    refine x_iload1 (pc := 57) G dX2_reasons_57 ?_
    exact x_iret (pc := 58) G B rfl dX2_reasons_58 ⟨by rw [k_reasons, if_neg c1, if_pos c5, if_neg c6], rfl⟩
  refine x_iinc1 (pc := 44) (v := 1) G dX2_reasons_44 (by decide) (Nat.le_of_ble_eq_true rfl) lp_c2_vr ?_
  refine z_aload0 (pc := 47) G vr_r dX2_reasons_47 ?_
  refine z_cVb0 (pc := 48) G kb_3 hX.1 ht (bk_isTooDear hl hX ht ) rfl q_ml_X2_99 h_X2_isTooDear ⟨Nat.le_of_ble_eq_true rfl, Nat.le_of_ble_eq_true rfl⟩ (Nat.le_of_ble_eq_true rfl) (Nat.le_refl _) (Nat.le_refl _) dX2_reasons_48 (fun c7 => ?_) (fun c7 => ?_)
  · refine x_if_eq (pc := 51) (y := 0) (tgt := 57) G dX2_reasons_51 rfl (fun q => absurd q (by decide)) (fun _ => ?_)
    refine x_iinc1 (pc := 54) (v := 3) G dX2_reasons_54 (by decide) (Nat.le_of_ble_eq_true rfl) lp_c2_vr ?_
    refine x_iload1 (pc := 57) G dX2_reasons_57 ?_
    exact x_iret (pc := 58) G B rfl dX2_reasons_58 ⟨by rw [k_reasons, if_neg c1, if_neg c5, if_pos c7], rfl⟩
  refine x_if_eq (pc := 51) (y := 0) (tgt := 57) G dX2_reasons_51 rfl (fun _ => ?_) (fun q => absurd q (by decide))
  refine x_iload1 (pc := 57) G dX2_reasons_57 ?_
  exact x_iret (pc := 58) G B rfl dX2_reasons_58 ⟨by rw [k_reasons, if_neg c1, if_neg c5, if_neg c7], rfl⟩
theorem dX2_owedInMoney_0 : decode cX2_owedInMoney 0 = .ok (.aload_n 0, 1) := by decide +kernel
theorem dX2_owedInMoney_1 : decode cX2_owedInMoney 1 = .ok (.getfield 62, 3) := by decide +kernel
theorem dX2_owedInMoney_4 : decode cX2_owedInMoney 4 = .ok (.i2l, 1) := by decide +kernel
theorem dX2_owedInMoney_5 : decode cX2_owedInMoney 5 = .ok (.aload_n 0, 1) := by decide +kernel
theorem dX2_owedInMoney_6 : decode cX2_owedInMoney 6 = .ok (.getfield 65, 3) := by decide +kernel
theorem dX2_owedInMoney_9 : decode cX2_owedInMoney 9 = .ok (.i2l, 1) := by decide +kernel
theorem dX2_owedInMoney_10 : decode cX2_owedInMoney 10 = .ok (.lmul, 1) := by decide +kernel
theorem dX2_owedInMoney_11 : decode cX2_owedInMoney 11 = .ok (.lstore_n 1, 1) := by decide +kernel
theorem dX2_owedInMoney_12 : decode cX2_owedInMoney 12 = .ok (.aload_n 0, 1) := by decide +kernel
theorem dX2_owedInMoney_13 : decode cX2_owedInMoney 13 = .ok (.getfield 19, 3) := by decide +kernel
theorem dX2_owedInMoney_16 : decode cX2_owedInMoney 16 = .ok (.ifCond .eq 19, 3) := by decide +kernel
theorem dX2_owedInMoney_19 : decode cX2_owedInMoney 19 = .ok (.lload_n 1, 1) := by decide +kernel
theorem dX2_owedInMoney_20 : decode cX2_owedInMoney 20 = .ok (.lload_n 1, 1) := by decide +kernel
theorem dX2_owedInMoney_21 : decode cX2_owedInMoney 21 = .ok (.aload_n 0, 1) := by decide +kernel
theorem dX2_owedInMoney_22 : decode cX2_owedInMoney 22 = .ok (.getfield 22, 3) := by decide +kernel
theorem dX2_owedInMoney_25 : decode cX2_owedInMoney 25 = .ok (.i2l, 1) := by decide +kernel
theorem dX2_owedInMoney_26 : decode cX2_owedInMoney 26 = .ok (.lmul, 1) := by decide +kernel
theorem dX2_owedInMoney_27 : decode cX2_owedInMoney 27 = .ok (.ldc2_w 109, 3) := by decide +kernel
theorem dX2_owedInMoney_30 : decode cX2_owedInMoney 30 = .ok (.ldiv, 1) := by decide +kernel
theorem dX2_owedInMoney_31 : decode cX2_owedInMoney 31 = .ok (.ladd, 1) := by decide +kernel
theorem dX2_owedInMoney_32 : decode cX2_owedInMoney 32 = .ok (.goto 4, 3) := by decide +kernel
theorem dX2_owedInMoney_35 : decode cX2_owedInMoney 35 = .ok (.lload_n 1, 1) := by decide +kernel
theorem dX2_owedInMoney_36 : decode cX2_owedInMoney 36 = .ok (.lreturn, 1) := by decide +kernel
def k_owedInMoney (t : Int32)  (X : CX) (S : CT) : Int64 :=
    if (ci S 104 t) = 0 then
      (((xi X 99 t).toInt64) * ((xi X 100 t).toInt64))
    else
    ((((xi X 99 t).toInt64) * ((xi X 100 t).toInt64)) + (((((xi X 99 t).toInt64) * ((xi X 100 t).toInt64)) * ((ci S 105 t).toInt64)) / 100))
abbrev rm_X2_owedInMoney : Room := { frames := 0, cells := 0, slots := 0, locals := 0 }
set_option maxRecDepth 100000 in
set_option maxHeartbeats 4000000 in
theorem ck_owedInMoney {l : Launch} {k : KC} (hl : l.stackTraces = false) {X : CX} {S : CT} (hX : XOK X) {t : Int32}  (ht : lI X 3 t)  : MC l k yX2_owedInMoney (.code yX2_owedInMoney cX2_owedInMoney 3 (some .long)) rm_X2_owedInMoney [(vr X 3 t)] (cW k X S) (pR (some (.long (k_owedInMoney t X S))) (cW k X S)) := by
  refine MC.of 2 hl (by decide) (by simp only [lg_sl_vr, lg_sl_i, lg_sl_l, lg_sl_0]; exact Nat.le_of_ble_eq_true rfl) ?_
  intro p e s m args below meth c A Q G B B2 hout
  simp only [lp_args_vr, lp_args_i, lp_args_l, lp_args_0]
  show Wx p l e rm_X2_owedInMoney s m args below meth c k A 3 Q 0 0 0 [some ((vr X 3 t)), none, none] [] (cW k X S)
  refine z_aload0 (pc := 0) G vr_r dX2_owedInMoney_0 ?_
  refine z_g (pc := 1) (f := 99) (x := t) (v := (.int (xi X 99 t))) G kb_3 gb_X2_62 rfl hX.1 ht cr_99 dX2_owedInMoney_1 ?_
  refine x_i2l (pc := 4) G dX2_owedInMoney_4 ?_
  refine z_aload0 (pc := 5) G vr_r dX2_owedInMoney_5 ?_
  refine z_g (pc := 6) (f := 100) (x := t) (v := (.int (xi X 100 t))) G kb_3 gb_X2_65 rfl hX.1 ht cr_100 dX2_owedInMoney_6 ?_
  refine x_i2l (pc := 9) G dX2_owedInMoney_9 ?_
  refine x_lmul (pc := 10) G dX2_owedInMoney_10 ?_
  refine x_lstore1 (pc := 11) G dX2_owedInMoney_11 (Nat.le_of_ble_eq_true rfl) lp_c2_vr ?_
  refine z_aload0 (pc := 12) G vr_r dX2_owedInMoney_12 ?_
  refine z_g (pc := 13) (f := 104) (x := t) (v := (.int (ci S 104 t))) G kb_3 gb_X2_19 rfl hX.1 ht cr_104 dX2_owedInMoney_13 ?_
  refine x_if_eq (pc := 16) (y := 0) (tgt := 35) G dX2_owedInMoney_16 rfl (fun c1 => ?_) (fun c1 => ?_)
  · refine x_lload1 (pc := 35) G dX2_owedInMoney_35 ?_
    exact x_lret (pc := 36) G B rfl dX2_owedInMoney_36 ⟨by rw [k_owedInMoney, if_pos c1], rfl⟩
  refine x_lload1 (pc := 19) G dX2_owedInMoney_19 ?_
  refine x_lload1 (pc := 20) G dX2_owedInMoney_20 ?_
  refine z_aload0 (pc := 21) G vr_r dX2_owedInMoney_21 ?_
  refine z_g (pc := 22) (f := 105) (x := t) (v := (.int (ci S 105 t))) G kb_3 gb_X2_22 rfl hX.1 ht cr_105 dX2_owedInMoney_22 ?_
  refine x_i2l (pc := 25) G dX2_owedInMoney_25 ?_
  refine x_lmul (pc := 26) G dX2_owedInMoney_26 ?_
  refine x_ldc2 (pc := 27) G q_cL_X2_109 dX2_owedInMoney_27 ?_
  refine x_ldiv (pc := 30) G dX2_owedInMoney_30 (by decide) ?_
  refine x_ladd (pc := 31) G dX2_owedInMoney_31 ?_
  refine x_goto (pc := 32) (tgt := 36) G dX2_owedInMoney_32 rfl ?_
  exact x_lret (pc := 36) G B rfl dX2_owedInMoney_36 ⟨by rw [k_owedInMoney, if_neg c1], rfl⟩
theorem dX7_isCommitting_0 : decode cX7_isCommitting 0 = .ok (.aload_n 0, 1) := by decide +kernel
theorem dX7_isCommitting_1 : decode cX7_isCommitting 1 = .ok (.getfield 18, 3) := by decide +kernel
theorem dX7_isCommitting_4 : decode cX7_isCommitting 4 = .ok (.iconst 1, 1) := by decide +kernel
theorem dX7_isCommitting_5 : decode cX7_isCommitting 5 = .ok (.if_icmp .eq 19, 3) := by decide +kernel
theorem dX7_isCommitting_8 : decode cX7_isCommitting 8 = .ok (.aload_n 0, 1) := by decide +kernel
theorem dX7_isCommitting_9 : decode cX7_isCommitting 9 = .ok (.getfield 18, 3) := by decide +kernel
theorem dX7_isCommitting_12 : decode cX7_isCommitting 12 = .ok (.iconst 2, 1) := by decide +kernel
theorem dX7_isCommitting_13 : decode cX7_isCommitting 13 = .ok (.if_icmp .eq 11, 3) := by decide +kernel
theorem dX7_isCommitting_16 : decode cX7_isCommitting 16 = .ok (.aload_n 0, 1) := by decide +kernel
theorem dX7_isCommitting_17 : decode cX7_isCommitting 17 = .ok (.getfield 18, 3) := by decide +kernel
theorem dX7_isCommitting_20 : decode cX7_isCommitting 20 = .ok (.iconst 4, 1) := by decide +kernel
theorem dX7_isCommitting_21 : decode cX7_isCommitting 21 = .ok (.if_icmp .ne 7, 3) := by decide +kernel
theorem dX7_isCommitting_24 : decode cX7_isCommitting 24 = .ok (.iconst 1, 1) := by decide +kernel
theorem dX7_isCommitting_25 : decode cX7_isCommitting 25 = .ok (.goto 4, 3) := by decide +kernel
theorem dX7_isCommitting_28 : decode cX7_isCommitting 28 = .ok (.iconst 0, 1) := by decide +kernel
theorem dX7_isCommitting_29 : decode cX7_isCommitting 29 = .ok (.ireturn, 1) := by decide +kernel
def k_isCommitting (t : Int32)  (X : CX) (S : CT) : Int32 :=
    if (ci S 259 t) = 1 then
      1
    else
    if (ci S 259 t) = 2 then
      1
    else
    if (ci S 259 t) = 4 then
      1
    else
    0
abbrev rm_X7_isCommitting : Room := { frames := 0, cells := 0, slots := 0, locals := 0 }
set_option maxRecDepth 100000 in
set_option maxHeartbeats 4000000 in
theorem ck_isCommitting {l : Launch} {k : KC} (hl : l.stackTraces = false) {X : CX} {S : CT} (hX : XOK X) {t : Int32}  (ht : lI X 8 t)  : MC l k yX7_isCommitting (.code yX7_isCommitting cX7_isCommitting 1 (some .boolean)) rm_X7_isCommitting [(vr X 8 t)] (cW k X S) (pR (some (.int (k_isCommitting t X S))) (cW k X S)) := by
  refine MC.of 0 hl (by decide) (by simp only [lg_sl_vr, lg_sl_i, lg_sl_l, lg_sl_0]; exact Nat.le_of_ble_eq_true rfl) ?_
  intro p e s m args below meth c A Q G B B2 hout
  simp only [lp_args_vr, lp_args_i, lp_args_l, lp_args_0]
  show Wx p l e rm_X7_isCommitting s m args below meth c k A 1 Q 0 0 0 [some ((vr X 8 t))] [] (cW k X S)
  refine z_aload0 (pc := 0) G vr_r dX7_isCommitting_0 ?_
  refine z_g (pc := 1) (f := 259) (x := t) (v := (.int (ci S 259 t))) G kb_8 gb_X7_18 rfl hX.1 ht cr_259 dX7_isCommitting_1 ?_
  refine x_iconst (pc := 4) (v := 1) G dX7_isCommitting_4 ic_1 ?_
  refine x_icmp_eq (pc := 5) (tgt := 24) G dX7_isCommitting_5 rfl (fun c1 => ?_) (fun c1 => ?_)
  · refine x_iconst (pc := 24) (v := 1) G dX7_isCommitting_24 ic_1 ?_
    refine x_goto (pc := 25) (tgt := 29) G dX7_isCommitting_25 rfl ?_
    exact x_zret (pc := 29) G B rfl (by decide) dX7_isCommitting_29 ⟨by rw [k_isCommitting, if_pos c1], rfl⟩
  refine z_aload0 (pc := 8) G vr_r dX7_isCommitting_8 ?_
  refine z_g (pc := 9) (f := 259) (x := t) (v := (.int (ci S 259 t))) G kb_8 gb_X7_18 rfl hX.1 ht cr_259 dX7_isCommitting_9 ?_
  refine x_iconst (pc := 12) (v := 2) G dX7_isCommitting_12 ic_2 ?_
  refine x_icmp_eq (pc := 13) (tgt := 24) G dX7_isCommitting_13 rfl (fun c2 => ?_) (fun c2 => ?_)
  · refine x_iconst (pc := 24) (v := 1) G dX7_isCommitting_24 ic_1 ?_
    refine x_goto (pc := 25) (tgt := 29) G dX7_isCommitting_25 rfl ?_
    exact x_zret (pc := 29) G B rfl (by decide) dX7_isCommitting_29 ⟨by rw [k_isCommitting, if_neg c1, if_pos c2], rfl⟩
  refine z_aload0 (pc := 16) G vr_r dX7_isCommitting_16 ?_
  refine z_g (pc := 17) (f := 259) (x := t) (v := (.int (ci S 259 t))) G kb_8 gb_X7_18 rfl hX.1 ht cr_259 dX7_isCommitting_17 ?_
  refine x_iconst (pc := 20) (v := 4) G dX7_isCommitting_20 ic_4 ?_
  refine x_icmp_ne (pc := 21) (tgt := 28) G dX7_isCommitting_21 rfl (fun c3 => ?_) (fun c3 => ?_)
  · refine x_iconst (pc := 28) (v := 0) G dX7_isCommitting_28 ic_0 ?_
    exact x_zret (pc := 29) G B rfl (by decide) dX7_isCommitting_29 ⟨by rw [k_isCommitting, if_neg c1, if_neg c2, if_neg c3], rfl⟩
  refine x_iconst (pc := 24) (v := 1) G dX7_isCommitting_24 ic_1 ?_
  refine x_goto (pc := 25) (tgt := 29) G dX7_isCommitting_25 rfl ?_
  exact x_zret (pc := 29) G B rfl (by decide) dX7_isCommitting_29 ⟨by rw [k_isCommitting, if_neg c1, if_neg c2, if_pos c3], rfl⟩
abbrev K_isCommitting (t : Int32)  (X : CX) (S : CT) : Prop := ci S 259 t = 1 ∨ ci S 259 t = 2 ∨ ci S 259 t = 4
theorem vk_isCommitting {t : Int32}  {X : CX} {S : CT} : (k_isCommitting t X S) = if K_isCommitting t X S then 1 else 0 := by
  unfold k_isCommitting K_isCommitting
  repeat' split
  all_goals simp_all
theorem bk_isCommitting {l : Launch} {k : KC} (hl : l.stackTraces = false) {X : CX} {S : CT} (hX : XOK X) {t : Int32}  (ht : lI X 8 t)  : (K_isCommitting t X S → MC l k yX7_isCommitting (.code yX7_isCommitting cX7_isCommitting 1 (some .boolean)) rm_X7_isCommitting [(vr X 8 t)] (cW k X S) (pR (some (.int 1)) (cW k X S))) ∧ (¬ K_isCommitting t X S → MC l k yX7_isCommitting (.code yX7_isCommitting cX7_isCommitting 1 (some .boolean)) rm_X7_isCommitting [(vr X 8 t)] (cW k X S) (pR (some (.int 0)) (cW k X S))) := MC.bool (by rw [← vk_isCommitting]; exact ck_isCommitting hl hX ht)
