theorem dX10_waitOrApprove_0 : decode cX10_waitOrApprove 0 = .ok (.aload_n 0, 1) := by decide +kernel
theorem dX10_waitOrApprove_1 : decode cX10_waitOrApprove 1 = .ok (.invokestatic 448, 3) := by decide +kernel
theorem dX10_waitOrApprove_4 : decode cX10_waitOrApprove 4 = .ok (.istore_n 1, 1) := by decide +kernel
theorem dX10_waitOrApprove_5 : decode cX10_waitOrApprove 5 = .ok (.iload_n 1, 1) := by decide +kernel
theorem dX10_waitOrApprove_6 : decode cX10_waitOrApprove 6 = .ok (.ifCond .ne 8, 3) := by decide +kernel
theorem dX10_waitOrApprove_9 : decode cX10_waitOrApprove 9 = .ok (.aload_n 0, 1) := by decide +kernel
theorem dX10_waitOrApprove_10 : decode cX10_waitOrApprove 10 = .ok (.iconst 2, 1) := by decide +kernel
theorem dX10_waitOrApprove_11 : decode cX10_waitOrApprove 11 = .ok (.putfield 209, 3) := by decide +kernel
theorem dX10_waitOrApprove_14 : decode cX10_waitOrApprove 14 = .ok (.iload_n 1, 1) := by decide +kernel
theorem dX10_waitOrApprove_15 : decode cX10_waitOrApprove 15 = .ok (.ireturn, 1) := by decide +kernel
def k_waitOrApprove (p1 : Int32) (X : CX) (S : CT) : Int32 × CT :=
    if (k_missingApprovals p1 X S) = 0 then
      ((k_missingApprovals p1 X S), (si S 259 p1 2))
    else
    ((k_missingApprovals p1 X S), S)
abbrev rm_X10_waitOrApprove : Room := { frames := 5, cells := 0, slots := 0, locals := 112 }
set_option maxRecDepth 100000 in
set_option maxHeartbeats 4000000 in
theorem ck_waitOrApprove {l : Launch} {k : KC} (hl : l.stackTraces = false) {X : CX} {S : CT} (hX : XOK X) {p1 : Int32} (hp1 : lI X 8 p1) (hB : BS X) (h6 : oI X 6 (ci S 262 p1))  : MC l k yX10_waitOrApprove (.code yX10_waitOrApprove cX10_waitOrApprove 2 (some .int)) rm_X10_waitOrApprove [(vr X 8 p1)] (cW k X S) (pR (some (.int (k_waitOrApprove p1 X S).1)) (cW k X (k_waitOrApprove p1 X S).2)) := by
  refine MC.of 1 hl (by decide) (by simp only [lg_sl_vr, lg_sl_i, lg_sl_l, lg_sl_0]; exact Nat.le_of_ble_eq_true rfl) ?_
  intro p e s m args below meth c A Q G B B2 hout
  simp only [lp_args_vr, lp_args_i, lp_args_l, lp_args_0]
  show Wx p l e rm_X10_waitOrApprove s m args below meth c k A 2 Q 0 0 0 [some ((vr X 8 p1)), none] [] (cW k X S)
  refine z_aload0 (pc := 0) G vr_r dX10_waitOrApprove_0 ?_
  refine x_cS1 (pc := 1) G (ck_missingApprovals hl hX hp1 hB h6) q_ml_X10_448 h_X10_missingApprovals ⟨Nat.le_of_ble_eq_true rfl, Nat.le_of_ble_eq_true rfl⟩ (Nat.le_of_ble_eq_true rfl) (Nat.le_refl _) (Nat.le_refl _) dX10_waitOrApprove_1 ?_
  refine x_istore1 (pc := 4) G dX10_waitOrApprove_4 (Nat.le_of_ble_eq_true rfl) lp_c2_vr ?_
  refine x_iload1 (pc := 5) G dX10_waitOrApprove_5 ?_
  refine x_if_ne (pc := 6) (y := 0) (tgt := 14) G dX10_waitOrApprove_6 rfl (fun c1 => ?_) (fun c1 => ?_)
  · refine x_iload1 (pc := 14) G dX10_waitOrApprove_14 ?_
    exact x_iret (pc := 15) G B rfl dX10_waitOrApprove_15 ⟨by rw [k_waitOrApprove, if_neg c1], by rw [k_waitOrApprove, if_neg c1]⟩
  refine z_aload0 (pc := 9) G vr_r dX10_waitOrApprove_9 ?_
  refine x_iconst (pc := 10) (v := 2) G dX10_waitOrApprove_10 ic_2 ?_
  refine z_pI (pc := 11) (f := 259) G kb_8 gb_X10_209 rfl hX.1 hp1 rfl (cr_259.trans (congrArg Value.int ci_ss)) rfl rfl dX10_waitOrApprove_11 ?_
  refine x_iload1 (pc := 14) G dX10_waitOrApprove_14 ?_
  exact x_iret (pc := 15) G B rfl dX10_waitOrApprove_15 ⟨by rw [k_waitOrApprove, if_pos c1], by rw [k_waitOrApprove, if_pos c1]⟩
set_option maxRecDepth 100000 in
set_option maxHeartbeats 4000000 in
theorem ci_waitOrApprove {p1 : Int32} {X : CX} {S : CT} {g : Nat} {x : Int32} (h0 : (g == 259) = false) : ci (k_waitOrApprove p1 X S).2 g x = ci S g x := by
  unfold k_waitOrApprove
  repeat' split
  all_goals simp only [ci_j, ci_sn h0]
set_option maxRecDepth 100000 in
set_option maxHeartbeats 4000000 in
theorem cj_waitOrApprove {p1 : Int32} {X : CX} {S : CT} {g : Nat} {x : Int32}  : cj (k_waitOrApprove p1 X S).2 g x = cj S g x := by
  unfold k_waitOrApprove
  repeat' split
  all_goals simp only [cj_i]
theorem dX10_startChain_0 : decode cX10_startChain 0 = .ok (.aload_n 1, 1) := by decide +kernel
theorem dX10_startChain_1 : decode cX10_startChain 1 = .ok (.aload_n 1, 1) := by decide +kernel
theorem dX10_startChain_2 : decode cX10_startChain 2 = .ok (.getfield 514, 3) := by decide +kernel
theorem dX10_startChain_5 : decode cX10_startChain 5 = .ok (.getfield 517, 3) := by decide +kernel
theorem dX10_startChain_8 : decode cX10_startChain 8 = .ok (.putfield 255, 3) := by decide +kernel
theorem dX10_startChain_11 : decode cX10_startChain 11 = .ok (.aload_n 1, 1) := by decide +kernel
theorem dX10_startChain_12 : decode cX10_startChain 12 = .ok (.aconst_null, 1) := by decide +kernel
theorem dX10_startChain_13 : decode cX10_startChain 13 = .ok (.putfield 266, 3) := by decide +kernel
theorem dX10_startChain_16 : decode cX10_startChain 16 = .ok (.lload_n 2, 1) := by decide +kernel
theorem dX10_startChain_17 : decode cX10_startChain 17 = .ok (.ldc2_w 520, 3) := by decide +kernel
theorem dX10_startChain_20 : decode cX10_startChain 20 = .ok (.lcmp, 1) := by decide +kernel
theorem dX10_startChain_21 : decode cX10_startChain 21 = .ok (.ifCond .lt 33, 3) := by decide +kernel
theorem dX10_startChain_24 : decode cX10_startChain 24 = .ok (.aload_n 0, 1) := by decide +kernel
theorem dX10_startChain_25 : decode cX10_startChain 25 = .ok (.getfield 45, 3) := by decide +kernel
theorem dX10_startChain_28 : decode cX10_startChain 28 = .ok (.aload_n 1, 1) := by decide +kernel
theorem dX10_startChain_29 : decode cX10_startChain 29 = .ok (.getfield 514, 3) := by decide +kernel
theorem dX10_startChain_32 : decode cX10_startChain 32 = .ok (.if_acmp .eq 22, 3) := by decide +kernel
theorem dX10_startChain_35 : decode cX10_startChain 35 = .ok (.aload_n 1, 1) := by decide +kernel
theorem dX10_startChain_36 : decode cX10_startChain 36 = .ok (.aload_n 0, 1) := by decide +kernel
theorem dX10_startChain_37 : decode cX10_startChain 37 = .ok (.getfield 45, 3) := by decide +kernel
theorem dX10_startChain_40 : decode cX10_startChain 40 = .ok (.invokestatic 522, 3) := by decide +kernel
theorem dX10_startChain_43 : decode cX10_startChain 43 = .ok (.ifCond .ne 11, 3) := by decide +kernel
theorem dX10_startChain_46 : decode cX10_startChain 46 = .ok (.aload_n 1, 1) := by decide +kernel
theorem dX10_startChain_47 : decode cX10_startChain 47 = .ok (.aload_n 0, 1) := by decide +kernel
theorem dX10_startChain_48 : decode cX10_startChain 48 = .ok (.getfield 45, 3) := by decide +kernel
theorem dX10_startChain_51 : decode cX10_startChain 51 = .ok (.putfield 266, 3) := by decide +kernel
theorem dX10_startChain_54 : decode cX10_startChain 54 = .ok (.return_, 1) := by decide +kernel
def k_startChain (p1 : Int32) (p2 : Int64) (X : CX) (S : CT) : CT :=
    if (lg_cmp p2 100000) < 0 then
      (si (si S 262 p1 (xi X 193 (xi X 256 p1))) 263 p1 (-1))
    else
    if (ci S 362 0) = (xi X 256 p1) then
      (si (si S 262 p1 (xi X 193 (xi X 256 p1))) 263 p1 (-1))
    else
    if K_isAmongBosses p1 (ci S 362 0) X (si (si S 262 p1 (xi X 193 (xi X 256 p1))) 263 p1 (-1)) then
      (si (si S 262 p1 (xi X 193 (xi X 256 p1))) 263 p1 (-1))
    else
    (si (si (si S 262 p1 (xi X 193 (xi X 256 p1))) 263 p1 (-1)) 263 p1 (ci S 362 0))
abbrev rm_X10_startChain : Room := { frames := 5, cells := 0, slots := 0, locals := 112 }
set_option maxRecDepth 100000 in
set_option maxHeartbeats 4000000 in
theorem ck_startChain {l : Launch} {k : KC} (hl : l.stackTraces = false) {X : CX} {S : CT} (hX : XOK X) {p1 : Int32} {p2 : Int64} (hp1 : lI X 8 p1) (hB : BS X) (hT : TS X S)  : MC l k yX10_startChain (.code yX10_startChain cX10_startChain 4 none) rm_X10_startChain [(vr X 11 0), (vr X 8 p1), .long p2] (cW k X S) (pR none (cW k X (k_startChain p1 p2 X S))) := by
  refine MC.of 0 hl (by decide) (by simp only [lg_sl_vr, lg_sl_i, lg_sl_l, lg_sl_0]; exact Nat.le_of_ble_eq_true rfl) ?_
  intro p e s m args below meth c A Q G B B2 hout
  simp only [lp_args_vr, lp_args_i, lp_args_l, lp_args_0]
  show Wx p l e rm_X10_startChain s m args below meth c k A 4 Q 0 0 0 [some ((vr X 11 0)), some ((vr X 8 p1)), some (.long p2), none] [] (cW k X S)
  refine z_aload1 (pc := 0) G vr_r dX10_startChain_0 ?_
  refine z_aload1 (pc := 1) G vr_r dX10_startChain_1 ?_
  refine z_g (pc := 2) (f := 256) (x := p1) (v := (vr X 6 (xi X 256 p1))) G kb_8 gb_X10_514 rfl hX.1 hp1 cr_256 dX10_startChain_2 ?_
  refine z_g (pc := 5) (f := 193) (x := (xi X 256 p1)) (v := (vr X 6 (xi X 193 (xi X 256 p1)))) G kb_6 gb_X10_517 rfl hX.1 (hX.asker hp1) cr_193 dX10_startChain_5 ?_
  refine z_pR (pc := 8) (f := 262) G kb_8 gb_X10_255 rfl hX.1 hp1 rfl (cr_262.trans (congrArg (vr X 6) ci_ss)) (Or.inl ⟨_, rfl⟩) dX10_startChain_8 ?_
  refine z_aload1 (pc := 11) G vr_r dX10_startChain_11 ?_
  refine z_null (pc := 12) 6 X G dX10_startChain_12 ?_
  refine z_pR (pc := 13) (f := 263) G kb_8 gb_X10_266 rfl hX.1 hp1 rfl (cr_263.trans (congrArg (vr X 6) ci_ss)) (Or.inl ⟨_, rfl⟩) dX10_startChain_13 ?_
  refine x_lload2 (pc := 16) G dX10_startChain_16 ?_
  refine x_ldc2 (pc := 17) G q_cL_X10_520 dX10_startChain_17 ?_
  refine x_lcmp (pc := 20) G dX10_startChain_20 ?_
  refine x_if_lt (pc := 21) (y := 0) (tgt := 54) G dX10_startChain_21 rfl (fun c1 => ?_) (fun c1 => ?_)
  · exact x_vret (pc := 54) G B rfl dX10_startChain_54 ⟨rfl, by rw [k_startChain, if_pos c1]⟩
  refine z_aload0 (pc := 24) G vr_r dX10_startChain_24 ?_
  refine z_g (pc := 25) (f := 362) (x := 0) (v := (vr X 6 (ci S 362 0))) G kb_11 gb_X10_45 rfl hX.1 hX.l11 (cr_362.trans (congrArg (vr X 6) ((ci_sn rfl).trans (ci_sn rfl)))) dX10_startChain_25 ?_
  refine z_aload1 (pc := 28) G vr_r dX10_startChain_28 ?_
  refine z_g (pc := 29) (f := 256) (x := p1) (v := (vr X 6 (xi X 256 p1))) G kb_8 gb_X10_514 rfl hX.1 hp1 cr_256 dX10_startChain_29 ?_
  refine z_acmp_eq (pc := 32) (tgt := 54) (kd := 6) (x := (ci S 362 0)) (y := (xi X 256 p1)) G hT.ctl (Or.inr (hX.asker hp1)) dX10_startChain_32 rfl (fun c2 => ?_) (fun c2 => ?_)
  · exact x_vret (pc := 54) G B rfl dX10_startChain_54 ⟨rfl, by rw [k_startChain, if_neg c1, if_pos c2]⟩
  refine z_aload1 (pc := 35) G vr_r dX10_startChain_35 ?_
  refine z_aload0 (pc := 36) G vr_r dX10_startChain_36 ?_
  refine z_g (pc := 37) (f := 362) (x := 0) (v := (vr X 6 (ci S 362 0))) G kb_11 gb_X10_45 rfl hX.1 hX.l11 (cr_362.trans (congrArg (vr X 6) ((ci_sn rfl).trans (ci_sn rfl)))) dX10_startChain_37 ?_
  refine x_cSb2 (pc := 40) G (bk_isAmongBosses hl hX hp1 hT.ctl hB (by rw [((ci_sn rfl).trans ci_ss)]; exact (hX.boss (hX.asker hp1)))) q_ml_X10_522 h_X10_isAmongBosses ⟨Nat.le_of_ble_eq_true rfl, Nat.le_of_ble_eq_true rfl⟩ (Nat.le_of_ble_eq_true rfl) (Nat.le_refl _) (Nat.le_refl _) dX10_startChain_40 (fun c3 => ?_) (fun c3 => ?_)
  · refine x_if_ne (pc := 43) (y := 0) (tgt := 54) G dX10_startChain_43 rfl (fun _ => ?_) (fun q => absurd q (by decide))
    exact x_vret (pc := 54) G B rfl dX10_startChain_54 ⟨rfl, by rw [k_startChain, if_neg c1, if_neg c2, if_pos c3]⟩
  refine x_if_ne (pc := 43) (y := 0) (tgt := 54) G dX10_startChain_43 rfl (fun q => absurd q (by decide)) (fun _ => ?_)
  refine z_aload1 (pc := 46) G vr_r dX10_startChain_46 ?_
  refine z_aload0 (pc := 47) G vr_r dX10_startChain_47 ?_
  refine z_g (pc := 48) (f := 362) (x := 0) (v := (vr X 6 (ci S 362 0))) G kb_11 gb_X10_45 rfl hX.1 hX.l11 (cr_362.trans (congrArg (vr X 6) ((ci_sn rfl).trans (ci_sn rfl)))) dX10_startChain_48 ?_
  refine z_pR (pc := 51) (f := 263) G kb_8 gb_X10_266 rfl hX.1 hp1 rfl (cr_263.trans (congrArg (vr X 6) ci_ss)) (Or.inl ⟨_, rfl⟩) dX10_startChain_51 ?_
  exact x_vret (pc := 54) G B rfl dX10_startChain_54 ⟨rfl, by rw [k_startChain, if_neg c1, if_neg c2, if_neg c3]⟩
set_option maxRecDepth 100000 in
set_option maxHeartbeats 4000000 in
theorem ci_startChain {p1 : Int32} {p2 : Int64} {X : CX} {S : CT} {g : Nat} {x : Int32} (h0 : (g == 262) = false) (h1 : (g == 263) = false) : ci (k_startChain p1 p2 X S) g x = ci S g x := by
  unfold k_startChain
  repeat' split
  all_goals simp only [ci_j, ci_sn h0, ci_sn h1]
set_option maxRecDepth 100000 in
set_option maxHeartbeats 4000000 in
theorem cj_startChain {p1 : Int32} {p2 : Int64} {X : CX} {S : CT} {g : Nat} {x : Int32}  : cj (k_startChain p1 p2 X S) g x = cj S g x := by
  unfold k_startChain
  repeat' split
  all_goals simp only [cj_i]
theorem dX10_accrue_0 : decode cX10_accrue 0 = .ok (.aload_n 0, 1) := by decide +kernel
theorem dX10_accrue_1 : decode cX10_accrue 1 = .ok (.getfield 209, 3) := by decide +kernel
theorem dX10_accrue_4 : decode cX10_accrue 4 = .ok (.iconst 4, 1) := by decide +kernel
theorem dX10_accrue_5 : decode cX10_accrue 5 = .ok (.if_icmp .eq 4, 3) := by decide +kernel
theorem dX10_accrue_8 : decode cX10_accrue 8 = .ok (.return_, 1) := by decide +kernel
theorem dX10_accrue_9 : decode cX10_accrue 9 = .ok (.aload_n 0, 1) := by decide +kernel
theorem dX10_accrue_10 : decode cX10_accrue 10 = .ok (.invokevirtual 511, 3) := by decide +kernel
theorem dX10_accrue_13 : decode cX10_accrue 13 = .ok (.lstore_n 2, 1) := by decide +kernel
theorem dX10_accrue_14 : decode cX10_accrue 14 = .ok (.aload_n 0, 1) := by decide +kernel
theorem dX10_accrue_15 : decode cX10_accrue 15 = .ok (.getfield 231, 3) := by decide +kernel
theorem dX10_accrue_18 : decode cX10_accrue 18 = .ok (.iload_n 1, 1) := by decide +kernel
theorem dX10_accrue_19 : decode cX10_accrue 19 = .ok (.invokestatic 487, 3) := by decide +kernel
theorem dX10_accrue_22 : decode cX10_accrue 22 = .ok (.dup, 1) := by decide +kernel
theorem dX10_accrue_23 : decode cX10_accrue 23 = .ok (.getfield 443, 3) := by decide +kernel
theorem dX10_accrue_26 : decode cX10_accrue 26 = .ok (.lload_n 2, 1) := by decide +kernel
theorem dX10_accrue_27 : decode cX10_accrue 27 = .ok (.ladd, 1) := by decide +kernel
theorem dX10_accrue_28 : decode cX10_accrue 28 = .ok (.putfield 443, 3) := by decide +kernel
theorem dX10_accrue_31 : decode cX10_accrue 31 = .ok (.aload_n 0, 1) := by decide +kernel
theorem dX10_accrue_32 : decode cX10_accrue 32 = .ok (.getfield 231, 3) := by decide +kernel
theorem dX10_accrue_35 : decode cX10_accrue 35 = .ok (.iload_n 1, 1) := by decide +kernel
theorem dX10_accrue_36 : decode cX10_accrue 36 = .ok (.iconst 1, 1) := by decide +kernel
theorem dX10_accrue_37 : decode cX10_accrue 37 = .ok (.iadd, 1) := by decide +kernel
theorem dX10_accrue_38 : decode cX10_accrue 38 = .ok (.invokestatic 487, 3) := by decide +kernel
theorem dX10_accrue_41 : decode cX10_accrue 41 = .ok (.dup, 1) := by decide +kernel
theorem dX10_accrue_42 : decode cX10_accrue 42 = .ok (.getfield 443, 3) := by decide +kernel
theorem dX10_accrue_45 : decode cX10_accrue 45 = .ok (.lload_n 2, 1) := by decide +kernel
theorem dX10_accrue_46 : decode cX10_accrue 46 = .ok (.lsub, 1) := by decide +kernel
theorem dX10_accrue_47 : decode cX10_accrue 47 = .ok (.putfield 443, 3) := by decide +kernel
theorem dX10_accrue_50 : decode cX10_accrue 50 = .ok (.return_, 1) := by decide +kernel
def k_accrue (p1 : Int32) (p2 : Int32) (X : CX) (S : CT) : CT :=
    if (ci S 259 p1) = 4 then
      (sj (sj S 226 (3 * (xi X 257 p1) + p2) ((cj S 226 (3 * (xi X 257 p1) + p2)) + (k_receivedUnbooked p1 X S))) 226 (3 * (xi X 257 p1) + (p2 + 1)) ((cj (sj S 226 (3 * (xi X 257 p1) + p2) ((cj S 226 (3 * (xi X 257 p1) + p2)) + (k_receivedUnbooked p1 X S))) 226 (3 * (xi X 257 p1) + (p2 + 1))) - (k_receivedUnbooked p1 X S)))
    else
    S
abbrev rm_X10_accrue : Room := { frames := 8, cells := 0, slots := 0, locals := 132 }
set_option maxRecDepth 100000 in
set_option maxHeartbeats 4000000 in
theorem ck_accrue {l : Launch} {k : KC} (hl : l.stackTraces = false) {X : CX} {S : CT} (hX : XOK X) {p1 : Int32} {p2 : Int32} (hp1 : lI X 8 p1) (h2 : P_num p2 (nS X 28 (xi X 257 p1))) (h3 : P_num (p2 + 1) (nS X 28 (xi X 257 p1)))  : MC l k yX10_accrue (.code yX10_accrue cX10_accrue 4 none) rm_X10_accrue [(vr X 8 p1), .int p2] (cW k X S) (pR none (cW k X (k_accrue p1 p2 X S))) := by
  refine MC.of 2 hl (by decide) (by simp only [lg_sl_vr, lg_sl_i, lg_sl_l, lg_sl_0]; exact Nat.le_of_ble_eq_true rfl) ?_
  intro p e s m args below meth c A Q G B B2 hout
  simp only [lp_args_vr, lp_args_i, lp_args_l, lp_args_0]
  show Wx p l e rm_X10_accrue s m args below meth c k A 4 Q 0 0 0 [some ((vr X 8 p1)), some (.int p2), none, none] [] (cW k X S)
  refine z_aload0 (pc := 0) G vr_r dX10_accrue_0 ?_
  refine z_g (pc := 1) (f := 259) (x := p1) (v := (.int (ci S 259 p1))) G kb_8 gb_X10_209 rfl hX.1 hp1 cr_259 dX10_accrue_1 ?_
  refine x_iconst (pc := 4) (v := 4) G dX10_accrue_4 ic_4 ?_
  refine x_icmp_eq (pc := 5) (tgt := 9) G dX10_accrue_5 rfl (fun c1 => ?_) (fun c1 => ?_)
  · refine z_aload0 (pc := 9) G vr_r dX10_accrue_9 ?_
    refine z_cV0 (pc := 10) G kb_8 hX.1 hp1 (ck_receivedUnbooked hl hX hp1 ) rfl q_ml_X10_511 h_X7_receivedUnbooked ⟨Nat.le_of_ble_eq_true rfl, Nat.le_of_ble_eq_true rfl⟩ (Nat.le_of_ble_eq_true rfl) (Nat.le_refl _) (Nat.le_refl _) dX10_accrue_10 ?_
    refine x_lstore2 (pc := 13) G dX10_accrue_13 (Nat.le_of_ble_eq_true rfl) rfl ?_
    refine z_aload0 (pc := 14) G vr_r dX10_accrue_14 ?_
    refine z_g (pc := 15) (f := 257) (x := p1) (v := (vr X 1 (xi X 257 p1))) G kb_8 gb_X10_231 rfl hX.1 hp1 cr_257 dX10_accrue_15 ?_
    refine x_iload1 (pc := 18) G dX10_accrue_18 ?_
    refine x_cS2 (pc := 19) G (ok_purseOf hl hX (hX.cent hp1) h2) q_ml_X10_487 h_X10_purseOf ⟨Nat.le_of_ble_eq_true rfl, Nat.le_of_ble_eq_true rfl⟩ (Nat.le_of_ble_eq_true rfl) (Nat.le_refl _) (Nat.le_refl _) dX10_accrue_19 ?_
    refine x_dup (pc := 22) G dX10_accrue_22 vr_cat ?_
    refine z_g (pc := 23) (f := 226) (x := (3 * (xi X 257 p1) + p2)) (v := (.long (cj S 226 (3 * (xi X 257 p1) + p2)))) G kb_7 gb_X10_443 rfl hX.1 (hX.el28 (hX.cent hp1) h2) cr_226 dX10_accrue_23 ?_
    refine x_lload2 (pc := 26) G dX10_accrue_26 ?_
    refine x_ladd (pc := 27) G dX10_accrue_27 ?_
    refine z_pJ (pc := 28) (f := 226) G kb_7 gb_X10_443 rfl hX.1 (hX.el28 (hX.cent hp1) h2) rfl (cr_226.trans (congrArg Value.long cj_ss)) rfl rfl dX10_accrue_28 ?_
    refine z_aload0 (pc := 31) G vr_r dX10_accrue_31 ?_
    refine z_g (pc := 32) (f := 257) (x := p1) (v := (vr X 1 (xi X 257 p1))) G kb_8 gb_X10_231 rfl hX.1 hp1 cr_257 dX10_accrue_32 ?_
    refine x_iload1 (pc := 35) G dX10_accrue_35 ?_
    refine x_iconst (pc := 36) (v := 1) G dX10_accrue_36 ic_1 ?_
    refine x_iadd (pc := 37) G dX10_accrue_37 ?_
    refine x_cS2 (pc := 38) G (ok_purseOf hl hX (hX.cent hp1) h3) q_ml_X10_487 h_X10_purseOf ⟨Nat.le_of_ble_eq_true rfl, Nat.le_of_ble_eq_true rfl⟩ (Nat.le_of_ble_eq_true rfl) (Nat.le_refl _) (Nat.le_refl _) dX10_accrue_38 ?_
    refine x_dup (pc := 41) G dX10_accrue_41 vr_cat ?_
    refine z_g (pc := 42) (f := 226) (x := (3 * (xi X 257 p1) + (p2 + 1))) (v := (.long (cj (sj S 226 (3 * (xi X 257 p1) + p2) ((cj S 226 (3 * (xi X 257 p1) + p2)) + (k_receivedUnbooked p1 X S))) 226 (3 * (xi X 257 p1) + (p2 + 1))))) G kb_7 gb_X10_443 rfl hX.1 (hX.el28 (hX.cent hp1) h3) cr_226 dX10_accrue_42 ?_
    refine x_lload2 (pc := 45) G dX10_accrue_45 ?_
    refine x_lsub (pc := 46) G dX10_accrue_46 ?_
    refine z_pJ (pc := 47) (f := 226) G kb_7 gb_X10_443 rfl hX.1 (hX.el28 (hX.cent hp1) h3) rfl (cr_226.trans (congrArg Value.long cj_ss)) rfl rfl dX10_accrue_47 ?_
    exact x_vret (pc := 50) G B rfl dX10_accrue_50 ⟨rfl, by rw [k_accrue, if_pos c1]⟩
  exact x_vret (pc := 8) G B rfl dX10_accrue_8 ⟨rfl, by rw [k_accrue, if_neg c1]⟩
set_option maxRecDepth 100000 in
set_option maxHeartbeats 4000000 in
theorem ci_accrue {p1 : Int32} {p2 : Int32} {X : CX} {S : CT} {g : Nat} {x : Int32}  : ci (k_accrue p1 p2 X S) g x = ci S g x := by
  unfold k_accrue
  repeat' split
  all_goals simp only [ci_j]
set_option maxRecDepth 100000 in
set_option maxHeartbeats 4000000 in
theorem cj_accrue {p1 : Int32} {p2 : Int32} {X : CX} {S : CT} {g : Nat} {x : Int32} (h0 : (g == 226) = false) : cj (k_accrue p1 p2 X S) g x = cj S g x := by
  unfold k_accrue
  repeat' split
  all_goals simp only [cj_i, cj_sn h0]
set_option maxRecDepth 100000 in
set_option maxHeartbeats 4000000 in
theorem ci_pay {p1 : Int32} {X : CX} {S : CT} {g : Nat} {x : Int32} (h0 : (g == 102) = false) : ci (k_pay p1 X S) g x = ci S g x := by
  unfold k_pay
  repeat' split
  all_goals simp only [ci_j, ci_sn h0, ci_post]
set_option maxRecDepth 100000 in
set_option maxHeartbeats 4000000 in
theorem cj_pay {p1 : Int32} {X : CX} {S : CT} {g : Nat} {x : Int32} (h0 : (g == 108) = false) (h1 : (g == 112) = false) (h2 : (g == 113) = false) (h3 : (g == 1312) = false) : cj (k_pay p1 X S) g x = cj S g x := by
  unfold k_pay
  repeat' split
  all_goals simp only [cj_i, cj_sn h0, cj_sn h1, cj_sn h2, cj_sn h3, cj_post h3]
set_option maxRecDepth 100000 in
set_option maxHeartbeats 4000000 in
theorem ci_book {p1 : Int32} {X : CX} {S : CT} {g : Nat} {x : Int32} (h0 : (g == 102) = false) (h1 : (g == 104) = false) (h2 : (g == 105) = false) (h3 : (g == 109) = false) (h4 : (g == 110) = false) (h5 : (g == 132) = false) (h6 : (g == 133) = false) : ci (k_book p1 X S) g x = ci S g x := by
  unfold k_book
  repeat' split
  all_goals simp only [ci_j, ci_sn h0, ci_sn h1, ci_sn h2, ci_sn h3, ci_sn h4, ci_sn h5, ci_sn h6, ci_spend, ci_release, ci_post]
set_option maxRecDepth 100000 in
set_option maxHeartbeats 4000000 in
theorem cj_book {p1 : Int32} {X : CX} {S : CT} {g : Nat} {x : Int32} (h0 : (g == 106) = false) (h1 : (g == 107) = false) (h2 : (g == 108) = false) (h3 : (g == 225) = false) (h4 : (g == 226) = false) (h5 : (g == 261) = false) (h6 : (g == 1312) = false) : cj (k_book p1 X S) g x = cj S g x := by
  unfold k_book
  repeat' split
  all_goals simp only [cj_i, cj_sn h0, cj_sn h1, cj_sn h2, cj_sn h3, cj_sn h4, cj_sn h5, cj_sn h6, cj_spend h4, cj_release h3 h5, cj_post h6]
set_option maxRecDepth 100000 in
set_option maxHeartbeats 4000000 in
theorem ci_carryOver {p1 : Int32} {p2 : Int32} {X : CX} {S : CT} {g : Nat} {x : Int32}  : ci (k_carryOver p1 p2 X S) g x = ci S g x := by
  unfold k_carryOver
  repeat' split
  all_goals simp only [ci_j]
set_option maxRecDepth 100000 in
set_option maxHeartbeats 4000000 in
theorem cj_carryOver {p1 : Int32} {p2 : Int32} {X : CX} {S : CT} {g : Nat} {x : Int32} (h0 : (g == 224) = false) (h1 : (g == 225) = false) : cj (k_carryOver p1 p2 X S) g x = cj S g x := by
  unfold k_carryOver
  repeat' split
  all_goals simp only [cj_i, cj_sn h0, cj_sn h1]
theorem cj_release_pos {X : CX} {S : CT} {p1 r : Int32} {p2 : Int64} (h : 0 < cj (k_release p1 p2 X S).2 261 r) : 0 < cj S 261 r := by
  by_cases e : r.toNatClampNeg = p1.toNatClampNeg
  · have er : ∀ S' : CT, cj S' 261 r = cj S' 261 p1 := fun S' => by unfold cj; rw [e]
    by_cases c1 : 0 < lg_cmp (if cj S 261 p1 < p2 then cj S 261 p1 else p2) 0
    · rw [er]
      exact rel_pos c1
    · rw [k_release, if_neg c1] at h
      exact h
  · by_cases c1 : 0 < lg_cmp (if cj S 261 p1 < p2 then cj S 261 p1 else p2) 0
    · rw [k_release, if_pos c1, k_commit, cj_sc (by simpa using e), cj_sn rfl] at h
      exact h
    · rw [k_release, if_neg c1] at h
      exact h
theorem cj_book_pos {X : CX} {S : CT} {p1 r : Int32} (h : 0 < cj (k_book p1 X S) 261 r) : 0 < cj S 261 r := by
  unfold k_book at h
  repeat' split at h
  all_goals
    simp only [cj_i, cj_post (g := 261) rfl] at h
    have h9 := cj_release_pos h
    simpa only [cj_i, cj_spend (g := 261) rfl, cj_sn (g := 261) (f := 106) rfl, cj_sn (g := 261) (f := 107) rfl, cj_sn (g := 261) (f := 108) rfl] using h9
/-- what booking needs, through a loop -/
def LC (X : CX) (S : CT) : Prop := (∀ x, lI X 1 x → P_num (k_thisYear X S) (nS X 28 x)) ∧ ∀ r, lI X 8 r → 0 < cj S 261 r → P_num (ci S 260 r) (nS X 28 (xi X 257 r))
theorem LC.book {X : CX} {S : CT} {v : Int32} (h : LC X S) : LC X (k_book v X S) := by
  refine ⟨fun x hx => ty_of (by rw [ci_book rfl rfl rfl rfl rfl rfl rfl]) (h.1 x hx), fun r hr q => ?_⟩
  rw [ci_book rfl rfl rfl rfl rfl rfl rfl]
  exact h.2 r hr (cj_book_pos q)
theorem TS.of {X : CX} {S S' : CT} (h : TS X S) (e : ∀ f x, f = 362 ∨ f = 196 ∨ f = 289 ∨ f = 262 ∨ f = 263 ∨ f = 264 → ci S' f x = ci S f x) : TS X S' :=
  ⟨by rw [e 362 _ (by simp)]; exact h.1, fun x hx => by rw [e 196 _ (by simp)]; exact h.2.1 x hx, fun x hx => by rw [e 289 _ (by simp)]; exact h.2.2.1 x hx, fun x hx => by rw [e 262 _ (by simp), e 263 _ (by simp), e 264 _ (by simp)]; exact h.2.2.2 x hx⟩
theorem TS.pay {X : CX} {S : CT} {v : Int32} (h : TS X S) : TS X (k_pay v X S) := h.of fun f x hf => by rcases hf with rfl | rfl | rfl | rfl | rfl | rfl <;> rw [ci_pay rfl]
theorem dX10_lookAgain_0 : decode cX10_lookAgain 0 = .ok (.iconst 0, 1) := by decide +kernel
theorem dX10_lookAgain_1 : decode cX10_lookAgain 1 = .ok (.istore_n 2, 1) := by decide +kernel
theorem dX10_lookAgain_2 : decode cX10_lookAgain 2 = .ok (.iconst 0, 1) := by decide +kernel
theorem dX10_lookAgain_3 : decode cX10_lookAgain 3 = .ok (.istore_n 3, 1) := by decide +kernel
theorem dX10_lookAgain_4 : decode cX10_lookAgain 4 = .ok (.iload_n 3, 1) := by decide +kernel
theorem dX10_lookAgain_5 : decode cX10_lookAgain 5 = .ok (.aload_n 0, 1) := by decide +kernel
theorem dX10_lookAgain_6 : decode cX10_lookAgain 6 = .ok (.getfield 28, 3) := by decide +kernel
theorem dX10_lookAgain_9 : decode cX10_lookAgain 9 = .ok (.invokevirtual 96, 3) := by decide +kernel
theorem dX10_lookAgain_12 : decode cX10_lookAgain 12 = .ok (.if_icmp .ge 56, 3) := by decide +kernel
theorem dX10_lookAgain_15 : decode cX10_lookAgain 15 = .ok (.aload_n 0, 1) := by decide +kernel
theorem dX10_lookAgain_16 : decode cX10_lookAgain 16 = .ok (.getfield 28, 3) := by decide +kernel
theorem dX10_lookAgain_19 : decode cX10_lookAgain 19 = .ok (.iload_n 3, 1) := by decide +kernel
theorem dX10_lookAgain_20 : decode cX10_lookAgain 20 = .ok (.invokevirtual 364, 3) := by decide +kernel
theorem dX10_lookAgain_23 : decode cX10_lookAgain 23 = .ok (.checkcast 340, 3) := by decide +kernel
theorem dX10_lookAgain_26 : decode cX10_lookAgain 26 = .ok (.astore 4, 2) := by decide +kernel
theorem dX10_lookAgain_28 : decode cX10_lookAgain 28 = .ok (.aload 4, 2) := by decide +kernel
theorem dX10_lookAgain_30 : decode cX10_lookAgain 30 = .ok (.getfield 529, 3) := by decide +kernel
theorem dX10_lookAgain_33 : decode cX10_lookAgain 33 = .ok (.aload_n 1, 1) := by decide +kernel
theorem dX10_lookAgain_34 : decode cX10_lookAgain 34 = .ok (.if_acmp .ne 28, 3) := by decide +kernel
theorem dX10_lookAgain_37 : decode cX10_lookAgain 37 = .ok (.aload 4, 2) := by decide +kernel
theorem dX10_lookAgain_39 : decode cX10_lookAgain 39 = .ok (.getfield 353, 3) := by decide +kernel
theorem dX10_lookAgain_42 : decode cX10_lookAgain 42 = .ok (.ifCond .ne 20, 3) := by decide +kernel
theorem dX10_lookAgain_45 : decode cX10_lookAgain 45 = .ok (.aload 4, 2) := by decide +kernel
theorem dX10_lookAgain_47 : decode cX10_lookAgain 47 = .ok (.invokevirtual 458, 3) := by decide +kernel
theorem dX10_lookAgain_50 : decode cX10_lookAgain 50 = .ok (.ifCond .ne 12, 3) := by decide +kernel
theorem dX10_lookAgain_53 : decode cX10_lookAgain 53 = .ok (.aload_n 0, 1) := by decide +kernel
theorem dX10_lookAgain_54 : decode cX10_lookAgain 54 = .ok (.aload 4, 2) := by decide +kernel
theorem dX10_lookAgain_56 : decode cX10_lookAgain 56 = .ok (.invokevirtual 533, 3) := by decide +kernel
theorem dX10_lookAgain_59 : decode cX10_lookAgain 59 = .ok (.iinc 2 1, 3) := by decide +kernel
theorem dX10_lookAgain_62 : decode cX10_lookAgain 62 = .ok (.iinc 3 1, 3) := by decide +kernel
theorem dX10_lookAgain_65 : decode cX10_lookAgain 65 = .ok (.goto (-61), 3) := by decide +kernel
theorem dX10_lookAgain_68 : decode cX10_lookAgain 68 = .ok (.iload_n 2, 1) := by decide +kernel
theorem dX10_lookAgain_69 : decode cX10_lookAgain 69 = .ok (.ireturn, 1) := by decide +kernel
def kst_lookAgain (p1 : Int32) (X : CX) (x : Int32) (a0 : Int32) (Si : CT) : Int32 × CT :=
    if (xi X 97 x) = p1 then
      if (ci Si 102 x) = 0 then
        if (k_reasons x X Si) = 0 then
          ((a0 + 1), (k_book x X Si))
        else
        (a0, Si)
      else
      (a0, Si)
    else
    (a0, Si)
def kit_lookAgain (p1 : Int32) (X : CX) (S : CT) : Nat → Int32 × CT
  | 0 => (0, S)
  | i + 1 => kst_lookAgain p1 X (nI i) (kit_lookAgain p1 X S i).1 (kit_lookAgain p1 X S i).2
def k_lookAgain (p1 : Int32) (X : CX) (S : CT) : Int32 × CT :=
    kit_lookAgain p1 X S (xSz X 25 (0 : Int32).toNatClampNeg)
abbrev rm_X10_lookAgain : Room := { frames := 11, cells := 0, slots := 0, locals := 205 }
set_option maxRecDepth 100000 in
set_option maxHeartbeats 40000000 in
theorem ck_lookAgain {l : Launch} {k : KC} (hl : l.stackTraces = false) {X : CX} {S : CT} (hX : XOK X) {p1 : Int32} (hp1 : lI X 4 p1) (hC : LC X S)  : MC l k yX10_lookAgain (.code yX10_lookAgain cX10_lookAgain 5 (some .int)) rm_X10_lookAgain [(vr X 11 0), (vr X 4 p1)] (cW k X S) (pR (some (.int (k_lookAgain p1 X S).1)) (cW k X (k_lookAgain p1 X S).2)) := by
  refine MC.of 3 hl (by decide) (by simp only [lg_sl_vr, lg_sl_i, lg_sl_l, lg_sl_0]; exact Nat.le_of_ble_eq_true rfl) ?_
  intro p e s m args below meth c A Q G B B2 hout
  simp only [lp_args_vr, lp_args_i, lp_args_l, lp_args_0]
  show Wx p l e rm_X10_lookAgain s m args below meth c k A 5 Q 0 0 0 [some ((vr X 11 0)), some ((vr X 4 p1)), none, none, none] [] (cW k X S)
  obtain ⟨n, en⟩ : ∃ n, n = (xSz X 25 (0 : Int32).toNatClampNeg) := ⟨_, rfl⟩
  have hn : n < 2 ^ 30 := by rw [en]; exact Nat.lt_of_le_of_lt (hX.lw25).2.2.1 (hX.lw25).2.2.2.1
  have eN : nS X 25 0 = nI n := by rw [en]; rfl
  refine x_iconst (pc := 0) (v := 0) G dX10_lookAgain_0 ic_0 ?_
  refine x_istore2 (pc := 1) G dX10_lookAgain_1 (Nat.le_of_ble_eq_true rfl) lp_c2_vr ?_
  refine x_iconst (pc := 2) (v := 0) G dX10_lookAgain_2 ic_0 ?_
  refine x_istore3 (pc := 3) G dX10_lookAgain_3 (Nat.le_of_ble_eq_true rfl) rfl ?_
  have hF : k_lookAgain p1 X S = kit_lookAgain p1 X S n := by rw [k_lookAgain, ← en]
  have loop : ∀ (f i : Nat) (a0 : Int32) (Si : CT), i ≤ n → n - i < f → kit_lookAgain p1 X S i = (a0, Si) → LC X Si → Wx p l e rm_X10_lookAgain s m args below meth c k A 5 Q 0 0 4 [some ((vr X 11 0)), some ((vr X 4 p1)), some (.int a0), some (.int (nI i)), none] [] (cW k X Si) := by
    intro f
    induction f with
    | zero => intro i a0 Si _ h9 _ _; omega
    | succ f ih =>
      intro i a0 Si hi hf hit hI
      refine x_iload3 (pc := 4) G dX10_lookAgain_4 ?_
      refine z_aload0 (pc := 5) G vr_r dX10_lookAgain_5 ?_
      refine z_g (pc := 6) (f := 357) (x := 0) (v := (aR X 25 0)) G kb_11 gb_X10_28 rfl hX.1 hX.l11 cr_357 dX10_lookAgain_6 ?_
      refine z_size (pc := 9) (Li := 25) (x := 0) G hX.1 hX.lw25 q_ml_X10_96 ⟨Nat.le_of_ble_eq_true rfl, Nat.le_of_ble_eq_true rfl⟩ (Nat.le_of_ble_eq_true rfl) dX10_lookAgain_9 ?_
      refine x_icmp_ge (pc := 12) (tgt := 68) G dX10_lookAgain_12 rfl (fun c1 => ?_) (fun c1 => ?_)
      · have ei : i = n := lp_end eN c1 hi (by omega)
        refine x_iload2 (pc := 68) G dX10_lookAgain_68 ?_
        exact x_iret (pc := 69) G B rfl dX10_lookAgain_69 ⟨by rw [hF, ← ei, hit], by rw [hF, ← ei, hit]⟩
      have hlt := lp_lt eN c1 hi (by omega)
      refine z_aload0 (pc := 15) G vr_r dX10_lookAgain_15 ?_
      refine z_g (pc := 16) (f := 357) (x := 0) (v := (aR X 25 0)) G kb_11 gb_X10_28 rfl hX.1 hX.l11 cr_357 dX10_lookAgain_16 ?_
      refine x_iload3 (pc := 19) G dX10_lookAgain_19 ?_
      refine z_get (pc := 20) (Li := 25) (kd := 3) (x := 0) (y := (nI i)) (z := (nI i)) G hX.1 hX.lw25 (by rw [eN]; exact pn_lt hlt hn) (hX.el25 (by rw [eN]; exact pn_lt hlt hn)) rfl (hX.ei (by decide)) q_ml_X10_364 ⟨Nat.le_of_ble_eq_true rfl, Nat.le_of_ble_eq_true rfl⟩ (Nat.le_of_ble_eq_true rfl) dX10_lookAgain_20 ?_
      refine z_cast (pc := 23) G kb_3 hX.1 (hX.el25 (by rw [eN]; exact pn_lt hlt hn)) q_cl_X10_340 dX10_lookAgain_23 ?_
      refine z_astore4 (pc := 26) G vr_r dX10_lookAgain_26 (Nat.le_of_ble_eq_true rfl) rfl ?_
      refine z_aload4 (pc := 28) G vr_r dX10_lookAgain_28 ?_
      refine z_g (pc := 30) (f := 97) (x := (nI i)) (v := (vr X 4 (xi X 97 (nI i)))) G kb_3 gb_X10_529 rfl hX.1 (hX.el25 (by rw [eN]; exact pn_lt hlt hn)) cr_97 dX10_lookAgain_30 ?_
      refine z_aload1 (pc := 33) G vr_r dX10_lookAgain_33 ?_
      refine z_acmp_ne (pc := 34) (tgt := 62) (kd := 4) (x := (xi X 97 (nI i))) (y := p1) G (Or.inr (hX.ivL (hX.el25 (by rw [eN]; exact pn_lt hlt hn)))) (Or.inr hp1) dX10_lookAgain_34 rfl (fun c2 => ?_) (fun c2 => ?_)
      · refine x_iinc3 (pc := 62) (v := ((nI i) + 1)) G dX10_lookAgain_62 (by rfl) (Nat.le_of_ble_eq_true rfl) rfl ?_
        refine x_goto (pc := 65) (tgt := 4) G dX10_lookAgain_65 rfl ?_
        refine xdrop4 ?_
        have h9 := ih (i + 1) a0 Si (by omega) (by omega) (by show kst_lookAgain p1 X (nI i) (kit_lookAgain p1 X S i).1 (kit_lookAgain p1 X S i).2 = _; rw [hit]; show kst_lookAgain p1 X (nI i) a0 Si = _; rw [kst_lookAgain, if_neg c2]) (hI)
        rw [← nI_1 i] at h9
        exact h9
      refine z_aload4 (pc := 37) G vr_r dX10_lookAgain_37 ?_
      refine z_g (pc := 39) (f := 102) (x := (nI i)) (v := (.int (ci Si 102 (nI i)))) G kb_3 gb_X10_353 rfl hX.1 (hX.el25 (by rw [eN]; exact pn_lt hlt hn)) cr_102 dX10_lookAgain_39 ?_
      refine x_if_ne (pc := 42) (y := 0) (tgt := 62) G dX10_lookAgain_42 rfl (fun c3 => ?_) (fun c3 => ?_)
      · refine x_iinc3 (pc := 62) (v := ((nI i) + 1)) G dX10_lookAgain_62 (by rfl) (Nat.le_of_ble_eq_true rfl) rfl ?_
        refine x_goto (pc := 65) (tgt := 4) G dX10_lookAgain_65 rfl ?_
        refine xdrop4 ?_
        have h9 := ih (i + 1) a0 Si (by omega) (by omega) (by show kst_lookAgain p1 X (nI i) (kit_lookAgain p1 X S i).1 (kit_lookAgain p1 X S i).2 = _; rw [hit]; show kst_lookAgain p1 X (nI i) a0 Si = _; rw [kst_lookAgain, if_pos c2, if_neg c3]) (hI)
        rw [← nI_1 i] at h9
        exact h9
      refine z_aload4 (pc := 45) G vr_r dX10_lookAgain_45 ?_
      refine z_cV0 (pc := 47) G kb_3 hX.1 (hX.el25 (by rw [eN]; exact pn_lt hlt hn)) (ck_reasons hl hX (hX.el25 (by rw [eN]; exact pn_lt hlt hn)) ) rfl q_ml_X10_458 h_X2_reasons ⟨Nat.le_of_ble_eq_true rfl, Nat.le_of_ble_eq_true rfl⟩ (Nat.le_of_ble_eq_true rfl) (Nat.le_refl _) (Nat.le_refl _) dX10_lookAgain_47 ?_
      refine x_if_ne (pc := 50) (y := 0) (tgt := 62) G dX10_lookAgain_50 rfl (fun c4 => ?_) (fun c4 => ?_)
      · refine x_iinc3 (pc := 62) (v := ((nI i) + 1)) G dX10_lookAgain_62 (by rfl) (Nat.le_of_ble_eq_true rfl) rfl ?_
        refine x_goto (pc := 65) (tgt := 4) G dX10_lookAgain_65 rfl ?_
        refine xdrop4 ?_
        have h9 := ih (i + 1) a0 Si (by omega) (by omega) (by show kst_lookAgain p1 X (nI i) (kit_lookAgain p1 X S i).1 (kit_lookAgain p1 X S i).2 = _; rw [hit]; show kst_lookAgain p1 X (nI i) a0 Si = _; rw [kst_lookAgain, if_pos c2, if_pos c3, if_neg c4]) (hI)
        rw [← nI_1 i] at h9
        exact h9
      refine z_aload0 (pc := 53) G vr_r dX10_lookAgain_53 ?_
      refine z_aload4 (pc := 54) G vr_r dX10_lookAgain_54 ?_
      refine z_cVv1 (pc := 56) G kb_11 hX.1 hX.l11 (ck_book hl hX (hX.el25 (by rw [eN]; exact pn_lt hlt hn)) hI.1 hI.2) rfl q_ml_X10_533 h_X10_book ⟨Nat.le_of_ble_eq_true rfl, Nat.le_of_ble_eq_true rfl⟩ (Nat.le_of_ble_eq_true rfl) (Nat.le_refl _) (Nat.le_refl _) dX10_lookAgain_56 ?_
      refine x_iinc2 (pc := 59) (v := (a0 + 1)) G dX10_lookAgain_59 (by rfl) (Nat.le_of_ble_eq_true rfl) lp_c2_vr ?_
      refine x_iinc3 (pc := 62) (v := ((nI i) + 1)) G dX10_lookAgain_62 (by rfl) (Nat.le_of_ble_eq_true rfl) rfl ?_
      refine x_goto (pc := 65) (tgt := 4) G dX10_lookAgain_65 rfl ?_
      refine xdrop4 ?_
      have h9 := ih (i + 1) (a0 + 1) (k_book (nI i) X Si) (by omega) (by omega) (by show kst_lookAgain p1 X (nI i) (kit_lookAgain p1 X S i).1 (kit_lookAgain p1 X S i).2 = _; rw [hit]; show kst_lookAgain p1 X (nI i) a0 Si = _; rw [kst_lookAgain, if_pos c2, if_pos c3, if_pos c4]) (hI.book)
      rw [← nI_1 i] at h9
      exact h9
  exact loop (n + 1) 0 0 S (by omega) (by omega) rfl hC
theorem dX10_run_0 : decode cX10_run 0 = .ok (.iload_n 1, 1) := by decide +kernel
theorem dX10_run_1 : decode cX10_run 1 = .ok (.iconst 0, 1) := by decide +kernel
theorem dX10_run_2 : decode cX10_run 2 = .ok (.sipush 2000, 3) := by decide +kernel
theorem dX10_run_5 : decode cX10_run 5 = .ok (.invokestatic 92, 3) := by decide +kernel
theorem dX10_run_8 : decode cX10_run 8 = .ok (.iconst 0, 1) := by decide +kernel
theorem dX10_run_9 : decode cX10_run 9 = .ok (.istore_n 3, 1) := by decide +kernel
theorem dX10_run_10 : decode cX10_run 10 = .ok (.iconst 0, 1) := by decide +kernel
theorem dX10_run_11 : decode cX10_run 11 = .ok (.istore 4, 2) := by decide +kernel
theorem dX10_run_13 : decode cX10_run 13 = .ok (.iload 4, 2) := by decide +kernel
theorem dX10_run_15 : decode cX10_run 15 = .ok (.aload_n 0, 1) := by decide +kernel
theorem dX10_run_16 : decode cX10_run 16 = .ok (.getfield 28, 3) := by decide +kernel
theorem dX10_run_19 : decode cX10_run 19 = .ok (.invokevirtual 96, 3) := by decide +kernel
theorem dX10_run_22 : decode cX10_run 22 = .ok (.if_icmp .ge 43, 3) := by decide +kernel
theorem dX10_run_25 : decode cX10_run 25 = .ok (.aload_n 0, 1) := by decide +kernel
theorem dX10_run_26 : decode cX10_run 26 = .ok (.getfield 28, 3) := by decide +kernel
theorem dX10_run_29 : decode cX10_run 29 = .ok (.iload 4, 2) := by decide +kernel
theorem dX10_run_31 : decode cX10_run 31 = .ok (.invokevirtual 364, 3) := by decide +kernel
theorem dX10_run_34 : decode cX10_run 34 = .ok (.checkcast 340, 3) := by decide +kernel
theorem dX10_run_37 : decode cX10_run 37 = .ok (.astore 5, 2) := by decide +kernel
theorem dX10_run_39 : decode cX10_run 39 = .ok (.aload_n 0, 1) := by decide +kernel
theorem dX10_run_40 : decode cX10_run 40 = .ok (.aload 5, 2) := by decide +kernel
theorem dX10_run_42 : decode cX10_run 42 = .ok (.iload_n 1, 1) := by decide +kernel
theorem dX10_run_43 : decode cX10_run 43 = .ok (.iload_n 2, 1) := by decide +kernel
theorem dX10_run_44 : decode cX10_run 44 = .ok (.invokevirtual 368, 3) := by decide +kernel
theorem dX10_run_47 : decode cX10_run 47 = .ok (.ifCond .eq 12, 3) := by decide +kernel
theorem dX10_run_50 : decode cX10_run 50 = .ok (.aload_n 0, 1) := by decide +kernel
theorem dX10_run_51 : decode cX10_run 51 = .ok (.aload 5, 2) := by decide +kernel
theorem dX10_run_53 : decode cX10_run 53 = .ok (.invokevirtual 372, 3) := by decide +kernel
theorem dX10_run_56 : decode cX10_run 56 = .ok (.iinc 3 1, 3) := by decide +kernel
theorem dX10_run_59 : decode cX10_run 59 = .ok (.iinc 4 1, 3) := by decide +kernel
theorem dX10_run_62 : decode cX10_run 62 = .ok (.goto (-49), 3) := by decide +kernel
theorem dX10_run_65 : decode cX10_run 65 = .ok (.iload_n 3, 1) := by decide +kernel
theorem dX10_run_66 : decode cX10_run 66 = .ok (.ireturn, 1) := by decide +kernel
def kst_run (p1 : Int32) (p2 : Int32) (X : CX) (x : Int32) (a0 : Int32) (Si : CT) : Int32 × CT :=
    if K_isToPay x p1 p2 X Si then
      ((a0 + 1), (k_pay x X Si))
    else
    (a0, Si)
def kit_run (p1 : Int32) (p2 : Int32) (X : CX) (S : CT) : Nat → Int32 × CT
  | 0 => (0, S)
  | i + 1 => kst_run p1 p2 X (nI i) (kit_run p1 p2 X S i).1 (kit_run p1 p2 X S i).2
def k_run (p1 : Int32) (p2 : Int32) (X : CX) (S : CT) : (Int32 × CT) ⊕ String :=
    if P_in p1 0 2000 then
      .inl (kit_run p1 p2 X S (xSz X 25 (0 : Int32).toNatClampNeg))
    else
    .inr "java/lang/IllegalArgumentException"
abbrev rm_X10_run : Room := { frames := 9, cells := 0, slots := 0, locals := 158 }
abbrev rmt_X10_run : Room := { frames := 9, cells := 1, slots := 6, locals := 158 }
set_option maxRecDepth 100000 in
set_option maxHeartbeats 40000000 in
theorem ck_run {l : Launch} {k : KC} (hl : l.stackTraces = false) {X : CX} {S : CT} (hX : XOK X) {p1 : Int32} {p2 : Int32} (hT : TS X S)  : MC l k yX10_run (.code yX10_run cX10_run 6 (some .int)) rmt_X10_run [(vr X 11 0), .int p1, .int p2] (cW k X S) (pOi k X S (k_run p1 p2 X S)) := by
  refine MC.of 3 hl (by decide) (by simp only [lg_sl_vr, lg_sl_i, lg_sl_l, lg_sl_0]; exact Nat.le_of_ble_eq_true rfl) ?_
  intro p e s m args below meth c A Q G B B2 hout
  simp only [lp_args_vr, lp_args_i, lp_args_l, lp_args_0]
  show Wx p l e rmt_X10_run s m args below meth c k A 6 Q 1 6 0 [some ((vr X 11 0)), some (.int p1), some (.int p2), none, none, none] [] (cW k X S)
  obtain ⟨n, en⟩ : ∃ n, n = (xSz X 25 (0 : Int32).toNatClampNeg) := ⟨_, rfl⟩
  have hn : n < 2 ^ 30 := by rw [en]; exact Nat.lt_of_le_of_lt (hX.lw25).2.2.1 (hX.lw25).2.2.2.1
  have eN : nS X 25 0 = nI n := by rw [en]; rfl
  refine x_iload1 (pc := 0) G dX10_run_0 ?_
  refine x_iconst (pc := 1) (v := 0) G dX10_run_1 ic_0 ?_
  refine x_sipush (pc := 2) (v := 2000) G dX10_run_2 sp_2000 ?_
  rcases Decidable.em (¬ (P_in p1 0 2000)) with c1 | c1
  · exact x_cSt3 (pc := 5) G B B2 hout (no_requireRange hl c1) q_ml_X10_92 h_X10_requireRange ⟨Nat.le_of_ble_eq_true rfl, Nat.le_of_ble_eq_true rfl⟩ (Nat.le_of_ble_eq_true rfl) (Nat.le_refl _) (Nat.le_refl _) dX10_run_5 (by rw [k_run, if_neg c1]; exact ⟨rfl, rfl⟩)
  have c1 := Decidable.not_not.mp c1
  refine x_cSv3 (pc := 5) G (ok_requireRange hl c1) q_ml_X10_92 h_X10_requireRange ⟨Nat.le_of_ble_eq_true rfl, Nat.le_of_ble_eq_true rfl⟩ (Nat.le_of_ble_eq_true rfl) (Nat.le_refl _) (Nat.le_refl _) dX10_run_5 ?_
  refine x_iconst (pc := 8) (v := 0) G dX10_run_8 ic_0 ?_
  refine x_istore3 (pc := 9) G dX10_run_9 (Nat.le_of_ble_eq_true rfl) rfl ?_
  refine x_iconst (pc := 10) (v := 0) G dX10_run_10 ic_0 ?_
  refine x_istore4 (pc := 11) G dX10_run_11 (Nat.le_of_ble_eq_true rfl) rfl ?_
  have hF : k_run p1 p2 X S = .inl (kit_run p1 p2 X S n) := by rw [k_run, if_pos c1, ← en]
  have loop : ∀ (f i : Nat) (a0 : Int32) (Si : CT), i ≤ n → n - i < f → kit_run p1 p2 X S i = (a0, Si) → TS X Si → Wx p l e rmt_X10_run s m args below meth c k A 6 Q 1 6 13 [some ((vr X 11 0)), some (.int p1), some (.int p2), some (.int a0), some (.int (nI i)), none] [] (cW k X Si) := by
    intro f
    induction f with
    | zero => intro i a0 Si _ h9 _ _; omega
    | succ f ih =>
      intro i a0 Si hi hf hit hI
      refine x_iload4 (pc := 13) G dX10_run_13 ?_
      refine z_aload0 (pc := 15) G vr_r dX10_run_15 ?_
      refine z_g (pc := 16) (f := 357) (x := 0) (v := (aR X 25 0)) G kb_11 gb_X10_28 rfl hX.1 hX.l11 cr_357 dX10_run_16 ?_
      refine z_size (pc := 19) (Li := 25) (x := 0) G hX.1 hX.lw25 q_ml_X10_96 ⟨Nat.le_of_ble_eq_true rfl, Nat.le_of_ble_eq_true rfl⟩ (Nat.le_of_ble_eq_true rfl) dX10_run_19 ?_
      refine x_icmp_ge (pc := 22) (tgt := 65) G dX10_run_22 rfl (fun c1 => ?_) (fun c1 => ?_)
      · have ei : i = n := lp_end eN c1 hi (by omega)
        refine x_iload3 (pc := 65) G dX10_run_65 ?_
        exact x_iret (pc := 66) G B rfl dX10_run_66 (by rw [hF, ← ei, hit]; exact ⟨rfl, rfl⟩)
      have hlt := lp_lt eN c1 hi (by omega)
      refine z_aload0 (pc := 25) G vr_r dX10_run_25 ?_
      refine z_g (pc := 26) (f := 357) (x := 0) (v := (aR X 25 0)) G kb_11 gb_X10_28 rfl hX.1 hX.l11 cr_357 dX10_run_26 ?_
      refine x_iload4 (pc := 29) G dX10_run_29 ?_
      refine z_get (pc := 31) (Li := 25) (kd := 3) (x := 0) (y := (nI i)) (z := (nI i)) G hX.1 hX.lw25 (by rw [eN]; exact pn_lt hlt hn) (hX.el25 (by rw [eN]; exact pn_lt hlt hn)) rfl (hX.ei (by decide)) q_ml_X10_364 ⟨Nat.le_of_ble_eq_true rfl, Nat.le_of_ble_eq_true rfl⟩ (Nat.le_of_ble_eq_true rfl) dX10_run_31 ?_
      refine z_cast (pc := 34) G kb_3 hX.1 (hX.el25 (by rw [eN]; exact pn_lt hlt hn)) q_cl_X10_340 dX10_run_34 ?_
      refine z_astore5 (pc := 37) G vr_r dX10_run_37 (Nat.le_of_ble_eq_true rfl) rfl ?_
      refine z_aload0 (pc := 39) G vr_r dX10_run_39 ?_
      refine z_aload5 (pc := 40) G vr_r dX10_run_40 ?_
      refine x_iload1 (pc := 42) G dX10_run_42 ?_
      refine x_iload2 (pc := 43) G dX10_run_43 ?_
      refine z_cVb3 (pc := 44) G kb_11 hX.1 hX.l11 (bk_isToPay hl hX (hX.el25 (by rw [eN]; exact pn_lt hlt hn)) ) rfl q_ml_X10_368 h_X10_isToPay ⟨Nat.le_of_ble_eq_true rfl, Nat.le_of_ble_eq_true rfl⟩ (Nat.le_of_ble_eq_true rfl) (Nat.le_refl _) (Nat.le_refl _) dX10_run_44 (fun c2 => ?_) (fun c2 => ?_)
      · refine x_if_eq (pc := 47) (y := 0) (tgt := 59) G dX10_run_47 rfl (fun q => absurd q (by decide)) (fun _ => ?_)
        refine z_aload0 (pc := 50) G vr_r dX10_run_50 ?_
        refine z_aload5 (pc := 51) G vr_r dX10_run_51 ?_
        refine z_cVv1 (pc := 53) G kb_11 hX.1 hX.l11 (ck_pay hl hX (hX.el25 (by rw [eN]; exact pn_lt hlt hn)) hI) rfl q_ml_X10_372 h_X10_pay ⟨Nat.le_of_ble_eq_true rfl, Nat.le_of_ble_eq_true rfl⟩ (Nat.le_of_ble_eq_true rfl) (Nat.le_refl _) (Nat.le_refl _) dX10_run_53 ?_
        refine x_iinc3 (pc := 56) (v := (a0 + 1)) G dX10_run_56 (by rfl) (Nat.le_of_ble_eq_true rfl) rfl ?_
        refine x_iinc4 (pc := 59) (v := ((nI i) + 1)) G dX10_run_59 (by rfl) (Nat.le_of_ble_eq_true rfl) rfl ?_
        refine x_goto (pc := 62) (tgt := 13) G dX10_run_62 rfl ?_
        refine xdrop5 ?_
        have h9 := ih (i + 1) (a0 + 1) (k_pay (nI i) X Si) (by omega) (by omega) (by show kst_run p1 p2 X (nI i) (kit_run p1 p2 X S i).1 (kit_run p1 p2 X S i).2 = _; rw [hit]; show kst_run p1 p2 X (nI i) a0 Si = _; rw [kst_run, if_pos c2]) (hI.pay)
        rw [← nI_1 i] at h9
        exact h9
      refine x_if_eq (pc := 47) (y := 0) (tgt := 59) G dX10_run_47 rfl (fun _ => ?_) (fun q => absurd q (by decide))
      refine x_iinc4 (pc := 59) (v := ((nI i) + 1)) G dX10_run_59 (by rfl) (Nat.le_of_ble_eq_true rfl) rfl ?_
      refine x_goto (pc := 62) (tgt := 13) G dX10_run_62 rfl ?_
      refine xdrop5 ?_
      have h9 := ih (i + 1) a0 Si (by omega) (by omega) (by show kst_run p1 p2 X (nI i) (kit_run p1 p2 X S i).1 (kit_run p1 p2 X S i).2 = _; rw [hit]; show kst_run p1 p2 X (nI i) a0 Si = _; rw [kst_run, if_neg c2]) (hI)
      rw [← nI_1 i] at h9
      exact h9
  exact loop (n + 1) 0 0 S (by omega) (by omega) rfl hT
theorem dX10_closeYear_0 : decode cX10_closeYear 0 = .ok (.iconst 0, 1) := by decide +kernel
theorem dX10_closeYear_1 : decode cX10_closeYear 1 = .ok (.istore_n 2, 1) := by decide +kernel
theorem dX10_closeYear_2 : decode cX10_closeYear 2 = .ok (.iload_n 2, 1) := by decide +kernel
theorem dX10_closeYear_3 : decode cX10_closeYear 3 = .ok (.aload_n 0, 1) := by decide +kernel
theorem dX10_closeYear_4 : decode cX10_closeYear 4 = .ok (.getfield 25, 3) := by decide +kernel
theorem dX10_closeYear_7 : decode cX10_closeYear 7 = .ok (.invokevirtual 96, 3) := by decide +kernel
theorem dX10_closeYear_10 : decode cX10_closeYear 10 = .ok (.if_icmp .ge 24, 3) := by decide +kernel
theorem dX10_closeYear_13 : decode cX10_closeYear 13 = .ok (.aload_n 0, 1) := by decide +kernel
theorem dX10_closeYear_14 : decode cX10_closeYear 14 = .ok (.getfield 25, 3) := by decide +kernel
theorem dX10_closeYear_17 : decode cX10_closeYear 17 = .ok (.iload_n 2, 1) := by decide +kernel
theorem dX10_closeYear_18 : decode cX10_closeYear 18 = .ok (.invokevirtual 364, 3) := by decide +kernel
theorem dX10_closeYear_21 : decode cX10_closeYear 21 = .ok (.checkcast 199, 3) := by decide +kernel
theorem dX10_closeYear_24 : decode cX10_closeYear 24 = .ok (.iload_n 1, 1) := by decide +kernel
theorem dX10_closeYear_25 : decode cX10_closeYear 25 = .ok (.invokestatic 500, 3) := by decide +kernel
theorem dX10_closeYear_28 : decode cX10_closeYear 28 = .ok (.iinc 2 1, 3) := by decide +kernel
theorem dX10_closeYear_31 : decode cX10_closeYear 31 = .ok (.goto (-29), 3) := by decide +kernel
theorem dX10_closeYear_34 : decode cX10_closeYear 34 = .ok (.iconst 0, 1) := by decide +kernel
theorem dX10_closeYear_35 : decode cX10_closeYear 35 = .ok (.istore_n 2, 1) := by decide +kernel
theorem dX10_closeYear_36 : decode cX10_closeYear 36 = .ok (.iload_n 2, 1) := by decide +kernel
theorem dX10_closeYear_37 : decode cX10_closeYear 37 = .ok (.aload_n 0, 1) := by decide +kernel
theorem dX10_closeYear_38 : decode cX10_closeYear 38 = .ok (.getfield 16, 3) := by decide +kernel
theorem dX10_closeYear_41 : decode cX10_closeYear 41 = .ok (.invokevirtual 96, 3) := by decide +kernel
theorem dX10_closeYear_44 : decode cX10_closeYear 44 = .ok (.if_icmp .ge 37, 3) := by decide +kernel
theorem dX10_closeYear_47 : decode cX10_closeYear 47 = .ok (.aload_n 0, 1) := by decide +kernel
theorem dX10_closeYear_48 : decode cX10_closeYear 48 = .ok (.getfield 16, 3) := by decide +kernel
theorem dX10_closeYear_51 : decode cX10_closeYear 51 = .ok (.iload_n 2, 1) := by decide +kernel
theorem dX10_closeYear_52 : decode cX10_closeYear 52 = .ok (.invokevirtual 364, 3) := by decide +kernel
theorem dX10_closeYear_55 : decode cX10_closeYear 55 = .ok (.checkcast 72, 3) := by decide +kernel
theorem dX10_closeYear_58 : decode cX10_closeYear 58 = .ok (.astore_n 3, 1) := by decide +kernel
theorem dX10_closeYear_59 : decode cX10_closeYear 59 = .ok (.aload_n 0, 1) := by decide +kernel
theorem dX10_closeYear_60 : decode cX10_closeYear 60 = .ok (.aload_n 3, 1) := by decide +kernel
theorem dX10_closeYear_61 : decode cX10_closeYear 61 = .ok (.iload_n 1, 1) := by decide +kernel
theorem dX10_closeYear_62 : decode cX10_closeYear 62 = .ok (.invokestatic 487, 3) := by decide +kernel
theorem dX10_closeYear_65 : decode cX10_closeYear 65 = .ok (.aload_n 3, 1) := by decide +kernel
theorem dX10_closeYear_66 : decode cX10_closeYear 66 = .ok (.iload_n 1, 1) := by decide +kernel
theorem dX10_closeYear_67 : decode cX10_closeYear 67 = .ok (.iconst 1, 1) := by decide +kernel
theorem dX10_closeYear_68 : decode cX10_closeYear 68 = .ok (.iadd, 1) := by decide +kernel
theorem dX10_closeYear_69 : decode cX10_closeYear 69 = .ok (.invokestatic 487, 3) := by decide +kernel
theorem dX10_closeYear_72 : decode cX10_closeYear 72 = .ok (.invokevirtual 504, 3) := by decide +kernel
theorem dX10_closeYear_75 : decode cX10_closeYear 75 = .ok (.iinc 2 1, 3) := by decide +kernel
theorem dX10_closeYear_78 : decode cX10_closeYear 78 = .ok (.goto (-42), 3) := by decide +kernel
theorem dX10_closeYear_81 : decode cX10_closeYear 81 = .ok (.iconst 0, 1) := by decide +kernel
theorem dX10_closeYear_82 : decode cX10_closeYear 82 = .ok (.istore_n 2, 1) := by decide +kernel
theorem dX10_closeYear_83 : decode cX10_closeYear 83 = .ok (.iload_n 2, 1) := by decide +kernel
theorem dX10_closeYear_84 : decode cX10_closeYear 84 = .ok (.aload_n 0, 1) := by decide +kernel
theorem dX10_closeYear_85 : decode cX10_closeYear 85 = .ok (.getfield 25, 3) := by decide +kernel
theorem dX10_closeYear_88 : decode cX10_closeYear 88 = .ok (.invokevirtual 96, 3) := by decide +kernel
theorem dX10_closeYear_91 : decode cX10_closeYear 91 = .ok (.if_icmp .ge 43, 3) := by decide +kernel
theorem dX10_closeYear_94 : decode cX10_closeYear 94 = .ok (.aload_n 0, 1) := by decide +kernel
theorem dX10_closeYear_95 : decode cX10_closeYear 95 = .ok (.getfield 25, 3) := by decide +kernel
theorem dX10_closeYear_98 : decode cX10_closeYear 98 = .ok (.iload_n 2, 1) := by decide +kernel
theorem dX10_closeYear_99 : decode cX10_closeYear 99 = .ok (.invokevirtual 364, 3) := by decide +kernel
theorem dX10_closeYear_102 : decode cX10_closeYear 102 = .ok (.checkcast 199, 3) := by decide +kernel
theorem dX10_closeYear_105 : decode cX10_closeYear 105 = .ok (.astore_n 3, 1) := by decide +kernel
theorem dX10_closeYear_106 : decode cX10_closeYear 106 = .ok (.aload_n 3, 1) := by decide +kernel
theorem dX10_closeYear_107 : decode cX10_closeYear 107 = .ok (.getfield 239, 3) := by decide +kernel
theorem dX10_closeYear_110 : decode cX10_closeYear 110 = .ok (.iload_n 1, 1) := by decide +kernel
theorem dX10_closeYear_111 : decode cX10_closeYear 111 = .ok (.if_icmp .ne 17, 3) := by decide +kernel
theorem dX10_closeYear_114 : decode cX10_closeYear 114 = .ok (.aload_n 3, 1) := by decide +kernel
theorem dX10_closeYear_115 : decode cX10_closeYear 115 = .ok (.invokevirtual 508, 3) := by decide +kernel
theorem dX10_closeYear_118 : decode cX10_closeYear 118 = .ok (.ifCond .eq 10, 3) := by decide +kernel
theorem dX10_closeYear_121 : decode cX10_closeYear 121 = .ok (.aload_n 3, 1) := by decide +kernel
theorem dX10_closeYear_122 : decode cX10_closeYear 122 = .ok (.iload_n 1, 1) := by decide +kernel
theorem dX10_closeYear_123 : decode cX10_closeYear 123 = .ok (.iconst 1, 1) := by decide +kernel
theorem dX10_closeYear_124 : decode cX10_closeYear 124 = .ok (.iadd, 1) := by decide +kernel
theorem dX10_closeYear_125 : decode cX10_closeYear 125 = .ok (.putfield 239, 3) := by decide +kernel
theorem dX10_closeYear_128 : decode cX10_closeYear 128 = .ok (.iinc 2 1, 3) := by decide +kernel
theorem dX10_closeYear_131 : decode cX10_closeYear 131 = .ok (.goto (-48), 3) := by decide +kernel
theorem dX10_closeYear_134 : decode cX10_closeYear 134 = .ok (.return_, 1) := by decide +kernel
def kcl1 (p1 : Int32) (X : CX) (x : Int32) (Si : CT) : CT :=
    (k_accrue x p1 X Si)
def kit_cl1 (p1 : Int32) (X : CX) (S : CT) : Nat → CT
  | 0 => S
  | i + 1 => kcl1 p1 X (nI i) (kit_cl1 p1 X S i)
def kcl2 (p1 : Int32) (X : CX) (x : Int32) (Si : CT) : CT :=
    (k_carryOver (3 * x + p1) (3 * x + (p1 + 1)) X Si)
def kit_cl2 (p1 : Int32) (X : CX) (S : CT) : Nat → CT
  | 0 => S
  | i + 1 => kcl2 p1 X (nI i) (kit_cl2 p1 X S i)
def kcl3 (p1 : Int32) (X : CX) (x : Int32) (Si : CT) : CT :=
    if (ci Si 260 x) = p1 then
      if K_isCommitting x X Si then
        (si Si 260 x (p1 + 1))
      else
      Si
    else
    Si
def kit_cl3 (p1 : Int32) (X : CX) (S : CT) : Nat → CT
  | 0 => S
  | i + 1 => kcl3 p1 X (nI i) (kit_cl3 p1 X S i)
def k_closeYear (p1 : Int32) (X : CX) (S : CT) : CT := kit_cl3 p1 X (kit_cl2 p1 X (kit_cl1 p1 X S (xSz X 24 (0 : Int32).toNatClampNeg)) (xSz X 21 (0 : Int32).toNatClampNeg)) (xSz X 24 (0 : Int32).toNatClampNeg)
abbrev rm_X10_closeYear : Room := { frames := 9, cells := 0, slots := 0, locals := 155 }
set_option maxRecDepth 100000 in
set_option maxHeartbeats 4000000 in
theorem ck_closeYear {l : Launch} {k : KC} (hl : l.stackTraces = false) {X : CX} {S : CT} (hX : XOK X) {p1 : Int32} (h2 : ∀ x, lI X 1 x → P_num p1 (nS X 28 x) ∧ P_num (p1 + 1) (nS X 28 x)) : MC l k yX10_closeYear (.code yX10_closeYear cX10_closeYear 4 none) rm_X10_closeYear [(vr X 11 0), .int p1] (cW k X S) (pR none (cW k X (k_closeYear p1 X S))) := by
  refine MC.of 2 hl (by decide) (by simp only [lg_sl_vr, lg_sl_i, lg_sl_l, lg_sl_0]; exact Nat.le_of_ble_eq_true rfl) ?_
  intro p e s m args below meth c A Q G B B2 hout
  simp only [lp_args_vr, lp_args_i, lp_args_l, lp_args_0]
  show Wx p l e rm_X10_closeYear s m args below meth c k A 4 Q 0 0 0 [some ((vr X 11 0)), some (.int p1), none, none] [] (cW k X S)
  obtain ⟨n, en⟩ : ∃ n, n = (xSz X 24 (0 : Int32).toNatClampNeg) := ⟨_, rfl⟩
  have hn : n < 2 ^ 30 := by rw [en]; exact Nat.lt_of_le_of_lt hX.lw24.2.2.1 hX.lw24.2.2.2.1
  have En : nS X 24 0 = nI n := by rw [en]; rfl
  obtain ⟨n2, en2⟩ : ∃ n, n = (xSz X 21 (0 : Int32).toNatClampNeg) := ⟨_, rfl⟩
  have hn2 : n2 < 2 ^ 30 := by rw [en2]; exact Nat.lt_of_le_of_lt hX.lw21.2.2.1 hX.lw21.2.2.2.1
  have En2 : nS X 21 0 = nI n2 := by rw [en2]; rfl
  have hF : k_closeYear p1 X S = kit_cl3 p1 X (kit_cl2 p1 X (kit_cl1 p1 X S n) n2) n := by rw [k_closeYear, ← en, ← en2]
  have loop3 : ∀ (f i : Nat) (Si : CT), i ≤ n → n - i < f → kit_cl3 p1 X (kit_cl2 p1 X (kit_cl1 p1 X S n) n2) i = Si → Wx p l e rm_X10_closeYear s m args below meth c k A 4 Q 0 0 83 [some ((vr X 11 0)), some (.int p1), some (.int (nI i)), none] [] (cW k X Si) := by
    intro f
    induction f with
    | zero => intro i Si _ h9 _; omega
    | succ f ih =>
      intro i Si hi hf hit
      refine x_iload2 (pc := 83) G dX10_closeYear_83 ?_
      refine z_aload0 (pc := 84) G vr_r dX10_closeYear_84 ?_
      refine z_g (pc := 85) (f := 356) (x := 0) (v := (aR X 24 0)) G kb_11 gb_X10_25 rfl hX.1 hX.l11 cr_356 dX10_closeYear_85 ?_
      refine z_size (pc := 88) (Li := 24) (x := 0) G hX.1 hX.lw24 q_ml_X10_96 ⟨Nat.le_of_ble_eq_true rfl, Nat.le_of_ble_eq_true rfl⟩ (Nat.le_of_ble_eq_true rfl) dX10_closeYear_88 ?_
      refine x_icmp_ge (pc := 91) (tgt := 134) G dX10_closeYear_91 rfl (fun c1 => ?_) (fun c1 => ?_)
      · have ei : i = n := lp_end En c1 hi (by omega)
        exact x_vret (pc := 134) G B rfl dX10_closeYear_134 ⟨rfl, by rw [hF]; subst ei; rw [hit]⟩
      have hlt := lp_lt En c1 hi (by omega)
      refine z_aload0 (pc := 94) G vr_r dX10_closeYear_94 ?_
      refine z_g (pc := 95) (f := 356) (x := 0) (v := (aR X 24 0)) G kb_11 gb_X10_25 rfl hX.1 hX.l11 cr_356 dX10_closeYear_95 ?_
      refine x_iload2 (pc := 98) G dX10_closeYear_98 ?_
      refine z_get (pc := 99) (Li := 24) (kd := 8) (x := 0) (y := (nI i)) (z := (nI i)) G hX.1 hX.lw24 (by rw [En]; exact pn_lt hlt hn) (hX.el24 (by rw [En]; exact pn_lt hlt hn)) rfl (hX.ei (by decide)) q_ml_X10_364 ⟨Nat.le_of_ble_eq_true rfl, Nat.le_of_ble_eq_true rfl⟩ (Nat.le_of_ble_eq_true rfl) dX10_closeYear_99 ?_
      refine z_cast (pc := 102) G kb_8 hX.1 (hX.el24 (by rw [En]; exact pn_lt hlt hn)) q_cl_X10_199 dX10_closeYear_102 ?_
      refine z_astore3 (pc := 105) G vr_r dX10_closeYear_105 (Nat.le_of_ble_eq_true rfl) rfl ?_
      refine z_aload3 (pc := 106) G vr_r dX10_closeYear_106 ?_
      refine z_g (pc := 107) (f := 260) (x := (nI i)) (v := (.int (ci Si 260 (nI i)))) G kb_8 gb_X10_239 rfl hX.1 (hX.el24 (by rw [En]; exact pn_lt hlt hn)) cr_260 dX10_closeYear_107 ?_
      refine x_iload1 (pc := 110) G dX10_closeYear_110 ?_
      refine x_icmp_ne (pc := 111) (tgt := 128) G dX10_closeYear_111 rfl (fun c2 => ?_) (fun c2 => ?_)
      · refine x_iinc2 (pc := 128) (v := ((nI i) + 1)) G dX10_closeYear_128 (by rfl) (Nat.le_of_ble_eq_true rfl) rfl ?_
        refine x_goto (pc := 131) (tgt := 83) G dX10_closeYear_131 rfl ?_
        refine xdrop3 ?_
        have h9 := ih (i + 1) Si (by omega) (by omega) (by show kcl3 p1 X (nI i) (kit_cl3 p1 X (kit_cl2 p1 X (kit_cl1 p1 X S n) n2) i) = _; rw [hit, kcl3, if_neg c2])
        rw [← nI_1 i] at h9
        exact h9
      refine z_aload3 (pc := 114) G vr_r dX10_closeYear_114 ?_
      refine z_cVb0 (pc := 115) G kb_8 hX.1 (hX.el24 (by rw [En]; exact pn_lt hlt hn)) (bk_isCommitting hl hX (hX.el24 (by rw [En]; exact pn_lt hlt hn)) ) rfl q_ml_X10_508 h_X7_isCommitting ⟨Nat.le_of_ble_eq_true rfl, Nat.le_of_ble_eq_true rfl⟩ (Nat.le_of_ble_eq_true rfl) (Nat.le_refl _) (Nat.le_refl _) dX10_closeYear_115 (fun c3 => ?_) (fun c3 => ?_)
      · refine x_if_eq (pc := 118) (y := 0) (tgt := 128) G dX10_closeYear_118 rfl (fun q => absurd q (by decide)) (fun _ => ?_)
        refine z_aload3 (pc := 121) G vr_r dX10_closeYear_121 ?_
        refine x_iload1 (pc := 122) G dX10_closeYear_122 ?_
        refine x_iconst (pc := 123) (v := 1) G dX10_closeYear_123 ic_1 ?_
        refine x_iadd (pc := 124) G dX10_closeYear_124 ?_
        refine z_pI (pc := 125) (f := 260) G kb_8 gb_X10_239 rfl hX.1 (hX.el24 (by rw [En]; exact pn_lt hlt hn)) rfl (cr_260.trans (congrArg Value.int ci_ss)) rfl rfl dX10_closeYear_125 ?_
        refine x_iinc2 (pc := 128) (v := ((nI i) + 1)) G dX10_closeYear_128 (by rfl) (Nat.le_of_ble_eq_true rfl) rfl ?_
        refine x_goto (pc := 131) (tgt := 83) G dX10_closeYear_131 rfl ?_
        refine xdrop3 ?_
        have h9 := ih (i + 1) (si Si 260 (nI i) (p1 + 1)) (by omega) (by omega) (by show kcl3 p1 X (nI i) (kit_cl3 p1 X (kit_cl2 p1 X (kit_cl1 p1 X S n) n2) i) = _; rw [hit, kcl3, if_pos c2, if_pos c3])
        rw [← nI_1 i] at h9
        exact h9
      refine x_if_eq (pc := 118) (y := 0) (tgt := 128) G dX10_closeYear_118 rfl (fun _ => ?_) (fun q => absurd q (by decide))
      refine x_iinc2 (pc := 128) (v := ((nI i) + 1)) G dX10_closeYear_128 (by rfl) (Nat.le_of_ble_eq_true rfl) rfl ?_
      refine x_goto (pc := 131) (tgt := 83) G dX10_closeYear_131 rfl ?_
      refine xdrop3 ?_
      have h9 := ih (i + 1) Si (by omega) (by omega) (by show kcl3 p1 X (nI i) (kit_cl3 p1 X (kit_cl2 p1 X (kit_cl1 p1 X S n) n2) i) = _; rw [hit, kcl3, if_pos c2, if_neg c3])
      rw [← nI_1 i] at h9
      exact h9
  have loop2 : ∀ (f i : Nat) (Si : CT), i ≤ n2 → n2 - i < f → kit_cl2 p1 X (kit_cl1 p1 X S n) i = Si → Wx p l e rm_X10_closeYear s m args below meth c k A 4 Q 0 0 36 [some ((vr X 11 0)), some (.int p1), some (.int (nI i)), none] [] (cW k X Si) := by
    intro f
    induction f with
    | zero => intro i Si _ h9 _; omega
    | succ f ih =>
      intro i Si hi hf hit
      refine x_iload2 (pc := 36) G dX10_closeYear_36 ?_
      refine z_aload0 (pc := 37) G vr_r dX10_closeYear_37 ?_
      refine z_g (pc := 38) (f := 353) (x := 0) (v := (aR X 21 0)) G kb_11 gb_X10_16 rfl hX.1 hX.l11 cr_353 dX10_closeYear_38 ?_
      refine z_size (pc := 41) (Li := 21) (x := 0) G hX.1 hX.lw21 q_ml_X10_96 ⟨Nat.le_of_ble_eq_true rfl, Nat.le_of_ble_eq_true rfl⟩ (Nat.le_of_ble_eq_true rfl) dX10_closeYear_41 ?_
      refine x_icmp_ge (pc := 44) (tgt := 81) G dX10_closeYear_44 rfl (fun c1 => ?_) (fun c1 => ?_)
      · have ei : i = n2 := lp_end En2 c1 hi (by omega)
        refine x_iconst (pc := 81) (v := 0) G dX10_closeYear_81 ic_0 ?_
        refine x_istore2 (pc := 82) G dX10_closeYear_82 (Nat.le_of_ble_eq_true rfl) rfl ?_
        exact loop3 (n + 1) 0 Si (by omega) (by omega) (by show (kit_cl2 p1 X (kit_cl1 p1 X S n) n2) = _; rw [← hit, ei])
      have hlt := lp_lt En2 c1 hi (by omega)
      refine z_aload0 (pc := 47) G vr_r dX10_closeYear_47 ?_
      refine z_g (pc := 48) (f := 353) (x := 0) (v := (aR X 21 0)) G kb_11 gb_X10_16 rfl hX.1 hX.l11 cr_353 dX10_closeYear_48 ?_
      refine x_iload2 (pc := 51) G dX10_closeYear_51 ?_
      refine z_get (pc := 52) (Li := 21) (kd := 1) (x := 0) (y := (nI i)) (z := (nI i)) G hX.1 hX.lw21 (by rw [En2]; exact pn_lt hlt hn2) (hX.el21 (by rw [En2]; exact pn_lt hlt hn2)) rfl (hX.ei (by decide)) q_ml_X10_364 ⟨Nat.le_of_ble_eq_true rfl, Nat.le_of_ble_eq_true rfl⟩ (Nat.le_of_ble_eq_true rfl) dX10_closeYear_52 ?_
      refine z_cast (pc := 55) G kb_1 hX.1 (hX.el21 (by rw [En2]; exact pn_lt hlt hn2)) q_cl_X10_72 dX10_closeYear_55 ?_
      refine z_astore3 (pc := 58) G vr_r dX10_closeYear_58 (Nat.le_of_ble_eq_true rfl) rfl ?_
      refine z_aload0 (pc := 59) G vr_r dX10_closeYear_59 ?_
      refine z_aload3 (pc := 60) G vr_r dX10_closeYear_60 ?_
      refine x_iload1 (pc := 61) G dX10_closeYear_61 ?_
      refine x_cS2 (pc := 62) G (ok_purseOf hl hX (hX.el21 (by rw [En2]; exact pn_lt hlt hn2)) (h2 _ (hX.el21 (by rw [En2]; exact pn_lt hlt hn2))).1) q_ml_X10_487 h_X10_purseOf ⟨Nat.le_of_ble_eq_true rfl, Nat.le_of_ble_eq_true rfl⟩ (by simp only [List.map_cons, List.map_nil, vr_cat]; exact Nat.le_of_ble_eq_true rfl) (Nat.le_refl _) (Nat.le_refl _) dX10_closeYear_62 ?_
      refine z_aload3 (pc := 65) G vr_r dX10_closeYear_65 ?_
      refine x_iload1 (pc := 66) G dX10_closeYear_66 ?_
      refine x_iconst (pc := 67) (v := 1) G dX10_closeYear_67 ic_1 ?_
      refine x_iadd (pc := 68) G dX10_closeYear_68 ?_
      refine x_cS2 (pc := 69) G (ok_purseOf hl hX (hX.el21 (by rw [En2]; exact pn_lt hlt hn2)) (h2 _ (hX.el21 (by rw [En2]; exact pn_lt hlt hn2))).2) q_ml_X10_487 h_X10_purseOf ⟨Nat.le_of_ble_eq_true rfl, Nat.le_of_ble_eq_true rfl⟩ (by simp only [List.map_cons, List.map_nil, vr_cat]; exact Nat.le_of_ble_eq_true rfl) (Nat.le_refl _) (Nat.le_refl _) dX10_closeYear_69 ?_
      refine z_cVv2 (pc := 72) G kb_11 hX.1 hX.l11 (ck_carryOver hl hX (hX.el28 (hX.el21 (by rw [En2]; exact pn_lt hlt hn2)) (h2 _ (hX.el21 (by rw [En2]; exact pn_lt hlt hn2))).1) (hX.el28 (hX.el21 (by rw [En2]; exact pn_lt hlt hn2)) (h2 _ (hX.el21 (by rw [En2]; exact pn_lt hlt hn2))).2) ) rfl q_ml_X10_504 h_X10_carryOver ⟨Nat.le_of_ble_eq_true rfl, Nat.le_of_ble_eq_true rfl⟩ (Nat.le_of_ble_eq_true rfl) (Nat.le_refl _) (Nat.le_refl _) dX10_closeYear_72 ?_
      refine x_iinc2 (pc := 75) (v := ((nI i) + 1)) G dX10_closeYear_75 (by rfl) (Nat.le_of_ble_eq_true rfl) rfl ?_
      refine x_goto (pc := 78) (tgt := 36) G dX10_closeYear_78 rfl ?_
      refine xdrop3 ?_
      have h9 := ih (i + 1) (k_carryOver (3 * (nI i) + p1) (3 * (nI i) + (p1 + 1)) X Si) (by omega) (by omega) (by show kcl2 p1 X (nI i) (kit_cl2 p1 X (kit_cl1 p1 X S n) i) = _; rw [hit, kcl2])
      rw [← nI_1 i] at h9
      exact h9
  have loop1 : ∀ (f i : Nat) (Si : CT), i ≤ n → n - i < f → kit_cl1 p1 X S i = Si → Wx p l e rm_X10_closeYear s m args below meth c k A 4 Q 0 0 2 [some ((vr X 11 0)), some (.int p1), some (.int (nI i)), none] [] (cW k X Si) := by
    intro f
    induction f with
    | zero => intro i Si _ h9 _; omega
    | succ f ih =>
      intro i Si hi hf hit
      refine x_iload2 (pc := 2) G dX10_closeYear_2 ?_
      refine z_aload0 (pc := 3) G vr_r dX10_closeYear_3 ?_
      refine z_g (pc := 4) (f := 356) (x := 0) (v := (aR X 24 0)) G kb_11 gb_X10_25 rfl hX.1 hX.l11 cr_356 dX10_closeYear_4 ?_
      refine z_size (pc := 7) (Li := 24) (x := 0) G hX.1 hX.lw24 q_ml_X10_96 ⟨Nat.le_of_ble_eq_true rfl, Nat.le_of_ble_eq_true rfl⟩ (Nat.le_of_ble_eq_true rfl) dX10_closeYear_7 ?_
      refine x_icmp_ge (pc := 10) (tgt := 34) G dX10_closeYear_10 rfl (fun c1 => ?_) (fun c1 => ?_)
      · have ei : i = n := lp_end En c1 hi (by omega)
        refine x_iconst (pc := 34) (v := 0) G dX10_closeYear_34 ic_0 ?_
        refine x_istore2 (pc := 35) G dX10_closeYear_35 (Nat.le_of_ble_eq_true rfl) rfl ?_
        exact loop2 (n2 + 1) 0 Si (by omega) (by omega) (by show (kit_cl1 p1 X S n) = _; rw [← hit, ei])
      have hlt := lp_lt En c1 hi (by omega)
      refine z_aload0 (pc := 13) G vr_r dX10_closeYear_13 ?_
      refine z_g (pc := 14) (f := 356) (x := 0) (v := (aR X 24 0)) G kb_11 gb_X10_25 rfl hX.1 hX.l11 cr_356 dX10_closeYear_14 ?_
      refine x_iload2 (pc := 17) G dX10_closeYear_17 ?_
      refine z_get (pc := 18) (Li := 24) (kd := 8) (x := 0) (y := (nI i)) (z := (nI i)) G hX.1 hX.lw24 (by rw [En]; exact pn_lt hlt hn) (hX.el24 (by rw [En]; exact pn_lt hlt hn)) rfl (hX.ei (by decide)) q_ml_X10_364 ⟨Nat.le_of_ble_eq_true rfl, Nat.le_of_ble_eq_true rfl⟩ (Nat.le_of_ble_eq_true rfl) dX10_closeYear_18 ?_
      refine z_cast (pc := 21) G kb_8 hX.1 (hX.el24 (by rw [En]; exact pn_lt hlt hn)) q_cl_X10_199 dX10_closeYear_21 ?_
      refine x_iload1 (pc := 24) G dX10_closeYear_24 ?_
      refine x_cSv2 (pc := 25) G (ck_accrue hl hX (hX.el24 (by rw [En]; exact pn_lt hlt hn)) (h2 _ (hX.cent (hX.el24 (by rw [En]; exact pn_lt hlt hn)))).1 (h2 _ (hX.cent (hX.el24 (by rw [En]; exact pn_lt hlt hn)))).2) q_ml_X10_500 h_X10_accrue ⟨Nat.le_of_ble_eq_true rfl, Nat.le_of_ble_eq_true rfl⟩ (Nat.le_of_ble_eq_true rfl) (Nat.le_refl _) (Nat.le_refl _) dX10_closeYear_25 ?_
      refine x_iinc2 (pc := 28) (v := ((nI i) + 1)) G dX10_closeYear_28 (by rfl) (Nat.le_of_ble_eq_true rfl) rfl ?_
      refine x_goto (pc := 31) (tgt := 2) G dX10_closeYear_31 rfl ?_
      have h9 := ih (i + 1) (k_accrue (nI i) p1 X Si) (by omega) (by omega) (by show kcl1 p1 X (nI i) (kit_cl1 p1 X S i) = _; rw [hit, kcl1])
      rw [← nI_1 i] at h9
      exact h9
  refine x_iconst (pc := 0) (v := 0) G dX10_closeYear_0 ic_0 ?_
  refine x_istore2 (pc := 1) G dX10_closeYear_1 (Nat.le_of_ble_eq_true rfl) rfl ?_
  exact loop1 (n + 1) 0 S (by omega) (by omega) rfl
