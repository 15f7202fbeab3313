theorem dX10_spend_0 : decode cX10_spend 0 = .ok (.aload_n 1, 1) := by decide +kernel
theorem dX10_spend_1 : decode cX10_spend 1 = .ok (.aload_n 0, 1) := by decide +kernel
theorem dX10_spend_2 : decode cX10_spend 2 = .ok (.invokevirtual 190, 3) := by decide +kernel
theorem dX10_spend_5 : decode cX10_spend 5 = .ok (.invokestatic 487, 3) := by decide +kernel
theorem dX10_spend_8 : decode cX10_spend 8 = .ok (.dup, 1) := by decide +kernel
theorem dX10_spend_9 : decode cX10_spend 9 = .ok (.getfield 443, 3) := by decide +kernel
theorem dX10_spend_12 : decode cX10_spend 12 = .ok (.lload_n 2, 1) := by decide +kernel
theorem dX10_spend_13 : decode cX10_spend 13 = .ok (.ladd, 1) := by decide +kernel
theorem dX10_spend_14 : decode cX10_spend 14 = .ok (.putfield 443, 3) := by decide +kernel
theorem dX10_spend_17 : decode cX10_spend 17 = .ok (.return_, 1) := by decide +kernel
def k_spend (p1 : Int32) (p2 : Int64) (X : CX) (S : CT) : CT :=
    (sj S 226 (3 * p1 + (k_thisYear X S)) ((cj S 226 (3 * p1 + (k_thisYear X S))) + p2))
abbrev rm_X10_spend : Room := { frames := 8, cells := 0, slots := 0, locals := 132 }
set_option maxRecDepth 100000 in
set_option maxHeartbeats 4000000 in
theorem ck_spend {l : Launch} {k : KC} (hl : l.stackTraces = false) {X : CX} {S : CT} (hX : XOK X) {p1 : Int32} {p2 : Int64} (hp1 : lI X 1 p1) (hy : P_num (k_thisYear X S) (nS X 28 p1))  : MC l k yX10_spend (.code yX10_spend cX10_spend 4 none) rm_X10_spend [(vr X 11 0), (vr X 1 p1), .long p2] (cW k X S) (pR none (cW k X (k_spend p1 p2 X S))) := by
  refine MC.of 0 hl (by decide) (by simp only [lg_sl_vr, lg_sl_i, lg_sl_l, lg_sl_0]; exact Nat.le_of_ble_eq_true rfl) ?_
  intro p e s m args below meth c A Q G B B2 hout
  simp only [lp_args_vr, lp_args_i, lp_args_l, lp_args_0]
  show Wx p l e rm_X10_spend s m args below meth c k A 4 Q 0 0 0 [some ((vr X 11 0)), some ((vr X 1 p1)), some (.long p2), none] [] (cW k X S)
  refine z_aload1 (pc := 0) G vr_r dX10_spend_0 ?_
  refine z_aload0 (pc := 1) G vr_r dX10_spend_1 ?_
  refine z_cV0 (pc := 2) G kb_11 hX.1 hX.l11 (ck_thisYear hl hX  ) rfl q_ml_X10_190 h_X10_thisYear ⟨Nat.le_of_ble_eq_true rfl, Nat.le_of_ble_eq_true rfl⟩ (by simp only [List.map_cons, List.map_nil, vr_cat]; exact Nat.le_of_ble_eq_true rfl) (Nat.le_refl _) (Nat.le_refl _) dX10_spend_2 ?_
  refine x_cS2 (pc := 5) G (ok_purseOf hl hX hp1 hy) q_ml_X10_487 h_X10_purseOf ⟨Nat.le_of_ble_eq_true rfl, Nat.le_of_ble_eq_true rfl⟩ (Nat.le_of_ble_eq_true rfl) (Nat.le_refl _) (Nat.le_refl _) dX10_spend_5 ?_
  refine x_dup (pc := 8) G dX10_spend_8 vr_cat ?_
  refine z_g (pc := 9) (f := 226) (x := (3 * p1 + (k_thisYear X S))) (v := (.long (cj S 226 (3 * p1 + (k_thisYear X S))))) G kb_7 gb_X10_443 rfl hX.1 (hX.el28 hp1 hy) cr_226 dX10_spend_9 ?_
  refine x_lload2 (pc := 12) G dX10_spend_12 ?_
  refine x_ladd (pc := 13) G dX10_spend_13 ?_
  refine z_pJ (pc := 14) (f := 226) G kb_7 gb_X10_443 rfl hX.1 (hX.el28 hp1 hy) rfl (cr_226.trans (congrArg Value.long cj_ss)) rfl rfl dX10_spend_14 ?_
  exact x_vret (pc := 17) G B rfl dX10_spend_17 ⟨rfl, by rw [k_spend]⟩
set_option maxRecDepth 100000 in
set_option maxHeartbeats 4000000 in
theorem ci_spend {p1 : Int32} {p2 : Int64} {X : CX} {S : CT} {g : Nat} {x : Int32}  : ci (k_spend p1 p2 X S) g x = ci S g x := by
  unfold k_spend
  repeat' split
  all_goals simp only [ci_j]
set_option maxRecDepth 100000 in
set_option maxHeartbeats 4000000 in
theorem cj_spend {p1 : Int32} {p2 : Int64} {X : CX} {S : CT} {g : Nat} {x : Int32} (h0 : (g == 226) = false) : cj (k_spend p1 p2 X S) g x = cj S g x := by
  unfold k_spend
  repeat' split
  all_goals simp only [cj_i, cj_sn h0]
theorem dX10_commit_0 : decode cX10_commit 0 = .ok (.aload_n 0, 1) := by decide +kernel
theorem dX10_commit_1 : decode cX10_commit 1 = .ok (.getfield 231, 3) := by decide +kernel
theorem dX10_commit_4 : decode cX10_commit 4 = .ok (.aload_n 0, 1) := by decide +kernel
theorem dX10_commit_5 : decode cX10_commit 5 = .ok (.getfield 239, 3) := by decide +kernel
theorem dX10_commit_8 : decode cX10_commit 8 = .ok (.invokestatic 487, 3) := by decide +kernel
theorem dX10_commit_11 : decode cX10_commit 11 = .ok (.dup, 1) := by decide +kernel
theorem dX10_commit_12 : decode cX10_commit 12 = .ok (.getfield 442, 3) := by decide +kernel
theorem dX10_commit_15 : decode cX10_commit 15 = .ok (.lload_n 1, 1) := by decide +kernel
theorem dX10_commit_16 : decode cX10_commit 16 = .ok (.ladd, 1) := by decide +kernel
theorem dX10_commit_17 : decode cX10_commit 17 = .ok (.putfield 442, 3) := by decide +kernel
theorem dX10_commit_20 : decode cX10_commit 20 = .ok (.aload_n 0, 1) := by decide +kernel
theorem dX10_commit_21 : decode cX10_commit 21 = .ok (.dup, 1) := by decide +kernel
theorem dX10_commit_22 : decode cX10_commit 22 = .ok (.getfield 273, 3) := by decide +kernel
theorem dX10_commit_25 : decode cX10_commit 25 = .ok (.lload_n 1, 1) := by decide +kernel
theorem dX10_commit_26 : decode cX10_commit 26 = .ok (.ladd, 1) := by decide +kernel
theorem dX10_commit_27 : decode cX10_commit 27 = .ok (.putfield 273, 3) := by decide +kernel
theorem dX10_commit_30 : decode cX10_commit 30 = .ok (.return_, 1) := by decide +kernel
def k_commit (p1 : Int32) (p2 : Int64) (X : CX) (S : CT) : CT :=
    (sj (sj S 225 (3 * (xi X 257 p1) + (ci S 260 p1)) ((cj S 225 (3 * (xi X 257 p1) + (ci S 260 p1))) + p2)) 261 p1 ((cj S 261 p1) + p2))
abbrev rm_X10_commit : Room := { frames := 8, cells := 0, slots := 0, locals := 132 }
set_option maxRecDepth 100000 in
set_option maxHeartbeats 4000000 in
theorem ck_commit {l : Launch} {k : KC} (hl : l.stackTraces = false) {X : CX} {S : CT} (hX : XOK X) {p1 : Int32} {p2 : Int64} (hp1 : lI X 8 p1) (hy : P_num (ci S 260 p1) (nS X 28 (xi X 257 p1)))  : MC l k yX10_commit (.code yX10_commit cX10_commit 3 none) rm_X10_commit [(vr X 8 p1), .long p2] (cW k X S) (pR none (cW k X (k_commit p1 p2 X S))) := by
  refine MC.of 0 hl (by decide) (by simp only [lg_sl_vr, lg_sl_i, lg_sl_l, lg_sl_0]; exact Nat.le_of_ble_eq_true rfl) ?_
  intro p e s m args below meth c A Q G B B2 hout
  simp only [lp_args_vr, lp_args_i, lp_args_l, lp_args_0]
  show Wx p l e rm_X10_commit s m args below meth c k A 3 Q 0 0 0 [some ((vr X 8 p1)), some (.long p2), none] [] (cW k X S)
  refine z_aload0 (pc := 0) G vr_r dX10_commit_0 ?_
  refine z_g (pc := 1) (f := 257) (x := p1) (v := (vr X 1 (xi X 257 p1))) G kb_8 gb_X10_231 rfl hX.1 hp1 cr_257 dX10_commit_1 ?_
  refine z_aload0 (pc := 4) G vr_r dX10_commit_4 ?_
  refine z_g (pc := 5) (f := 260) (x := p1) (v := (.int (ci S 260 p1))) G kb_8 gb_X10_239 rfl hX.1 hp1 cr_260 dX10_commit_5 ?_
  refine x_cS2 (pc := 8) G (ok_purseOf hl hX (hX.cent hp1) hy) q_ml_X10_487 h_X10_purseOf ⟨Nat.le_of_ble_eq_true rfl, Nat.le_of_ble_eq_true rfl⟩ (Nat.le_of_ble_eq_true rfl) (Nat.le_refl _) (Nat.le_refl _) dX10_commit_8 ?_
  refine x_dup (pc := 11) G dX10_commit_11 vr_cat ?_
  refine z_g (pc := 12) (f := 225) (x := (3 * (xi X 257 p1) + (ci S 260 p1))) (v := (.long (cj S 225 (3 * (xi X 257 p1) + (ci S 260 p1))))) G kb_7 gb_X10_442 rfl hX.1 (hX.el28 (hX.cent hp1) hy) cr_225 dX10_commit_12 ?_
  refine x_lload1 (pc := 15) G dX10_commit_15 ?_
  refine x_ladd (pc := 16) G dX10_commit_16 ?_
  refine z_pJ (pc := 17) (f := 225) G kb_7 gb_X10_442 rfl hX.1 (hX.el28 (hX.cent hp1) hy) rfl (cr_225.trans (congrArg Value.long cj_ss)) rfl rfl dX10_commit_17 ?_
  refine z_aload0 (pc := 20) G vr_r dX10_commit_20 ?_
  refine x_dup (pc := 21) G dX10_commit_21 vr_cat ?_
  refine z_g (pc := 22) (f := 261) (x := p1) (v := (.long (cj S 261 p1))) G kb_8 gb_X10_273 rfl hX.1 hp1 (cr_261.trans (congrArg Value.long (cj_sn rfl))) dX10_commit_22 ?_
  refine x_lload1 (pc := 25) G dX10_commit_25 ?_
  refine x_ladd (pc := 26) G dX10_commit_26 ?_
  refine z_pJ (pc := 27) (f := 261) G kb_8 gb_X10_273 rfl hX.1 hp1 rfl (cr_261.trans (congrArg Value.long cj_ss)) rfl rfl dX10_commit_27 ?_
  exact x_vret (pc := 30) G B rfl dX10_commit_30 ⟨rfl, by rw [k_commit]⟩
set_option maxRecDepth 100000 in
set_option maxHeartbeats 4000000 in
theorem ci_commit {p1 : Int32} {p2 : Int64} {X : CX} {S : CT} {g : Nat} {x : Int32}  : ci (k_commit p1 p2 X S) g x = ci S g x := by
  unfold k_commit
  repeat' split
  all_goals simp only [ci_j]
set_option maxRecDepth 100000 in
set_option maxHeartbeats 4000000 in
theorem cj_commit {p1 : Int32} {p2 : Int64} {X : CX} {S : CT} {g : Nat} {x : Int32} (h0 : (g == 225) = false) (h1 : (g == 261) = false) : cj (k_commit p1 p2 X S) g x = cj S g x := by
  unfold k_commit
  repeat' split
  all_goals simp only [cj_i, cj_sn h0, cj_sn h1]
theorem rel_pos {a b : Int64} (h : 0 < lg_cmp (if a < b then a else b) 0) : 0 < a := by
  have h1 : ¬ lg_cmp (if a < b then a else b) 0 ≤ 0 := Int32.not_le.mpr h
  rw [lg_cmp_le] at h1
  have h2 := Int64.not_le.mp h1
  split at h2
  · exact h2
  · rename_i h3
    exact Int64.lt_of_lt_of_le h2 (Int64.not_lt.mp h3)
theorem dX10_release_0 : decode cX10_release 0 = .ok (.lload_n 1, 1) := by decide +kernel
theorem dX10_release_1 : decode cX10_release 1 = .ok (.aload_n 0, 1) := by decide +kernel
theorem dX10_release_2 : decode cX10_release 2 = .ok (.getfield 273, 3) := by decide +kernel
theorem dX10_release_5 : decode cX10_release 5 = .ok (.invokestatic 494, 3) := by decide +kernel
theorem dX10_release_8 : decode cX10_release 8 = .ok (.lstore_n 3, 1) := by decide +kernel
theorem dX10_release_9 : decode cX10_release 9 = .ok (.lload_n 3, 1) := by decide +kernel
theorem dX10_release_10 : decode cX10_release 10 = .ok (.lconst 0, 1) := by decide +kernel
theorem dX10_release_11 : decode cX10_release 11 = .ok (.lcmp, 1) := by decide +kernel
theorem dX10_release_12 : decode cX10_release 12 = .ok (.ifCond .gt 5, 3) := by decide +kernel
theorem dX10_release_15 : decode cX10_release 15 = .ok (.lconst 0, 1) := by decide +kernel
theorem dX10_release_16 : decode cX10_release 16 = .ok (.lreturn, 1) := by decide +kernel
theorem dX10_release_17 : decode cX10_release 17 = .ok (.aload_n 0, 1) := by decide +kernel
theorem dX10_release_18 : decode cX10_release 18 = .ok (.lload_n 3, 1) := by decide +kernel
theorem dX10_release_19 : decode cX10_release 19 = .ok (.lneg, 1) := by decide +kernel
theorem dX10_release_20 : decode cX10_release 20 = .ok (.invokestatic 242, 3) := by decide +kernel
theorem dX10_release_23 : decode cX10_release 23 = .ok (.lload_n 3, 1) := by decide +kernel
theorem dX10_release_24 : decode cX10_release 24 = .ok (.lreturn, 1) := by decide +kernel
def k_release (p1 : Int32) (p2 : Int64) (X : CX) (S : CT) : Int64 × CT :=
    if 0 < (lg_cmp (if (cj S 261 p1) < p2 then (cj S 261 p1) else p2) 0) then
      ((if (cj S 261 p1) < p2 then (cj S 261 p1) else p2), (k_commit p1 (-(if (cj S 261 p1) < p2 then (cj S 261 p1) else p2)) X S))
    else
    (0, S)
abbrev rm_X10_release : Room := { frames := 9, cells := 0, slots := 0, locals := 154 }
set_option maxRecDepth 100000 in
set_option maxHeartbeats 4000000 in
theorem ck_release {l : Launch} {k : KC} (hl : l.stackTraces = false) {X : CX} {S : CT} (hX : XOK X) {p1 : Int32} {p2 : Int64} (hp1 : lI X 8 p1) (hy : 0 < cj S 261 p1 → P_num (ci S 260 p1) (nS X 28 (xi X 257 p1)))  : MC l k yX10_release (.code yX10_release cX10_release 5 (some .long)) rm_X10_release [(vr X 8 p1), .long p2] (cW k X S) (pR (some (.long (k_release p1 p2 X S).1)) (cW k X (k_release p1 p2 X S).2)) := by
  refine MC.of 2 hl (by decide) (by simp only [lg_sl_vr, lg_sl_i, lg_sl_l, lg_sl_0]; exact Nat.le_of_ble_eq_true rfl) ?_
  intro p e s m args below meth c A Q G B B2 hout
  simp only [lp_args_vr, lp_args_i, lp_args_l, lp_args_0]
  show Wx p l e rm_X10_release s m args below meth c k A 5 Q 0 0 0 [some ((vr X 8 p1)), some (.long p2), none, none, none] [] (cW k X S)
  refine x_lload1 (pc := 0) G dX10_release_0 ?_
  refine z_aload0 (pc := 1) G vr_r dX10_release_1 ?_
  refine z_g (pc := 2) (f := 261) (x := p1) (v := (.long (cj S 261 p1))) G kb_8 gb_X10_273 rfl hX.1 hp1 cr_261 dX10_release_2 ?_
  refine x_mminl (pc := 5) G q_ml_X10_494 q_st_minl q_in_J9 q_co_minl (Nat.le_of_ble_eq_true rfl) (Nat.le_of_ble_eq_true rfl) dX10_release_5 ?_
  refine x_lstore3 (pc := 8) G dX10_release_8 (Nat.le_of_ble_eq_true rfl) rfl ?_
  refine x_lload3 (pc := 9) G dX10_release_9 ?_
  refine x_lconst (pc := 10) (v := 0) G dX10_release_10 lc_0 ?_
  refine x_lcmp (pc := 11) G dX10_release_11 ?_
  refine x_if_gt (pc := 12) (y := 0) (tgt := 17) G dX10_release_12 rfl (fun c1 => ?_) (fun c1 => ?_)
  · refine z_aload0 (pc := 17) G vr_r dX10_release_17 ?_
    refine x_lload3 (pc := 18) G dX10_release_18 ?_
    refine x_lneg (pc := 19) G dX10_release_19 ?_
    refine x_cSv2 (pc := 20) G (ck_commit hl hX hp1 (hy (rel_pos c1))) q_ml_X10_242 h_X10_commit ⟨Nat.le_of_ble_eq_true rfl, Nat.le_of_ble_eq_true rfl⟩ (Nat.le_of_ble_eq_true rfl) (Nat.le_refl _) (Nat.le_refl _) dX10_release_20 ?_
    refine x_lload3 (pc := 23) G dX10_release_23 ?_
    exact x_lret (pc := 24) G B rfl dX10_release_24 ⟨by rw [k_release, if_pos c1], by rw [k_release, if_pos c1]⟩
  refine x_lconst (pc := 15) (v := 0) G dX10_release_15 lc_0 ?_
  exact x_lret (pc := 16) G B rfl dX10_release_16 ⟨by rw [k_release, if_neg c1], by rw [k_release, if_neg c1]⟩
set_option maxRecDepth 100000 in
set_option maxHeartbeats 4000000 in
theorem ci_release {p1 : Int32} {p2 : Int64} {X : CX} {S : CT} {g : Nat} {x : Int32}  : ci (k_release p1 p2 X S).2 g x = ci S g x := by
  unfold k_release
  repeat' split
  all_goals simp only [ci_j, ci_commit]
set_option maxRecDepth 100000 in
set_option maxHeartbeats 4000000 in
theorem cj_release {p1 : Int32} {p2 : Int64} {X : CX} {S : CT} {g : Nat} {x : Int32} (h0 : (g == 225) = false) (h1 : (g == 261) = false) : cj (k_release p1 p2 X S).2 g x = cj S g x := by
  unfold k_release
  repeat' split
  all_goals simp only [cj_i, cj_sn h0, cj_sn h1, cj_commit h0 h1]
theorem vin_num {x : Int32} {n : Nat} (hn : n < 2 ^ 30) (h : P_num x (nI n)) : vp_in x n := by
  obtain ⟨j, hj, rfl⟩ := P_num_nI h hn
  exact vp_in_nI hj (by omega)
theorem dX10_post_0 : decode cX10_post 0 = .ok (.iload_n 1, 1) := by decide +kernel
theorem dX10_post_1 : decode cX10_post 1 = .ok (.aload_n 0, 1) := by decide +kernel
theorem dX10_post_2 : decode cX10_post 2 = .ok (.getfield 41, 3) := by decide +kernel
theorem dX10_post_5 : decode cX10_post 5 = .ok (.arraylength, 1) := by decide +kernel
theorem dX10_post_6 : decode cX10_post 6 = .ok (.invokestatic 156, 3) := by decide +kernel
theorem dX10_post_9 : decode cX10_post 9 = .ok (.aload_n 0, 1) := by decide +kernel
theorem dX10_post_10 : decode cX10_post 10 = .ok (.getfield 41, 3) := by decide +kernel
theorem dX10_post_13 : decode cX10_post 13 = .ok (.iload_n 1, 1) := by decide +kernel
theorem dX10_post_14 : decode cX10_post 14 = .ok (.dup2, 1) := by decide +kernel
theorem dX10_post_15 : decode cX10_post 15 = .ok (.laload, 1) := by decide +kernel
theorem dX10_post_16 : decode cX10_post 16 = .ok (.lload_n 2, 1) := by decide +kernel
theorem dX10_post_17 : decode cX10_post 17 = .ok (.ladd, 1) := by decide +kernel
theorem dX10_post_18 : decode cX10_post 18 = .ok (.lastore, 1) := by decide +kernel
theorem dX10_post_19 : decode cX10_post 19 = .ok (.return_, 1) := by decide +kernel
def k_post (p1 : Int32) (p2 : Int64) (X : CX) (S : CT) : CT :=
    (sj S 1312 p1 ((cj S 1312 p1) + p2))
abbrev rm_X10_post : Room := { frames := 7, cells := 0, slots := 0, locals := 111 }
set_option maxRecDepth 100000 in
set_option maxHeartbeats 4000000 in
theorem ck_post {l : Launch} {k : KC} (hl : l.stackTraces = false) {X : CX} {S : CT} (hX : XOK X) {p1 : Int32} {p2 : Int64} (ha : P_num p1 9)  : MC l k yX10_post (.code yX10_post cX10_post 4 none) rm_X10_post [(vr X 11 0), .int p1, .long p2] (cW k X S) (pR none (cW k X (k_post p1 p2 X S))) := by
  refine MC.of 0 hl (by decide) (by simp only [lg_sl_vr, lg_sl_i, lg_sl_l, lg_sl_0]; exact Nat.le_of_ble_eq_true rfl) ?_
  intro p e s m args below meth c A Q G B B2 hout
  simp only [lp_args_vr, lp_args_i, lp_args_l, lp_args_0]
  show Wx p l e rm_X10_post s m args below meth c k A 4 Q 0 0 0 [some ((vr X 11 0)), some (.int p1), some (.long p2), none] [] (cW k X S)
  refine x_iload1 (pc := 0) G dX10_post_0 ?_
  refine z_aload0 (pc := 1) G vr_r dX10_post_1 ?_
  refine z_g (pc := 2) (f := 361) (x := 0) (v := (aR X 41 0)) G kb_11 gb_X10_41 rfl hX.1 hX.l11 cr_361 dX10_post_2 ?_
  refine z_llen (pc := 5) G hX.1 hX.l41 dX10_post_5 ?_
  refine x_cSv2 (pc := 6) G (ok_requireNumber hl ha) q_ml_X10_156 h_X10_requireNumber ⟨Nat.le_of_ble_eq_true rfl, Nat.le_of_ble_eq_true rfl⟩ (Nat.le_of_ble_eq_true rfl) (Nat.le_refl _) (Nat.le_refl _) dX10_post_6 ?_
  refine z_aload0 (pc := 9) G vr_r dX10_post_9 ?_
  refine z_g (pc := 10) (f := 361) (x := 0) (v := (aR X 41 0)) G kb_11 gb_X10_41 rfl hX.1 hX.l11 cr_361 dX10_post_10 ?_
  refine x_iload1 (pc := 13) G dX10_post_13 ?_
  refine x_dup2 (pc := 14) G dX10_post_14 rfl rfl ?_
  refine z_lald (pc := 15) (v := (cj S 1312 p1)) G hX.1 hX.l41 (vin_num (n := 9) (by decide) ha) rfl dX10_post_15 ?_
  refine x_lload2 (pc := 16) G dX10_post_16 ?_
  refine x_ladd (pc := 17) G dX10_post_17 ?_
  refine z_last (pc := 18) G hX.1 hX.l41 (vin_num (n := 9) (by decide) ha) dX10_post_18 ?_
  exact x_vret (pc := 19) G B rfl dX10_post_19 ⟨rfl, by rw [k_post]⟩
set_option maxRecDepth 100000 in
set_option maxHeartbeats 4000000 in
theorem ci_post {p1 : Int32} {p2 : Int64} {X : CX} {S : CT} {g : Nat} {x : Int32}  : ci (k_post p1 p2 X S) g x = ci S g x := by
  unfold k_post
  repeat' split
  all_goals simp only [ci_j]
set_option maxRecDepth 100000 in
set_option maxHeartbeats 4000000 in
theorem cj_post {p1 : Int32} {p2 : Int64} {X : CX} {S : CT} {g : Nat} {x : Int32} (h0 : (g == 1312) = false) : cj (k_post p1 p2 X S) g x = cj S g x := by
  unfold k_post
  repeat' split
  all_goals simp only [cj_i, cj_sn h0]
theorem dX10_approverFor_0 : decode cX10_approverFor 0 = .ok (.aload_n 2, 1) := by decide +kernel
theorem dX10_approverFor_1 : decode cX10_approverFor 1 = .ok (.ifnull 14, 3) := by decide +kernel
theorem dX10_approverFor_4 : decode cX10_approverFor 4 = .ok (.aload_n 0, 1) := by decide +kernel
theorem dX10_approverFor_5 : decode cX10_approverFor 5 = .ok (.getfield 49, 3) := by decide +kernel
theorem dX10_approverFor_8 : decode cX10_approverFor 8 = .ok (.aload_n 2, 1) := by decide +kernel
theorem dX10_approverFor_9 : decode cX10_approverFor 9 = .ok (.getfield 120, 3) := by decide +kernel
theorem dX10_approverFor_12 : decode cX10_approverFor 12 = .ok (.if_icmp .lt 5, 3) := by decide +kernel
theorem dX10_approverFor_15 : decode cX10_approverFor 15 = .ok (.aload_n 2, 1) := by decide +kernel
theorem dX10_approverFor_16 : decode cX10_approverFor 16 = .ok (.areturn, 1) := by decide +kernel
theorem dX10_approverFor_17 : decode cX10_approverFor 17 = .ok (.aload_n 2, 1) := by decide +kernel
theorem dX10_approverFor_18 : decode cX10_approverFor 18 = .ok (.getfield 123, 3) := by decide +kernel
theorem dX10_approverFor_21 : decode cX10_approverFor 21 = .ok (.aload_n 1, 1) := by decide +kernel
theorem dX10_approverFor_22 : decode cX10_approverFor 22 = .ok (.getfield 514, 3) := by decide +kernel
theorem dX10_approverFor_25 : decode cX10_approverFor 25 = .ok (.if_acmp .ne 7, 3) := by decide +kernel
theorem dX10_approverFor_28 : decode cX10_approverFor 28 = .ok (.aconst_null, 1) := by decide +kernel
theorem dX10_approverFor_29 : decode cX10_approverFor 29 = .ok (.goto 7, 3) := by decide +kernel
theorem dX10_approverFor_32 : decode cX10_approverFor 32 = .ok (.aload_n 2, 1) := by decide +kernel
theorem dX10_approverFor_33 : decode cX10_approverFor 33 = .ok (.getfield 123, 3) := by decide +kernel
theorem dX10_approverFor_36 : decode cX10_approverFor 36 = .ok (.areturn, 1) := by decide +kernel
def k_approverFor (p1 : Int32) (p2 : Int32) (X : CX) (S : CT) : Int32 :=
    if p2 = -1 then
      p2
    else
    if (ci S 363 0) < (ci S 195 p2) then
      if (ci S 196 p2) = (xi X 256 p1) then
        (-1)
      else
      (ci S 196 p2)
    else
    p2
abbrev rm_X10_approverFor : Room := { frames := 0, cells := 0, slots := 0, locals := 0 }
set_option maxRecDepth 100000 in
set_option maxHeartbeats 4000000 in
theorem ck_approverFor {l : Launch} {k : KC} (hl : l.stackTraces = false) {X : CX} {S : CT} (hX : XOK X) {p1 : Int32} {p2 : Int32} (hp1 : lI X 8 p1) (hp2 : oI X 6 p2) (hT : TS X S)  : MC l k yX10_approverFor (.code yX10_approverFor cX10_approverFor 3 (some (.object "ChitWright$Person"))) rm_X10_approverFor [(vr X 11 0), (vr X 8 p1), (vr X 6 p2)] (cW k X S) (pR (some (vr X 6 (k_approverFor p1 p2 X S))) (cW k X S)) := by
  refine MC.of 0 hl (by decide) (by simp only [lg_sl_vr, lg_sl_i, lg_sl_l, lg_sl_0]; exact Nat.le_of_ble_eq_true rfl) ?_
  intro p e s m args below meth c A Q G B B2 hout
  simp only [lp_args_vr, lp_args_i, lp_args_l, lp_args_0]
  show Wx p l e rm_X10_approverFor s m args below meth c k A 3 Q 0 0 0 [some ((vr X 11 0)), some ((vr X 8 p1)), some ((vr X 6 p2))] [] (cW k X S)
  refine z_aload2 (pc := 0) G vr_r dX10_approverFor_0 ?_
  refine z_ifnull (pc := 1) (tgt := 15) (kd := 6) (x := p2) G dX10_approverFor_1 rfl (fun c1 => ?_) (fun c1 => ?_)
  · refine z_aload2 (pc := 15) G vr_r dX10_approverFor_15 ?_
    exact x_aret (pc := 16) G B rfl (Or.inl ⟨_, rfl⟩) vr_r dX10_approverFor_16 ⟨by rw [k_approverFor, if_pos c1], rfl⟩
  refine z_aload0 (pc := 4) G vr_r dX10_approverFor_4 ?_
  refine z_g (pc := 5) (f := 363) (x := 0) (v := (.int (ci S 363 0))) G kb_11 gb_X10_49 rfl hX.1 hX.l11 cr_363 dX10_approverFor_5 ?_
  refine z_aload2 (pc := 8) G vr_r dX10_approverFor_8 ?_
  refine z_g (pc := 9) (f := 195) (x := p2) (v := (.int (ci S 195 p2))) G kb_6 gb_X10_120 rfl hX.1 (oI.lI hp2 c1) cr_195 dX10_approverFor_9 ?_
  refine x_icmp_lt (pc := 12) (tgt := 17) G dX10_approverFor_12 rfl (fun c2 => ?_) (fun c2 => ?_)
  · refine z_aload2 (pc := 17) G vr_r dX10_approverFor_17 ?_
    refine z_g (pc := 18) (f := 196) (x := p2) (v := (vr X 6 (ci S 196 p2))) G kb_6 gb_X10_123 rfl hX.1 (oI.lI hp2 c1) cr_196 dX10_approverFor_18 ?_
    refine z_aload1 (pc := 21) G vr_r dX10_approverFor_21 ?_
    refine z_g (pc := 22) (f := 256) (x := p1) (v := (vr X 6 (xi X 256 p1))) G kb_8 gb_X10_514 rfl hX.1 hp1 cr_256 dX10_approverFor_22 ?_
    refine z_acmp_ne (pc := 25) (tgt := 32) (kd := 6) (x := (ci S 196 p2)) (y := (xi X 256 p1)) G (hT.sub (oI.lI hp2 c1)) (Or.inr (hX.asker hp1)) dX10_approverFor_25 rfl (fun c3 => ?_) (fun c3 => ?_)
    · refine z_aload2 (pc := 32) G vr_r dX10_approverFor_32 ?_
      refine z_g (pc := 33) (f := 196) (x := p2) (v := (vr X 6 (ci S 196 p2))) G kb_6 gb_X10_123 rfl hX.1 (oI.lI hp2 c1) cr_196 dX10_approverFor_33 ?_
      exact x_aret (pc := 36) G B rfl (Or.inl ⟨_, rfl⟩) vr_r dX10_approverFor_36 ⟨by rw [k_approverFor, if_neg c1, if_pos c2, if_neg c3], rfl⟩
    refine z_null (pc := 28) 6 X G dX10_approverFor_28 ?_
    refine x_goto (pc := 29) (tgt := 36) G dX10_approverFor_29 rfl ?_
    exact x_aret (pc := 36) G B rfl (Or.inl ⟨_, rfl⟩) vr_r dX10_approverFor_36 ⟨by rw [k_approverFor, if_neg c1, if_pos c2, if_pos c3], rfl⟩
  refine z_aload2 (pc := 15) G vr_r dX10_approverFor_15 ?_
  exact x_aret (pc := 16) G B rfl (Or.inl ⟨_, rfl⟩) vr_r dX10_approverFor_16 ⟨by rw [k_approverFor, if_neg c1, if_neg c2], rfl⟩
theorem op_approverFor {X : CX} {S : CT} (hT : TS X S) {p1 p2 : Int32} (hp2 : oI X 6 p2) : oI X 6 (k_approverFor p1 p2 X S) := by
  unfold k_approverFor
  split
  · exact hp2
  · rename_i h
    repeat' split
    all_goals first | exact hp2 | exact Or.inl rfl | exact hT.sub (hp2.lI h)
theorem dX10_bossAfter_0 : decode cX10_bossAfter 0 = .ok (.aload_n 0, 1) := by decide +kernel
theorem dX10_bossAfter_1 : decode cX10_bossAfter 1 = .ok (.getfield 526, 3) := by decide +kernel
theorem dX10_bossAfter_4 : decode cX10_bossAfter 4 = .ok (.i2l, 1) := by decide +kernel
theorem dX10_bossAfter_5 : decode cX10_bossAfter 5 = .ok (.lload_n 1, 1) := by decide +kernel
theorem dX10_bossAfter_6 : decode cX10_bossAfter 6 = .ok (.lcmp, 1) := by decide +kernel
theorem dX10_bossAfter_7 : decode cX10_bossAfter 7 = .ok (.ifCond .lt 7, 3) := by decide +kernel
theorem dX10_bossAfter_10 : decode cX10_bossAfter 10 = .ok (.aconst_null, 1) := by decide +kernel
theorem dX10_bossAfter_11 : decode cX10_bossAfter 11 = .ok (.goto 7, 3) := by decide +kernel
theorem dX10_bossAfter_14 : decode cX10_bossAfter 14 = .ok (.aload_n 0, 1) := by decide +kernel
theorem dX10_bossAfter_15 : decode cX10_bossAfter 15 = .ok (.getfield 517, 3) := by decide +kernel
theorem dX10_bossAfter_18 : decode cX10_bossAfter 18 = .ok (.areturn, 1) := by decide +kernel
def k_bossAfter (p1 : Int32) (p2 : Int64) (X : CX) (S : CT) : Int32 :=
    if (lg_cmp ((xi X 194 p1).toInt64) p2) < 0 then
      (xi X 193 p1)
    else
    (-1)
abbrev rm_X10_bossAfter : Room := { frames := 0, cells := 0, slots := 0, locals := 0 }
set_option maxRecDepth 100000 in
set_option maxHeartbeats 4000000 in
theorem ck_bossAfter {l : Launch} {k : KC} (hl : l.stackTraces = false) {X : CX} {S : CT} (hX : XOK X) {p1 : Int32} {p2 : Int64} (hp1 : lI X 6 p1)  : MC l k yX10_bossAfter (.code yX10_bossAfter cX10_bossAfter 3 (some (.object "ChitWright$Person"))) rm_X10_bossAfter [(vr X 6 p1), .long p2] (cW k X S) (pR (some (vr X 6 (k_bossAfter p1 p2 X S))) (cW k X S)) := by
  refine MC.of 0 hl (by decide) (by simp only [lg_sl_vr, lg_sl_i, lg_sl_l, lg_sl_0]; exact Nat.le_of_ble_eq_true rfl) ?_
  intro p e s m args below meth c A Q G B B2 hout
  simp only [lp_args_vr, lp_args_i, lp_args_l, lp_args_0]
  show Wx p l e rm_X10_bossAfter s m args below meth c k A 3 Q 0 0 0 [some ((vr X 6 p1)), some (.long p2), none] [] (cW k X S)
  refine z_aload0 (pc := 0) G vr_r dX10_bossAfter_0 ?_
  refine z_g (pc := 1) (f := 194) (x := p1) (v := (.int (xi X 194 p1))) G kb_6 gb_X10_526 rfl hX.1 hp1 cr_194 dX10_bossAfter_1 ?_
  refine x_i2l (pc := 4) G dX10_bossAfter_4 ?_
  refine x_lload1 (pc := 5) G dX10_bossAfter_5 ?_
  refine x_lcmp (pc := 6) G dX10_bossAfter_6 ?_
  refine x_if_lt (pc := 7) (y := 0) (tgt := 14) G dX10_bossAfter_7 rfl (fun c1 => ?_) (fun c1 => ?_)
  · refine z_aload0 (pc := 14) G vr_r dX10_bossAfter_14 ?_
    refine z_g (pc := 15) (f := 193) (x := p1) (v := (vr X 6 (xi X 193 p1))) G kb_6 gb_X10_517 rfl hX.1 hp1 cr_193 dX10_bossAfter_15 ?_
    exact x_aret (pc := 18) G B rfl (Or.inl ⟨_, rfl⟩) vr_r dX10_bossAfter_18 ⟨by rw [k_bossAfter, if_pos c1], rfl⟩
  refine z_null (pc := 10) 6 X G dX10_bossAfter_10 ?_
  refine x_goto (pc := 11) (tgt := 18) G dX10_bossAfter_11 rfl ?_
  exact x_aret (pc := 18) G B rfl (Or.inl ⟨_, rfl⟩) vr_r dX10_bossAfter_18 ⟨by rw [k_bossAfter, if_neg c1], rfl⟩
theorem op_bossAfter {X : CX} {S : CT} (hX : XOK X) {p1 : Int32} {p2 : Int64} (hp1 : lI X 6 p1) : oI X 6 (k_bossAfter p1 p2 X S) := by
  unfold k_bossAfter
  repeat' split
  all_goals first | exact Or.inl rfl | exact hX.boss hp1
theorem dX10_isInDiscountDays_0 : decode cX10_isInDiscountDays 0 = .ok (.aload_n 0, 1) := by decide +kernel
theorem dX10_isInDiscountDays_1 : decode cX10_isInDiscountDays 1 = .ok (.getfield 49, 3) := by decide +kernel
theorem dX10_isInDiscountDays_4 : decode cX10_isInDiscountDays 4 = .ok (.aload_n 1, 1) := by decide +kernel
theorem dX10_isInDiscountDays_5 : decode cX10_isInDiscountDays 5 = .ok (.getfield 541, 3) := by decide +kernel
theorem dX10_isInDiscountDays_8 : decode cX10_isInDiscountDays 8 = .ok (.aload_n 1, 1) := by decide +kernel
theorem dX10_isInDiscountDays_9 : decode cX10_isInDiscountDays 9 = .ok (.getfield 536, 3) := by decide +kernel
theorem dX10_isInDiscountDays_12 : decode cX10_isInDiscountDays 12 = .ok (.getfield 177, 3) := by decide +kernel
theorem dX10_isInDiscountDays_15 : decode cX10_isInDiscountDays 15 = .ok (.iadd, 1) := by decide +kernel
theorem dX10_isInDiscountDays_16 : decode cX10_isInDiscountDays 16 = .ok (.if_icmp .gt 7, 3) := by decide +kernel
theorem dX10_isInDiscountDays_19 : decode cX10_isInDiscountDays 19 = .ok (.iconst 1, 1) := by decide +kernel
theorem dX10_isInDiscountDays_20 : decode cX10_isInDiscountDays 20 = .ok (.goto 4, 3) := by decide +kernel
theorem dX10_isInDiscountDays_23 : decode cX10_isInDiscountDays 23 = .ok (.iconst 0, 1) := by decide +kernel
theorem dX10_isInDiscountDays_24 : decode cX10_isInDiscountDays 24 = .ok (.ireturn, 1) := by decide +kernel
def k_isInDiscountDays (p1 : Int32) (X : CX) (S : CT) : Int32 :=
    if ((ci S 109 p1) + (ci S 293 (xi X 98 p1))) < (ci S 363 0) then
      0
    else
    1
abbrev rm_X10_isInDiscountDays : Room := { frames := 0, cells := 0, slots := 0, locals := 0 }
set_option maxRecDepth 100000 in
set_option maxHeartbeats 4000000 in
theorem ck_isInDiscountDays {l : Launch} {k : KC} (hl : l.stackTraces = false) {X : CX} {S : CT} (hX : XOK X) {p1 : Int32} (hp1 : lI X 3 p1)  : MC l k yX10_isInDiscountDays (.code yX10_isInDiscountDays cX10_isInDiscountDays 2 (some .boolean)) rm_X10_isInDiscountDays [(vr X 11 0), (vr X 3 p1)] (cW k X S) (pR (some (.int (k_isInDiscountDays p1 X S))) (cW k X S)) := by
  refine MC.of 0 hl (by decide) (by simp only [lg_sl_vr, lg_sl_i, lg_sl_l, lg_sl_0]; exact Nat.le_of_ble_eq_true rfl) ?_
  intro p e s m args below meth c A Q G B B2 hout
  simp only [lp_args_vr, lp_args_i, lp_args_l, lp_args_0]
  show Wx p l e rm_X10_isInDiscountDays s m args below meth c k A 2 Q 0 0 0 [some ((vr X 11 0)), some ((vr X 3 p1))] [] (cW k X S)
  refine z_aload0 (pc := 0) G vr_r dX10_isInDiscountDays_0 ?_
  refine z_g (pc := 1) (f := 363) (x := 0) (v := (.int (ci S 363 0))) G kb_11 gb_X10_49 rfl hX.1 hX.l11 cr_363 dX10_isInDiscountDays_1 ?_
  refine z_aload1 (pc := 4) G vr_r dX10_isInDiscountDays_4 ?_
  refine z_g (pc := 5) (f := 109) (x := p1) (v := (.int (ci S 109 p1))) G kb_3 gb_X10_541 rfl hX.1 hp1 cr_109 dX10_isInDiscountDays_5 ?_
  refine z_aload1 (pc := 8) G vr_r dX10_isInDiscountDays_8 ?_
  refine z_g (pc := 9) (f := 98) (x := p1) (v := (vr X 9 (xi X 98 p1))) G kb_3 gb_X10_536 rfl hX.1 hp1 cr_98 dX10_isInDiscountDays_9 ?_
  refine z_g (pc := 12) (f := 293) (x := (xi X 98 p1)) (v := (.int (ci S 293 (xi X 98 p1)))) G kb_9 gb_X10_177 rfl hX.1 (hX.ivS hp1) cr_293 dX10_isInDiscountDays_12 ?_
  refine x_iadd (pc := 15) G dX10_isInDiscountDays_15 ?_
  refine x_icmp_gt (pc := 16) (tgt := 23) G dX10_isInDiscountDays_16 rfl (fun c1 => ?_) (fun c1 => ?_)
  · refine x_iconst (pc := 23) (v := 0) G dX10_isInDiscountDays_23 ic_0 ?_
    exact x_zret (pc := 24) G B rfl (by decide) dX10_isInDiscountDays_24 ⟨by rw [k_isInDiscountDays, if_pos c1], rfl⟩
  refine x_iconst (pc := 19) (v := 1) G dX10_isInDiscountDays_19 ic_1 ?_
  refine x_goto (pc := 20) (tgt := 24) G dX10_isInDiscountDays_20 rfl ?_
  exact x_zret (pc := 24) G B rfl (by decide) dX10_isInDiscountDays_24 ⟨by rw [k_isInDiscountDays, if_neg c1], rfl⟩
abbrev K_isInDiscountDays (p1 : Int32) (X : CX) (S : CT) : Prop := (k_isInDiscountDays p1 X S) = 1
theorem vk_isInDiscountDays {p1 : Int32} {X : CX} {S : CT} : (k_isInDiscountDays p1 X S) = if K_isInDiscountDays p1 X S then 1 else 0 := by
  have h : (k_isInDiscountDays p1 X S) = 0 ∨ (k_isInDiscountDays p1 X S) = 1 := by
    unfold k_isInDiscountDays
    repeat' split
    all_goals simp
  rcases h with h | h <;> simp [K_isInDiscountDays, h]
theorem bk_isInDiscountDays {l : Launch} {k : KC} (hl : l.stackTraces = false) {X : CX} {S : CT} (hX : XOK X) {p1 : Int32} (hp1 : lI X 3 p1)  : (K_isInDiscountDays p1 X S → MC l k yX10_isInDiscountDays (.code yX10_isInDiscountDays cX10_isInDiscountDays 2 (some .boolean)) rm_X10_isInDiscountDays [(vr X 11 0), (vr X 3 p1)] (cW k X S) (pR (some (.int 1)) (cW k X S))) ∧ (¬ K_isInDiscountDays p1 X S → MC l k yX10_isInDiscountDays (.code yX10_isInDiscountDays cX10_isInDiscountDays 2 (some .boolean)) rm_X10_isInDiscountDays [(vr X 11 0), (vr X 3 p1)] (cW k X S) (pR (some (.int 0)) (cW k X S))) := MC.bool (by rw [← vk_isInDiscountDays]; exact ck_isInDiscountDays hl hX hp1)
theorem dX10_isToPay_0 : decode cX10_isToPay 0 = .ok (.aload_n 1, 1) := by decide +kernel
theorem dX10_isToPay_1 : decode cX10_isToPay 1 = .ok (.getfield 353, 3) := by decide +kernel
theorem dX10_isToPay_4 : decode cX10_isToPay 4 = .ok (.iconst 1, 1) := by decide +kernel
theorem dX10_isToPay_5 : decode cX10_isToPay 5 = .ok (.if_icmp .ne 10, 3) := by decide +kernel
theorem dX10_isToPay_8 : decode cX10_isToPay 8 = .ok (.aload_n 1, 1) := by decide +kernel
theorem dX10_isToPay_9 : decode cX10_isToPay 9 = .ok (.getfield 386, 3) := by decide +kernel
theorem dX10_isToPay_12 : decode cX10_isToPay 12 = .ok (.ifCond .eq 5, 3) := by decide +kernel
theorem dX10_isToPay_15 : decode cX10_isToPay 15 = .ok (.iconst 0, 1) := by decide +kernel
theorem dX10_isToPay_16 : decode cX10_isToPay 16 = .ok (.ireturn, 1) := by decide +kernel
theorem dX10_isToPay_17 : decode cX10_isToPay 17 = .ok (.iload_n 3, 1) := by decide +kernel
theorem dX10_isToPay_18 : decode cX10_isToPay 18 = .ok (.ifCond .eq 25, 3) := by decide +kernel
theorem dX10_isToPay_21 : decode cX10_isToPay 21 = .ok (.aload_n 1, 1) := by decide +kernel
theorem dX10_isToPay_22 : decode cX10_isToPay 22 = .ok (.getfield 536, 3) := by decide +kernel
theorem dX10_isToPay_25 : decode cX10_isToPay 25 = .ok (.getfield 174, 3) := by decide +kernel
theorem dX10_isToPay_28 : decode cX10_isToPay 28 = .ok (.ifCond .le 15, 3) := by decide +kernel
theorem dX10_isToPay_31 : decode cX10_isToPay 31 = .ok (.aload_n 0, 1) := by decide +kernel
theorem dX10_isToPay_32 : decode cX10_isToPay 32 = .ok (.aload_n 1, 1) := by decide +kernel
theorem dX10_isToPay_33 : decode cX10_isToPay 33 = .ok (.invokevirtual 554, 3) := by decide +kernel
theorem dX10_isToPay_36 : decode cX10_isToPay 36 = .ok (.ifCond .eq 7, 3) := by decide +kernel
theorem dX10_isToPay_39 : decode cX10_isToPay 39 = .ok (.iconst 1, 1) := by decide +kernel
theorem dX10_isToPay_40 : decode cX10_isToPay 40 = .ok (.goto 4, 3) := by decide +kernel
theorem dX10_isToPay_43 : decode cX10_isToPay 43 = .ok (.iconst 0, 1) := by decide +kernel
theorem dX10_isToPay_44 : decode cX10_isToPay 44 = .ok (.istore 4, 2) := by decide +kernel
theorem dX10_isToPay_46 : decode cX10_isToPay 46 = .ok (.aload_n 1, 1) := by decide +kernel
theorem dX10_isToPay_47 : decode cX10_isToPay 47 = .ok (.getfield 470, 3) := by decide +kernel
theorem dX10_isToPay_50 : decode cX10_isToPay 50 = .ok (.iload_n 2, 1) := by decide +kernel
theorem dX10_isToPay_51 : decode cX10_isToPay 51 = .ok (.if_icmp .le 8, 3) := by decide +kernel
theorem dX10_isToPay_54 : decode cX10_isToPay 54 = .ok (.iload 4, 2) := by decide +kernel
theorem dX10_isToPay_56 : decode cX10_isToPay 56 = .ok (.ifCond .eq 7, 3) := by decide +kernel
theorem dX10_isToPay_59 : decode cX10_isToPay 59 = .ok (.iconst 1, 1) := by decide +kernel
theorem dX10_isToPay_60 : decode cX10_isToPay 60 = .ok (.goto 4, 3) := by decide +kernel
theorem dX10_isToPay_63 : decode cX10_isToPay 63 = .ok (.iconst 0, 1) := by decide +kernel
theorem dX10_isToPay_64 : decode cX10_isToPay 64 = .ok (.ireturn, 1) := by decide +kernel
def k_isToPay (p1 : Int32) (p2 : Int32) (p3 : Int32) (X : CX) (S : CT) : Int32 :=
    if (ci S 102 p1) = 1 then
      if (ci S 111 p1) = 0 then
        if p3 = 0 then
          if (ci S 110 p1) ≤ p2 then
            1
          else
          0
        else
        if (ci S 292 (xi X 98 p1)) ≤ 0 then
          if (ci S 110 p1) ≤ p2 then
            1
          else
          0
        else
        if K_isInDiscountDays p1 X S then
          if (ci S 110 p1) ≤ p2 then
            1
          else
          1
        else
        if (ci S 110 p1) ≤ p2 then
          1
        else
        0
      else
      0
    else
    0
abbrev rm_X10_isToPay : Room := { frames := 1, cells := 0, slots := 0, locals := 21 }
set_option maxRecDepth 100000 in
set_option maxHeartbeats 4000000 in
theorem ck_isToPay {l : Launch} {k : KC} (hl : l.stackTraces = false) {X : CX} {S : CT} (hX : XOK X) {p1 : Int32} {p2 : Int32} {p3 : Int32} (hp1 : lI X 3 p1)  : MC l k yX10_isToPay (.code yX10_isToPay cX10_isToPay 5 (some .boolean)) rm_X10_isToPay [(vr X 11 0), (vr X 3 p1), .int p2, .int p3] (cW k X S) (pR (some (.int (k_isToPay p1 p2 p3 X S))) (cW k X S)) := by
  refine MC.of 1 hl (by decide) (by simp only [lg_sl_vr, lg_sl_i, lg_sl_l, lg_sl_0]; exact Nat.le_of_ble_eq_true rfl) ?_
  intro p e s m args below meth c A Q G B B2 hout
  simp only [lp_args_vr, lp_args_i, lp_args_l, lp_args_0]
  show Wx p l e rm_X10_isToPay s m args below meth c k A 5 Q 0 0 0 [some ((vr X 11 0)), some ((vr X 3 p1)), some (.int p2), some (.int p3), none] [] (cW k X S)
  refine z_aload1 (pc := 0) G vr_r dX10_isToPay_0 ?_
  refine z_g (pc := 1) (f := 102) (x := p1) (v := (.int (ci S 102 p1))) G kb_3 gb_X10_353 rfl hX.1 hp1 cr_102 dX10_isToPay_1 ?_
  refine x_iconst (pc := 4) (v := 1) G dX10_isToPay_4 ic_1 ?_
  refine x_icmp_ne (pc := 5) (tgt := 15) G dX10_isToPay_5 rfl (fun c1 => ?_) (fun c1 => ?_)
  · refine x_iconst (pc := 15) (v := 0) G dX10_isToPay_15 ic_0 ?_
    exact x_zret (pc := 16) G B rfl (by decide) dX10_isToPay_16 ⟨by rw [k_isToPay, if_neg c1], rfl⟩
  refine z_aload1 (pc := 8) G vr_r dX10_isToPay_8 ?_
  refine z_g (pc := 9) (f := 111) (x := p1) (v := (.int (ci S 111 p1))) G kb_3 gb_X10_386 rfl hX.1 hp1 cr_111 dX10_isToPay_9 ?_
  refine x_if_eq (pc := 12) (y := 0) (tgt := 17) G dX10_isToPay_12 rfl (fun c2 => ?_) (fun c2 => ?_)
  · refine x_iload3 (pc := 17) G dX10_isToPay_17 ?_
    refine x_if_eq (pc := 18) (y := 0) (tgt := 43) G dX10_isToPay_18 rfl (fun c3 => ?_) (fun c3 => ?_)
    · refine x_iconst (pc := 43) (v := 0) G dX10_isToPay_43 ic_0 ?_
      refine x_istore4 (pc := 44) G dX10_isToPay_44 (Nat.le_of_ble_eq_true rfl) rfl ?_
      refine z_aload1 (pc := 46) G vr_r dX10_isToPay_46 ?_
      refine z_g (pc := 47) (f := 110) (x := p1) (v := (.int (ci S 110 p1))) G kb_3 gb_X10_470 rfl hX.1 hp1 cr_110 dX10_isToPay_47 ?_
      refine x_iload2 (pc := 50) G dX10_isToPay_50 ?_
      refine x_icmp_le (pc := 51) (tgt := 59) G dX10_isToPay_51 rfl (fun c4 => ?_) (fun c4 => ?_)
      · refine x_iconst (pc := 59) (v := 1) G dX10_isToPay_59 ic_1 ?_
        refine x_goto (pc := 60) (tgt := 64) G dX10_isToPay_60 rfl ?_
        exact x_zret (pc := 64) G B rfl (by decide) dX10_isToPay_64 ⟨by rw [k_isToPay, if_pos c1, if_pos c2, if_pos c3, if_pos c4], rfl⟩
      refine x_iload4 (pc := 54) G dX10_isToPay_54 ?_
      refine x_if_eq (pc := 56) (y := 0) (tgt := 63) G dX10_isToPay_56 rfl (fun _ => ?_) (fun q => absurd q (by decide))
      refine x_iconst (pc := 63) (v := 0) G dX10_isToPay_63 ic_0 ?_
      exact x_zret (pc := 64) G B rfl (by decide) dX10_isToPay_64 ⟨by rw [k_isToPay, if_pos c1, if_pos c2, if_pos c3, if_neg c4], rfl⟩
    refine z_aload1 (pc := 21) G vr_r dX10_isToPay_21 ?_
    refine z_g (pc := 22) (f := 98) (x := p1) (v := (vr X 9 (xi X 98 p1))) G kb_3 gb_X10_536 rfl hX.1 hp1 cr_98 dX10_isToPay_22 ?_
    refine z_g (pc := 25) (f := 292) (x := (xi X 98 p1)) (v := (.int (ci S 292 (xi X 98 p1)))) G kb_9 gb_X10_174 rfl hX.1 (hX.ivS hp1) cr_292 dX10_isToPay_25 ?_
    refine x_if_le (pc := 28) (y := 0) (tgt := 43) G dX10_isToPay_28 rfl (fun c5 => ?_) (fun c5 => ?_)
    · refine x_iconst (pc := 43) (v := 0) G dX10_isToPay_43 ic_0 ?_
      refine x_istore4 (pc := 44) G dX10_isToPay_44 (Nat.le_of_ble_eq_true rfl) rfl ?_
      refine z_aload1 (pc := 46) G vr_r dX10_isToPay_46 ?_
      refine z_g (pc := 47) (f := 110) (x := p1) (v := (.int (ci S 110 p1))) G kb_3 gb_X10_470 rfl hX.1 hp1 cr_110 dX10_isToPay_47 ?_
      refine x_iload2 (pc := 50) G dX10_isToPay_50 ?_
      refine x_icmp_le (pc := 51) (tgt := 59) G dX10_isToPay_51 rfl (fun c6 => ?_) (fun c6 => ?_)
      · refine x_iconst (pc := 59) (v := 1) G dX10_isToPay_59 ic_1 ?_
        refine x_goto (pc := 60) (tgt := 64) G dX10_isToPay_60 rfl ?_
        exact x_zret (pc := 64) G B rfl (by decide) dX10_isToPay_64 ⟨by rw [k_isToPay, if_pos c1, if_pos c2, if_neg c3, if_pos c5, if_pos c6], rfl⟩
      refine x_iload4 (pc := 54) G dX10_isToPay_54 ?_
      refine x_if_eq (pc := 56) (y := 0) (tgt := 63) G dX10_isToPay_56 rfl (fun _ => ?_) (fun q => absurd q (by decide))
      refine x_iconst (pc := 63) (v := 0) G dX10_isToPay_63 ic_0 ?_
      exact x_zret (pc := 64) G B rfl (by decide) dX10_isToPay_64 ⟨by rw [k_isToPay, if_pos c1, if_pos c2, if_neg c3, if_pos c5, if_neg c6], rfl⟩
    refine z_aload0 (pc := 31) G vr_r dX10_isToPay_31 ?_
    refine z_aload1 (pc := 32) G vr_r dX10_isToPay_32 ?_
    refine z_cVb1 (pc := 33) G kb_11 hX.1 hX.l11 (bk_isInDiscountDays hl hX hp1 ) rfl q_ml_X10_554 h_X10_isInDiscountDays ⟨Nat.le_of_ble_eq_true rfl, Nat.le_of_ble_eq_true rfl⟩ (Nat.le_of_ble_eq_true rfl) (Nat.le_refl _) (Nat.le_refl _) dX10_isToPay_33 (fun c7 => ?_) (fun c7 => ?_)
    · refine x_if_eq (pc := 36) (y := 0) (tgt := 43) G dX10_isToPay_36 rfl (fun q => absurd q (by decide)) (fun _ => ?_)
      refine x_iconst (pc := 39) (v := 1) G dX10_isToPay_39 ic_1 ?_
      refine x_goto (pc := 40) (tgt := 44) G dX10_isToPay_40 rfl ?_
      refine x_istore4 (pc := 44) G dX10_isToPay_44 (Nat.le_of_ble_eq_true rfl) rfl ?_
      refine z_aload1 (pc := 46) G vr_r dX10_isToPay_46 ?_
      refine z_g (pc := 47) (f := 110) (x := p1) (v := (.int (ci S 110 p1))) G kb_3 gb_X10_470 rfl hX.1 hp1 cr_110 dX10_isToPay_47 ?_
      refine x_iload2 (pc := 50) G dX10_isToPay_50 ?_
      refine x_icmp_le (pc := 51) (tgt := 59) G dX10_isToPay_51 rfl (fun c8 => ?_) (fun c8 => ?_)
      · refine x_iconst (pc := 59) (v := 1) G dX10_isToPay_59 ic_1 ?_
        refine x_goto (pc := 60) (tgt := 64) G dX10_isToPay_60 rfl ?_
        exact x_zret (pc := 64) G B rfl (by decide) dX10_isToPay_64 ⟨by rw [k_isToPay, if_pos c1, if_pos c2, if_neg c3, if_neg c5, if_pos c7, if_pos c8], rfl⟩
      refine x_iload4 (pc := 54) G dX10_isToPay_54 ?_
      refine x_if_eq (pc := 56) (y := 0) (tgt := 63) G dX10_isToPay_56 rfl (fun q => absurd q (by decide)) (fun _ => ?_)
      refine x_iconst (pc := 59) (v := 1) G dX10_isToPay_59 ic_1 ?_
      refine x_goto (pc := 60) (tgt := 64) G dX10_isToPay_60 rfl ?_
      exact x_zret (pc := 64) G B rfl (by decide) dX10_isToPay_64 ⟨by rw [k_isToPay, if_pos c1, if_pos c2, if_neg c3, if_neg c5, if_pos c7, if_neg c8], rfl⟩
    refine x_if_eq (pc := 36) (y := 0) (tgt := 43) G dX10_isToPay_36 rfl (fun _ => ?_) (fun q => absurd q (by decide))
    refine x_iconst (pc := 43) (v := 0) G dX10_isToPay_43 ic_0 ?_
    refine x_istore4 (pc := 44) G dX10_isToPay_44 (Nat.le_of_ble_eq_true rfl) rfl ?_
    refine z_aload1 (pc := 46) G vr_r dX10_isToPay_46 ?_
    refine z_g (pc := 47) (f := 110) (x := p1) (v := (.int (ci S 110 p1))) G kb_3 gb_X10_470 rfl hX.1 hp1 cr_110 dX10_isToPay_47 ?_
    refine x_iload2 (pc := 50) G dX10_isToPay_50 ?_
    refine x_icmp_le (pc := 51) (tgt := 59) G dX10_isToPay_51 rfl (fun c9 => ?_) (fun c9 => ?_)
    · refine x_iconst (pc := 59) (v := 1) G dX10_isToPay_59 ic_1 ?_
      refine x_goto (pc := 60) (tgt := 64) G dX10_isToPay_60 rfl ?_
      exact x_zret (pc := 64) G B rfl (by decide) dX10_isToPay_64 ⟨by rw [k_isToPay, if_pos c1, if_pos c2, if_neg c3, if_neg c5, if_neg c7, if_pos c9], rfl⟩
    refine x_iload4 (pc := 54) G dX10_isToPay_54 ?_
    refine x_if_eq (pc := 56) (y := 0) (tgt := 63) G dX10_isToPay_56 rfl (fun _ => ?_) (fun q => absurd q (by decide))
    refine x_iconst (pc := 63) (v := 0) G dX10_isToPay_63 ic_0 ?_
    exact x_zret (pc := 64) G B rfl (by decide) dX10_isToPay_64 ⟨by rw [k_isToPay, if_pos c1, if_pos c2, if_neg c3, if_neg c5, if_neg c7, if_neg c9], rfl⟩
  refine x_iconst (pc := 15) (v := 0) G dX10_isToPay_15 ic_0 ?_
  exact x_zret (pc := 16) G B rfl (by decide) dX10_isToPay_16 ⟨by rw [k_isToPay, if_pos c1, if_neg c2], rfl⟩
abbrev K_isToPay (p1 : Int32) (p2 : Int32) (p3 : Int32) (X : CX) (S : CT) : Prop := (k_isToPay p1 p2 p3 X S) = 1
theorem vk_isToPay {p1 : Int32} {p2 : Int32} {p3 : Int32} {X : CX} {S : CT} : (k_isToPay p1 p2 p3 X S) = if K_isToPay p1 p2 p3 X S then 1 else 0 := by
  have h : (k_isToPay p1 p2 p3 X S) = 0 ∨ (k_isToPay p1 p2 p3 X S) = 1 := by
    unfold k_isToPay
    repeat' split
    all_goals simp
  rcases h with h | h <;> simp [K_isToPay, h]
theorem bk_isToPay {l : Launch} {k : KC} (hl : l.stackTraces = false) {X : CX} {S : CT} (hX : XOK X) {p1 : Int32} {p2 : Int32} {p3 : Int32} (hp1 : lI X 3 p1)  : (K_isToPay p1 p2 p3 X S → MC l k yX10_isToPay (.code yX10_isToPay cX10_isToPay 5 (some .boolean)) rm_X10_isToPay [(vr X 11 0), (vr X 3 p1), .int p2, .int p3] (cW k X S) (pR (some (.int 1)) (cW k X S))) ∧ (¬ K_isToPay p1 p2 p3 X S → MC l k yX10_isToPay (.code yX10_isToPay cX10_isToPay 5 (some .boolean)) rm_X10_isToPay [(vr X 11 0), (vr X 3 p1), .int p2, .int p3] (cW k X S) (pR (some (.int 0)) (cW k X S))) := MC.bool (by rw [← vk_isToPay]; exact ck_isToPay hl hX hp1)
theorem dX10_allowance_0 : decode cX10_allowance 0 = .ok (.iload_n 0, 1) := by decide +kernel
theorem dX10_allowance_1 : decode cX10_allowance 1 = .ok (.iconst 2, 1) := by decide +kernel
theorem dX10_allowance_2 : decode cX10_allowance 2 = .ok (.idiv, 1) := by decide +kernel
theorem dX10_allowance_3 : decode cX10_allowance 3 = .ok (.istore 4, 2) := by decide +kernel
theorem dX10_allowance_5 : decode cX10_allowance 5 = .ok (.iload_n 1, 1) := by decide +kernel
theorem dX10_allowance_6 : decode cX10_allowance 6 = .ok (.iconst 1, 1) := by decide +kernel
theorem dX10_allowance_7 : decode cX10_allowance 7 = .ok (.if_icmp .ne 8, 3) := by decide +kernel
theorem dX10_allowance_10 : decode cX10_allowance 10 = .ok (.iload 4, 2) := by decide +kernel
theorem dX10_allowance_12 : decode cX10_allowance 12 = .ok (.goto 13, 3) := by decide +kernel
theorem dX10_allowance_15 : decode cX10_allowance 15 = .ok (.iload_n 1, 1) := by decide +kernel
theorem dX10_allowance_16 : decode cX10_allowance 16 = .ok (.iconst 2, 1) := by decide +kernel
theorem dX10_allowance_17 : decode cX10_allowance 17 = .ok (.isub, 1) := by decide +kernel
theorem dX10_allowance_18 : decode cX10_allowance 18 = .ok (.iload_n 0, 1) := by decide +kernel
theorem dX10_allowance_19 : decode cX10_allowance 19 = .ok (.imul, 1) := by decide +kernel
theorem dX10_allowance_20 : decode cX10_allowance 20 = .ok (.iconst 2, 1) := by decide +kernel
theorem dX10_allowance_21 : decode cX10_allowance 21 = .ok (.iload 4, 2) := by decide +kernel
theorem dX10_allowance_23 : decode cX10_allowance 23 = .ok (.imul, 1) := by decide +kernel
theorem dX10_allowance_24 : decode cX10_allowance 24 = .ok (.iadd, 1) := by decide +kernel
theorem dX10_allowance_25 : decode cX10_allowance 25 = .ok (.istore 5, 2) := by decide +kernel
theorem dX10_allowance_27 : decode cX10_allowance 27 = .ok (.iload_n 2, 1) := by decide +kernel
theorem dX10_allowance_28 : decode cX10_allowance 28 = .ok (.iload_n 0, 1) := by decide +kernel
theorem dX10_allowance_29 : decode cX10_allowance 29 = .ok (.bipush 20, 2) := by decide +kernel
theorem dX10_allowance_31 : decode cX10_allowance 31 = .ok (.imul, 1) := by decide +kernel
theorem dX10_allowance_32 : decode cX10_allowance 32 = .ok (.bipush 100, 2) := by decide +kernel
theorem dX10_allowance_34 : decode cX10_allowance 34 = .ok (.idiv, 1) := by decide +kernel
theorem dX10_allowance_35 : decode cX10_allowance 35 = .ok (.imul, 1) := by decide +kernel
theorem dX10_allowance_36 : decode cX10_allowance 36 = .ok (.iload_n 3, 1) := by decide +kernel
theorem dX10_allowance_37 : decode cX10_allowance 37 = .ok (.iload_n 0, 1) := by decide +kernel
theorem dX10_allowance_38 : decode cX10_allowance 38 = .ok (.bipush 40, 2) := by decide +kernel
theorem dX10_allowance_40 : decode cX10_allowance 40 = .ok (.imul, 1) := by decide +kernel
theorem dX10_allowance_41 : decode cX10_allowance 41 = .ok (.bipush 100, 2) := by decide +kernel
theorem dX10_allowance_43 : decode cX10_allowance 43 = .ok (.idiv, 1) := by decide +kernel
theorem dX10_allowance_44 : decode cX10_allowance 44 = .ok (.imul, 1) := by decide +kernel
theorem dX10_allowance_45 : decode cX10_allowance 45 = .ok (.iadd, 1) := by decide +kernel
theorem dX10_allowance_46 : decode cX10_allowance 46 = .ok (.istore 6, 2) := by decide +kernel
theorem dX10_allowance_48 : decode cX10_allowance 48 = .ok (.iconst 0, 1) := by decide +kernel
theorem dX10_allowance_49 : decode cX10_allowance 49 = .ok (.iload 5, 2) := by decide +kernel
theorem dX10_allowance_51 : decode cX10_allowance 51 = .ok (.iload 6, 2) := by decide +kernel
theorem dX10_allowance_53 : decode cX10_allowance 53 = .ok (.isub, 1) := by decide +kernel
theorem dX10_allowance_54 : decode cX10_allowance 54 = .ok (.invokestatic 562, 3) := by decide +kernel
theorem dX10_allowance_57 : decode cX10_allowance 57 = .ok (.i2l, 1) := by decide +kernel
theorem dX10_allowance_58 : decode cX10_allowance 58 = .ok (.lreturn, 1) := by decide +kernel
def k_allowance (p1 : Int32) (p2 : Int32) (p3 : Int32) (p4 : Int32) (X : CX) (S : CT) : Int64 :=
    if p2 = 1 then
      ((if 0 < ((p1 / 2) - ((p3 * ((p1 * 20) / 100)) + (p4 * ((p1 * 40) / 100)))) then ((p1 / 2) - ((p3 * ((p1 * 20) / 100)) + (p4 * ((p1 * 40) / 100)))) else 0).toInt64)
    else
    ((if 0 < ((((p2 - 2) * p1) + (2 * (p1 / 2))) - ((p3 * ((p1 * 20) / 100)) + (p4 * ((p1 * 40) / 100)))) then ((((p2 - 2) * p1) + (2 * (p1 / 2))) - ((p3 * ((p1 * 20) / 100)) + (p4 * ((p1 * 40) / 100)))) else 0).toInt64)
abbrev rm_X10_allowance : Room := { frames := 1, cells := 0, slots := 0, locals := 30 }
set_option maxRecDepth 100000 in
set_option maxHeartbeats 4000000 in
theorem ck_allowance {l : Launch} {k : KC} (hl : l.stackTraces = false) {X : CX} {S : CT} (hX : XOK X) {p1 : Int32} {p2 : Int32} {p3 : Int32} {p4 : Int32}  : MC l k yX10_allowance (.code yX10_allowance cX10_allowance 7 (some .long)) rm_X10_allowance [.int p1, .int p2, .int p3, .int p4] (cW k X S) (pR (some (.long (k_allowance p1 p2 p3 p4 X S))) (cW k X S)) := by
  refine MC.of 3 hl (by decide) (by simp only [lg_sl_vr, lg_sl_i, lg_sl_l, lg_sl_0]; exact Nat.le_of_ble_eq_true rfl) ?_
  intro p e s m args below meth c A Q G B B2 hout
  simp only [lp_args_vr, lp_args_i, lp_args_l, lp_args_0]
  show Wx p l e rm_X10_allowance s m args below meth c k A 7 Q 0 0 0 [some (.int p1), some (.int p2), some (.int p3), some (.int p4), none, none, none] [] (cW k X S)
  refine x_iload0 (pc := 0) G dX10_allowance_0 ?_
  refine x_iconst (pc := 1) (v := 2) G dX10_allowance_1 ic_2 ?_
  refine x_idiv (pc := 2) G dX10_allowance_2 (by decide) ?_
  refine x_istore4 (pc := 3) G dX10_allowance_3 (Nat.le_of_ble_eq_true rfl) rfl ?_
  refine x_iload1 (pc := 5) G dX10_allowance_5 ?_
  refine x_iconst (pc := 6) (v := 1) G dX10_allowance_6 ic_1 ?_
  refine x_icmp_ne (pc := 7) (tgt := 15) G dX10_allowance_7 rfl (fun c1 => ?_) (fun c1 => ?_)
  · refine x_iload1 (pc := 15) G dX10_allowance_15 ?_
    refine x_iconst (pc := 16) (v := 2) G dX10_allowance_16 ic_2 ?_
    refine x_isub (pc := 17) G dX10_allowance_17 ?_
    refine x_iload0 (pc := 18) G dX10_allowance_18 ?_
    refine x_imul (pc := 19) G dX10_allowance_19 ?_
    refine x_iconst (pc := 20) (v := 2) G dX10_allowance_20 ic_2 ?_
    refine x_iload4 (pc := 21) G dX10_allowance_21 ?_
    refine x_imul (pc := 23) G dX10_allowance_23 ?_
    refine x_iadd (pc := 24) G dX10_allowance_24 ?_
    refine x_istore5 (pc := 25) G dX10_allowance_25 (Nat.le_of_ble_eq_true rfl) rfl ?_
    refine x_iload2 (pc := 27) G dX10_allowance_27 ?_
    refine x_iload0 (pc := 28) G dX10_allowance_28 ?_
    refine x_bipush (pc := 29) (v := 20) G dX10_allowance_29 bp_20 ?_
    refine x_imul (pc := 31) G dX10_allowance_31 ?_
    refine x_bipush (pc := 32) (v := 100) G dX10_allowance_32 bp_100 ?_
    refine x_idiv (pc := 34) G dX10_allowance_34 (by decide) ?_
    refine x_imul (pc := 35) G dX10_allowance_35 ?_
    refine x_iload3 (pc := 36) G dX10_allowance_36 ?_
    refine x_iload0 (pc := 37) G dX10_allowance_37 ?_
    refine x_bipush (pc := 38) (v := 40) G dX10_allowance_38 bp_40 ?_
    refine x_imul (pc := 40) G dX10_allowance_40 ?_
    refine x_bipush (pc := 41) (v := 100) G dX10_allowance_41 bp_100 ?_
    refine x_idiv (pc := 43) G dX10_allowance_43 (by decide) ?_
    refine x_imul (pc := 44) G dX10_allowance_44 ?_
    refine x_iadd (pc := 45) G dX10_allowance_45 ?_
    refine x_istore6 (pc := 46) G dX10_allowance_46 (Nat.le_of_ble_eq_true rfl) rfl ?_
    refine x_iconst (pc := 48) (v := 0) G dX10_allowance_48 ic_0 ?_
    refine x_iload5 (pc := 49) G dX10_allowance_49 ?_
    refine x_iload6 (pc := 51) G dX10_allowance_51 ?_
    refine x_isub (pc := 53) G dX10_allowance_53 ?_
    refine x_mmax (pc := 54) G q_ml_X10_562 q_st_max q_in_J9 q_co_max (Nat.le_of_ble_eq_true rfl) (Nat.le_of_ble_eq_true rfl) dX10_allowance_54 ?_
    refine x_i2l (pc := 57) G dX10_allowance_57 ?_
    exact x_lret (pc := 58) G B rfl dX10_allowance_58 ⟨by rw [k_allowance, if_neg c1], rfl⟩
  refine x_iload4 (pc := 10) G dX10_allowance_10 ?_
  refine x_goto (pc := 12) (tgt := 25) G dX10_allowance_12 rfl ?_
  refine x_istore5 (pc := 25) G dX10_allowance_25 (Nat.le_of_ble_eq_true rfl) rfl ?_
  refine x_iload2 (pc := 27) G dX10_allowance_27 ?_
  refine x_iload0 (pc := 28) G dX10_allowance_28 ?_
  refine x_bipush (pc := 29) (v := 20) G dX10_allowance_29 bp_20 ?_
  refine x_imul (pc := 31) G dX10_allowance_31 ?_
  refine x_bipush (pc := 32) (v := 100) G dX10_allowance_32 bp_100 ?_
  refine x_idiv (pc := 34) G dX10_allowance_34 (by decide) ?_
  refine x_imul (pc := 35) G dX10_allowance_35 ?_
  refine x_iload3 (pc := 36) G dX10_allowance_36 ?_
  refine x_iload0 (pc := 37) G dX10_allowance_37 ?_
  refine x_bipush (pc := 38) (v := 40) G dX10_allowance_38 bp_40 ?_
  refine x_imul (pc := 40) G dX10_allowance_40 ?_
  refine x_bipush (pc := 41) (v := 100) G dX10_allowance_41 bp_100 ?_
  refine x_idiv (pc := 43) G dX10_allowance_43 (by decide) ?_
  refine x_imul (pc := 44) G dX10_allowance_44 ?_
  refine x_iadd (pc := 45) G dX10_allowance_45 ?_
  refine x_istore6 (pc := 46) G dX10_allowance_46 (Nat.le_of_ble_eq_true rfl) rfl ?_
  refine x_iconst (pc := 48) (v := 0) G dX10_allowance_48 ic_0 ?_
  refine x_iload5 (pc := 49) G dX10_allowance_49 ?_
  refine x_iload6 (pc := 51) G dX10_allowance_51 ?_
  refine x_isub (pc := 53) G dX10_allowance_53 ?_
  refine x_mmax (pc := 54) G q_ml_X10_562 q_st_max q_in_J9 q_co_max (Nat.le_of_ble_eq_true rfl) (Nat.le_of_ble_eq_true rfl) dX10_allowance_54 ?_
  refine x_i2l (pc := 57) G dX10_allowance_57 ?_
  exact x_lret (pc := 58) G B rfl dX10_allowance_58 ⟨by rw [k_allowance, if_pos c1], rfl⟩
theorem dX10_carryOver_0 : decode cX10_carryOver 0 = .ok (.aload_n 1, 1) := by decide +kernel
theorem dX10_carryOver_1 : decode cX10_carryOver 1 = .ok (.getfield 442, 3) := by decide +kernel
theorem dX10_carryOver_4 : decode cX10_carryOver 4 = .ok (.lstore_n 3, 1) := by decide +kernel
theorem dX10_carryOver_5 : decode cX10_carryOver 5 = .ok (.aload_n 1, 1) := by decide +kernel
theorem dX10_carryOver_6 : decode cX10_carryOver 6 = .ok (.lconst 0, 1) := by decide +kernel
theorem dX10_carryOver_7 : decode cX10_carryOver 7 = .ok (.putfield 442, 3) := by decide +kernel
theorem dX10_carryOver_10 : decode cX10_carryOver 10 = .ok (.aload_n 1, 1) := by decide +kernel
theorem dX10_carryOver_11 : decode cX10_carryOver 11 = .ok (.dup, 1) := by decide +kernel
theorem dX10_carryOver_12 : decode cX10_carryOver 12 = .ok (.getfield 131, 3) := by decide +kernel
theorem dX10_carryOver_15 : decode cX10_carryOver 15 = .ok (.lload_n 3, 1) := by decide +kernel
theorem dX10_carryOver_16 : decode cX10_carryOver 16 = .ok (.lsub, 1) := by decide +kernel
theorem dX10_carryOver_17 : decode cX10_carryOver 17 = .ok (.putfield 131, 3) := by decide +kernel
theorem dX10_carryOver_20 : decode cX10_carryOver 20 = .ok (.aload_n 2, 1) := by decide +kernel
theorem dX10_carryOver_21 : decode cX10_carryOver 21 = .ok (.dup, 1) := by decide +kernel
theorem dX10_carryOver_22 : decode cX10_carryOver 22 = .ok (.getfield 442, 3) := by decide +kernel
theorem dX10_carryOver_25 : decode cX10_carryOver 25 = .ok (.lload_n 3, 1) := by decide +kernel
theorem dX10_carryOver_26 : decode cX10_carryOver 26 = .ok (.ladd, 1) := by decide +kernel
theorem dX10_carryOver_27 : decode cX10_carryOver 27 = .ok (.putfield 442, 3) := by decide +kernel
theorem dX10_carryOver_30 : decode cX10_carryOver 30 = .ok (.aload_n 2, 1) := by decide +kernel
theorem dX10_carryOver_31 : decode cX10_carryOver 31 = .ok (.dup, 1) := by decide +kernel
theorem dX10_carryOver_32 : decode cX10_carryOver 32 = .ok (.getfield 131, 3) := by decide +kernel
theorem dX10_carryOver_35 : decode cX10_carryOver 35 = .ok (.lload_n 3, 1) := by decide +kernel
theorem dX10_carryOver_36 : decode cX10_carryOver 36 = .ok (.ladd, 1) := by decide +kernel
theorem dX10_carryOver_37 : decode cX10_carryOver 37 = .ok (.putfield 131, 3) := by decide +kernel
theorem dX10_carryOver_40 : decode cX10_carryOver 40 = .ok (.aload_n 1, 1) := by decide +kernel
theorem dX10_carryOver_41 : decode cX10_carryOver 41 = .ok (.invokevirtual 138, 3) := by decide +kernel
theorem dX10_carryOver_44 : decode cX10_carryOver 44 = .ok (.lstore 5, 2) := by decide +kernel
theorem dX10_carryOver_46 : decode cX10_carryOver 46 = .ok (.lload 5, 2) := by decide +kernel
theorem dX10_carryOver_48 : decode cX10_carryOver 48 = .ok (.lconst 0, 1) := by decide +kernel
theorem dX10_carryOver_49 : decode cX10_carryOver 49 = .ok (.lcmp, 1) := by decide +kernel
theorem dX10_carryOver_50 : decode cX10_carryOver 50 = .ok (.ifCond .le 39, 3) := by decide +kernel
theorem dX10_carryOver_53 : decode cX10_carryOver 53 = .ok (.lload 5, 2) := by decide +kernel
theorem dX10_carryOver_55 : decode cX10_carryOver 55 = .ok (.aload_n 0, 1) := by decide +kernel
theorem dX10_carryOver_56 : decode cX10_carryOver 56 = .ok (.getfield 53, 3) := by decide +kernel
theorem dX10_carryOver_59 : decode cX10_carryOver 59 = .ok (.i2l, 1) := by decide +kernel
theorem dX10_carryOver_60 : decode cX10_carryOver 60 = .ok (.lmul, 1) := by decide +kernel
theorem dX10_carryOver_61 : decode cX10_carryOver 61 = .ok (.ldc2_w 329, 3) := by decide +kernel
theorem dX10_carryOver_64 : decode cX10_carryOver 64 = .ok (.ldiv, 1) := by decide +kernel
theorem dX10_carryOver_65 : decode cX10_carryOver 65 = .ok (.lstore 7, 2) := by decide +kernel
theorem dX10_carryOver_67 : decode cX10_carryOver 67 = .ok (.aload_n 1, 1) := by decide +kernel
theorem dX10_carryOver_68 : decode cX10_carryOver 68 = .ok (.dup, 1) := by decide +kernel
theorem dX10_carryOver_69 : decode cX10_carryOver 69 = .ok (.getfield 131, 3) := by decide +kernel
theorem dX10_carryOver_72 : decode cX10_carryOver 72 = .ok (.lload 7, 2) := by decide +kernel
theorem dX10_carryOver_74 : decode cX10_carryOver 74 = .ok (.lsub, 1) := by decide +kernel
theorem dX10_carryOver_75 : decode cX10_carryOver 75 = .ok (.putfield 131, 3) := by decide +kernel
theorem dX10_carryOver_78 : decode cX10_carryOver 78 = .ok (.aload_n 2, 1) := by decide +kernel
theorem dX10_carryOver_79 : decode cX10_carryOver 79 = .ok (.dup, 1) := by decide +kernel
theorem dX10_carryOver_80 : decode cX10_carryOver 80 = .ok (.getfield 131, 3) := by decide +kernel
theorem dX10_carryOver_83 : decode cX10_carryOver 83 = .ok (.lload 7, 2) := by decide +kernel
theorem dX10_carryOver_85 : decode cX10_carryOver 85 = .ok (.ladd, 1) := by decide +kernel
theorem dX10_carryOver_86 : decode cX10_carryOver 86 = .ok (.putfield 131, 3) := by decide +kernel
theorem dX10_carryOver_89 : decode cX10_carryOver 89 = .ok (.return_, 1) := by decide +kernel
def k_carryOver (p1 : Int32) (p2 : Int32) (X : CX) (S : CT) : CT :=
    if (lg_cmp (k_free p1 X (sj (sj (sj (sj S 225 p1 0) 224 p1 ((cj S 224 p1) - (cj S 225 p1))) 225 p2 ((cj (sj S 225 p1 0) 225 p2) + (cj S 225 p1))) 224 p2 ((cj (sj (sj S 225 p1 0) 224 p1 ((cj S 224 p1) - (cj S 225 p1))) 224 p2) + (cj S 225 p1)))) 0) ≤ 0 then
      (sj (sj (sj (sj S 225 p1 0) 224 p1 ((cj S 224 p1) - (cj S 225 p1))) 225 p2 ((cj (sj S 225 p1 0) 225 p2) + (cj S 225 p1))) 224 p2 ((cj (sj (sj S 225 p1 0) 224 p1 ((cj S 224 p1) - (cj S 225 p1))) 224 p2) + (cj S 225 p1)))
    else
    (sj (sj (sj (sj (sj (sj S 225 p1 0) 224 p1 ((cj S 224 p1) - (cj S 225 p1))) 225 p2 ((cj (sj S 225 p1 0) 225 p2) + (cj S 225 p1))) 224 p2 ((cj (sj (sj S 225 p1 0) 224 p1 ((cj S 224 p1) - (cj S 225 p1))) 224 p2) + (cj S 225 p1))) 224 p1 ((cj (sj (sj (sj (sj S 225 p1 0) 224 p1 ((cj S 224 p1) - (cj S 225 p1))) 225 p2 ((cj (sj S 225 p1 0) 225 p2) + (cj S 225 p1))) 224 p2 ((cj (sj (sj S 225 p1 0) 224 p1 ((cj S 224 p1) - (cj S 225 p1))) 224 p2) + (cj S 225 p1))) 224 p1) - (((k_free p1 X (sj (sj (sj (sj S 225 p1 0) 224 p1 ((cj S 224 p1) - (cj S 225 p1))) 225 p2 ((cj (sj S 225 p1 0) 225 p2) + (cj S 225 p1))) 224 p2 ((cj (sj (sj S 225 p1 0) 224 p1 ((cj S 224 p1) - (cj S 225 p1))) 224 p2) + (cj S 225 p1)))) * ((ci S 364 0).toInt64)) / 100))) 224 p2 ((cj (sj (sj (sj (sj (sj S 225 p1 0) 224 p1 ((cj S 224 p1) - (cj S 225 p1))) 225 p2 ((cj (sj S 225 p1 0) 225 p2) + (cj S 225 p1))) 224 p2 ((cj (sj (sj S 225 p1 0) 224 p1 ((cj S 224 p1) - (cj S 225 p1))) 224 p2) + (cj S 225 p1))) 224 p1 ((cj (sj (sj (sj (sj S 225 p1 0) 224 p1 ((cj S 224 p1) - (cj S 225 p1))) 225 p2 ((cj (sj S 225 p1 0) 225 p2) + (cj S 225 p1))) 224 p2 ((cj (sj (sj S 225 p1 0) 224 p1 ((cj S 224 p1) - (cj S 225 p1))) 224 p2) + (cj S 225 p1))) 224 p1) - (((k_free p1 X (sj (sj (sj (sj S 225 p1 0) 224 p1 ((cj S 224 p1) - (cj S 225 p1))) 225 p2 ((cj (sj S 225 p1 0) 225 p2) + (cj S 225 p1))) 224 p2 ((cj (sj (sj S 225 p1 0) 224 p1 ((cj S 224 p1) - (cj S 225 p1))) 224 p2) + (cj S 225 p1)))) * ((ci S 364 0).toInt64)) / 100))) 224 p2) + (((k_free p1 X (sj (sj (sj (sj S 225 p1 0) 224 p1 ((cj S 224 p1) - (cj S 225 p1))) 225 p2 ((cj (sj S 225 p1 0) 225 p2) + (cj S 225 p1))) 224 p2 ((cj (sj (sj S 225 p1 0) 224 p1 ((cj S 224 p1) - (cj S 225 p1))) 224 p2) + (cj S 225 p1)))) * ((ci S 364 0).toInt64)) / 100)))
abbrev rm_X10_carryOver : Room := { frames := 1, cells := 0, slots := 0, locals := 20 }
set_option maxRecDepth 100000 in
set_option maxHeartbeats 4000000 in
theorem ck_carryOver {l : Launch} {k : KC} (hl : l.stackTraces = false) {X : CX} {S : CT} (hX : XOK X) {p1 : Int32} {p2 : Int32} (hp1 : lI X 7 p1) (hp2 : lI X 7 p2)  : MC l k yX10_carryOver (.code yX10_carryOver cX10_carryOver 9 none) rm_X10_carryOver [(vr X 11 0), (vr X 7 p1), (vr X 7 p2)] (cW k X S) (pR none (cW k X (k_carryOver p1 p2 X S))) := by
  refine MC.of 6 hl (by decide) (by simp only [lg_sl_vr, lg_sl_i, lg_sl_l, lg_sl_0]; exact Nat.le_of_ble_eq_true rfl) ?_
  intro p e s m args below meth c A Q G B B2 hout
  simp only [lp_args_vr, lp_args_i, lp_args_l, lp_args_0]
  show Wx p l e rm_X10_carryOver s m args below meth c k A 9 Q 0 0 0 [some ((vr X 11 0)), some ((vr X 7 p1)), some ((vr X 7 p2)), none, none, none, none, none, none] [] (cW k X S)
  refine z_aload1 (pc := 0) G vr_r dX10_carryOver_0 ?_
  refine z_g (pc := 1) (f := 225) (x := p1) (v := (.long (cj S 225 p1))) G kb_7 gb_X10_442 rfl hX.1 hp1 cr_225 dX10_carryOver_1 ?_
  refine x_lstore3 (pc := 4) G dX10_carryOver_4 (Nat.le_of_ble_eq_true rfl) lp_c2_vr ?_
  refine z_aload1 (pc := 5) G vr_r dX10_carryOver_5 ?_
  refine x_lconst (pc := 6) (v := 0) G dX10_carryOver_6 lc_0 ?_
  refine z_pJ (pc := 7) (f := 225) G kb_7 gb_X10_442 rfl hX.1 hp1 rfl (cr_225.trans (congrArg Value.long cj_ss)) rfl rfl dX10_carryOver_7 ?_
  refine z_aload1 (pc := 10) G vr_r dX10_carryOver_10 ?_
  refine x_dup (pc := 11) G dX10_carryOver_11 vr_cat ?_
  refine z_g (pc := 12) (f := 224) (x := p1) (v := (.long (cj S 224 p1))) G kb_7 gb_X10_131 rfl hX.1 hp1 (cr_224.trans (congrArg Value.long (cj_sn rfl))) dX10_carryOver_12 ?_
  refine x_lload3 (pc := 15) G dX10_carryOver_15 ?_
  refine x_lsub (pc := 16) G dX10_carryOver_16 ?_
  refine z_pJ (pc := 17) (f := 224) G kb_7 gb_X10_131 rfl hX.1 hp1 rfl (cr_224.trans (congrArg Value.long cj_ss)) rfl rfl dX10_carryOver_17 ?_
  refine z_aload2 (pc := 20) G vr_r dX10_carryOver_20 ?_
  refine x_dup (pc := 21) G dX10_carryOver_21 vr_cat ?_
  refine z_g (pc := 22) (f := 225) (x := p2) (v := (.long (cj (sj S 225 p1 0) 225 p2))) G kb_7 gb_X10_442 rfl hX.1 hp2 (cr_225.trans (congrArg Value.long (cj_sn rfl))) dX10_carryOver_22 ?_
  refine x_lload3 (pc := 25) G dX10_carryOver_25 ?_
  refine x_ladd (pc := 26) G dX10_carryOver_26 ?_
  refine z_pJ (pc := 27) (f := 225) G kb_7 gb_X10_442 rfl hX.1 hp2 rfl (cr_225.trans (congrArg Value.long cj_ss)) rfl rfl dX10_carryOver_27 ?_
  refine z_aload2 (pc := 30) G vr_r dX10_carryOver_30 ?_
  refine x_dup (pc := 31) G dX10_carryOver_31 vr_cat ?_
  refine z_g (pc := 32) (f := 224) (x := p2) (v := (.long (cj (sj (sj S 225 p1 0) 224 p1 ((cj S 224 p1) - (cj S 225 p1))) 224 p2))) G kb_7 gb_X10_131 rfl hX.1 hp2 (cr_224.trans (congrArg Value.long (cj_sn rfl))) dX10_carryOver_32 ?_
  refine x_lload3 (pc := 35) G dX10_carryOver_35 ?_
  refine x_ladd (pc := 36) G dX10_carryOver_36 ?_
  refine z_pJ (pc := 37) (f := 224) G kb_7 gb_X10_131 rfl hX.1 hp2 rfl (cr_224.trans (congrArg Value.long cj_ss)) rfl rfl dX10_carryOver_37 ?_
  refine z_aload1 (pc := 40) G vr_r dX10_carryOver_40 ?_
  refine z_cV0 (pc := 41) G kb_7 hX.1 hp1 (ck_free hl hX hp1 ) rfl q_ml_X10_138 h_X6_free ⟨Nat.le_of_ble_eq_true rfl, Nat.le_of_ble_eq_true rfl⟩ (Nat.le_of_ble_eq_true rfl) (Nat.le_refl _) (Nat.le_refl _) dX10_carryOver_41 ?_
  refine x_lstore5 (pc := 44) G dX10_carryOver_44 (Nat.le_of_ble_eq_true rfl) rfl ?_
  refine x_lload5 (pc := 46) G dX10_carryOver_46 ?_
  refine x_lconst (pc := 48) (v := 0) G dX10_carryOver_48 lc_0 ?_
  refine x_lcmp (pc := 49) G dX10_carryOver_49 ?_
  refine x_if_le (pc := 50) (y := 0) (tgt := 89) G dX10_carryOver_50 rfl (fun c1 => ?_) (fun c1 => ?_)
  · exact x_vret (pc := 89) G B rfl dX10_carryOver_89 ⟨rfl, by rw [k_carryOver, if_pos c1]⟩
  refine x_lload5 (pc := 53) G dX10_carryOver_53 ?_
  refine z_aload0 (pc := 55) G vr_r dX10_carryOver_55 ?_
  refine z_g (pc := 56) (f := 364) (x := 0) (v := (.int (ci S 364 0))) G kb_11 gb_X10_53 rfl hX.1 hX.l11 (cr_364.trans (congrArg Value.int (ci_j.trans (ci_j.trans (ci_j.trans ci_j))))) dX10_carryOver_56 ?_
  refine x_i2l (pc := 59) G dX10_carryOver_59 ?_
  refine x_lmul (pc := 60) G dX10_carryOver_60 ?_
  refine x_ldc2 (pc := 61) G q_cL_X10_329 dX10_carryOver_61 ?_
  refine x_ldiv (pc := 64) G dX10_carryOver_64 (by decide) ?_
  refine x_lstore7 (pc := 65) G dX10_carryOver_65 (Nat.le_of_ble_eq_true rfl) rfl ?_
  refine z_aload1 (pc := 67) G vr_r dX10_carryOver_67 ?_
  refine x_dup (pc := 68) G dX10_carryOver_68 vr_cat ?_
  refine z_g (pc := 69) (f := 224) (x := p1) (v := (.long (cj (sj (sj (sj (sj S 225 p1 0) 224 p1 ((cj S 224 p1) - (cj S 225 p1))) 225 p2 ((cj (sj S 225 p1 0) 225 p2) + (cj S 225 p1))) 224 p2 ((cj (sj (sj S 225 p1 0) 224 p1 ((cj S 224 p1) - (cj S 225 p1))) 224 p2) + (cj S 225 p1))) 224 p1))) G kb_7 gb_X10_131 rfl hX.1 hp1 cr_224 dX10_carryOver_69 ?_
  refine x_lload7 (pc := 72) G dX10_carryOver_72 ?_
  refine x_lsub (pc := 74) G dX10_carryOver_74 ?_
  refine z_pJ (pc := 75) (f := 224) G kb_7 gb_X10_131 rfl hX.1 hp1 rfl (cr_224.trans (congrArg Value.long cj_ss)) rfl rfl dX10_carryOver_75 ?_
  refine z_aload2 (pc := 78) G vr_r dX10_carryOver_78 ?_
  refine x_dup (pc := 79) G dX10_carryOver_79 vr_cat ?_
  refine z_g (pc := 80) (f := 224) (x := p2) (v := (.long (cj (sj (sj (sj (sj (sj S 225 p1 0) 224 p1 ((cj S 224 p1) - (cj S 225 p1))) 225 p2 ((cj (sj S 225 p1 0) 225 p2) + (cj S 225 p1))) 224 p2 ((cj (sj (sj S 225 p1 0) 224 p1 ((cj S 224 p1) - (cj S 225 p1))) 224 p2) + (cj S 225 p1))) 224 p1 ((cj (sj (sj (sj (sj S 225 p1 0) 224 p1 ((cj S 224 p1) - (cj S 225 p1))) 225 p2 ((cj (sj S 225 p1 0) 225 p2) + (cj S 225 p1))) 224 p2 ((cj (sj (sj S 225 p1 0) 224 p1 ((cj S 224 p1) - (cj S 225 p1))) 224 p2) + (cj S 225 p1))) 224 p1) - (((k_free p1 X (sj (sj (sj (sj S 225 p1 0) 224 p1 ((cj S 224 p1) - (cj S 225 p1))) 225 p2 ((cj (sj S 225 p1 0) 225 p2) + (cj S 225 p1))) 224 p2 ((cj (sj (sj S 225 p1 0) 224 p1 ((cj S 224 p1) - (cj S 225 p1))) 224 p2) + (cj S 225 p1)))) * ((ci S 364 0).toInt64)) / 100))) 224 p2))) G kb_7 gb_X10_131 rfl hX.1 hp2 cr_224 dX10_carryOver_80 ?_
  refine x_lload7 (pc := 83) G dX10_carryOver_83 ?_
  refine x_ladd (pc := 85) G dX10_carryOver_85 ?_
  refine z_pJ (pc := 86) (f := 224) G kb_7 gb_X10_131 rfl hX.1 hp2 rfl (cr_224.trans (congrArg Value.long cj_ss)) rfl rfl dX10_carryOver_86 ?_
  exact x_vret (pc := 89) G B rfl dX10_carryOver_89 ⟨rfl, by rw [k_carryOver, if_neg c1]⟩
