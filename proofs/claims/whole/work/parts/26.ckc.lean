theorem ty_of {X : CX} {S S' : CT} {c : Int32} (e : ci S' 363 0 = ci S 363 0) (h : P_num (k_thisYear X S) c) : P_num (k_thisYear X S') c := by
  unfold k_thisYear at h ⊢
  rw [e]
  exact h
theorem rel_of {S S' : CT} {r c : Int32} (e1 : ci S' 260 r = ci S 260 r) (e2 : cj S' 261 r = cj S 261 r) (h : 0 < cj S 261 r → P_num (ci S 260 r) c) : 0 < cj S' 261 r → P_num (ci S' 260 r) c := fun q => by
  rw [e2] at q
  rw [e1]
  exact h q
theorem dX10_pay_0 : decode cX10_pay 0 = .ok (.aload_n 1, 1) := by decide +kernel
theorem dX10_pay_1 : decode cX10_pay 1 = .ok (.getfield 536, 3) := by decide +kernel
theorem dX10_pay_4 : decode cX10_pay 4 = .ok (.astore_n 2, 1) := by decide +kernel
theorem dX10_pay_5 : decode cX10_pay 5 = .ok (.aload_n 1, 1) := by decide +kernel
theorem dX10_pay_6 : decode cX10_pay 6 = .ok (.invokevirtual 557, 3) := by decide +kernel
theorem dX10_pay_9 : decode cX10_pay 9 = .ok (.aload_n 2, 1) := by decide +kernel
theorem dX10_pay_10 : decode cX10_pay 10 = .ok (.getfield 167, 3) := by decide +kernel
theorem dX10_pay_13 : decode cX10_pay 13 = .ok (.getfield 185, 3) := by decide +kernel
theorem dX10_pay_16 : decode cX10_pay 16 = .ok (.i2l, 1) := by decide +kernel
theorem dX10_pay_17 : decode cX10_pay 17 = .ok (.lmul, 1) := by decide +kernel
theorem dX10_pay_18 : decode cX10_pay 18 = .ok (.ldc2_w 560, 3) := by decide +kernel
theorem dX10_pay_21 : decode cX10_pay 21 = .ok (.ldiv, 1) := by decide +kernel
theorem dX10_pay_22 : decode cX10_pay 22 = .ok (.lstore_n 3, 1) := by decide +kernel
theorem dX10_pay_23 : decode cX10_pay 23 = .ok (.aload_n 1, 1) := by decide +kernel
theorem dX10_pay_24 : decode cX10_pay 24 = .ok (.aload_n 0, 1) := by decide +kernel
theorem dX10_pay_25 : decode cX10_pay 25 = .ok (.aload_n 1, 1) := by decide +kernel
theorem dX10_pay_26 : decode cX10_pay 26 = .ok (.invokevirtual 554, 3) := by decide +kernel
theorem dX10_pay_29 : decode cX10_pay 29 = .ok (.ifCond .eq 17, 3) := by decide +kernel
theorem dX10_pay_32 : decode cX10_pay 32 = .ok (.lload_n 3, 1) := by decide +kernel
theorem dX10_pay_33 : decode cX10_pay 33 = .ok (.aload_n 2, 1) := by decide +kernel
theorem dX10_pay_34 : decode cX10_pay 34 = .ok (.getfield 174, 3) := by decide +kernel
theorem dX10_pay_37 : decode cX10_pay 37 = .ok (.i2l, 1) := by decide +kernel
theorem dX10_pay_38 : decode cX10_pay 38 = .ok (.lmul, 1) := by decide +kernel
theorem dX10_pay_39 : decode cX10_pay 39 = .ok (.ldc2_w 329, 3) := by decide +kernel
theorem dX10_pay_42 : decode cX10_pay 42 = .ok (.ldiv, 1) := by decide +kernel
theorem dX10_pay_43 : decode cX10_pay 43 = .ok (.goto 4, 3) := by decide +kernel
theorem dX10_pay_46 : decode cX10_pay 46 = .ok (.lconst 0, 1) := by decide +kernel
theorem dX10_pay_47 : decode cX10_pay 47 = .ok (.putfield 381, 3) := by decide +kernel
theorem dX10_pay_50 : decode cX10_pay 50 = .ok (.aload_n 1, 1) := by decide +kernel
theorem dX10_pay_51 : decode cX10_pay 51 = .ok (.lload_n 3, 1) := by decide +kernel
theorem dX10_pay_52 : decode cX10_pay 52 = .ok (.aload_n 1, 1) := by decide +kernel
theorem dX10_pay_53 : decode cX10_pay 53 = .ok (.getfield 381, 3) := by decide +kernel
theorem dX10_pay_56 : decode cX10_pay 56 = .ok (.lsub, 1) := by decide +kernel
theorem dX10_pay_57 : decode cX10_pay 57 = .ok (.putfield 378, 3) := by decide +kernel
theorem dX10_pay_60 : decode cX10_pay 60 = .ok (.aload_n 0, 1) := by decide +kernel
theorem dX10_pay_61 : decode cX10_pay 61 = .ok (.iconst 1, 1) := by decide +kernel
theorem dX10_pay_62 : decode cX10_pay 62 = .ok (.aload_n 1, 1) := by decide +kernel
theorem dX10_pay_63 : decode cX10_pay 63 = .ok (.getfield 383, 3) := by decide +kernel
theorem dX10_pay_66 : decode cX10_pay 66 = .ok (.invokevirtual 389, 3) := by decide +kernel
theorem dX10_pay_69 : decode cX10_pay 69 = .ok (.aload_n 0, 1) := by decide +kernel
theorem dX10_pay_70 : decode cX10_pay 70 = .ok (.iconst 2, 1) := by decide +kernel
theorem dX10_pay_71 : decode cX10_pay 71 = .ok (.aload_n 1, 1) := by decide +kernel
theorem dX10_pay_72 : decode cX10_pay 72 = .ok (.getfield 378, 3) := by decide +kernel
theorem dX10_pay_75 : decode cX10_pay 75 = .ok (.lneg, 1) := by decide +kernel
theorem dX10_pay_76 : decode cX10_pay 76 = .ok (.invokevirtual 389, 3) := by decide +kernel
theorem dX10_pay_79 : decode cX10_pay 79 = .ok (.aload_n 0, 1) := by decide +kernel
theorem dX10_pay_80 : decode cX10_pay 80 = .ok (.iconst 5, 1) := by decide +kernel
theorem dX10_pay_81 : decode cX10_pay 81 = .ok (.aload_n 1, 1) := by decide +kernel
theorem dX10_pay_82 : decode cX10_pay 82 = .ok (.getfield 381, 3) := by decide +kernel
theorem dX10_pay_85 : decode cX10_pay 85 = .ok (.lneg, 1) := by decide +kernel
theorem dX10_pay_86 : decode cX10_pay 86 = .ok (.invokevirtual 389, 3) := by decide +kernel
theorem dX10_pay_89 : decode cX10_pay 89 = .ok (.aload_n 0, 1) := by decide +kernel
theorem dX10_pay_90 : decode cX10_pay 90 = .ok (.iconst 4, 1) := by decide +kernel
theorem dX10_pay_91 : decode cX10_pay 91 = .ok (.lload_n 3, 1) := by decide +kernel
theorem dX10_pay_92 : decode cX10_pay 92 = .ok (.aload_n 1, 1) := by decide +kernel
theorem dX10_pay_93 : decode cX10_pay 93 = .ok (.getfield 383, 3) := by decide +kernel
theorem dX10_pay_96 : decode cX10_pay 96 = .ok (.lsub, 1) := by decide +kernel
theorem dX10_pay_97 : decode cX10_pay 97 = .ok (.invokevirtual 389, 3) := by decide +kernel
theorem dX10_pay_100 : decode cX10_pay 100 = .ok (.aload_n 1, 1) := by decide +kernel
theorem dX10_pay_101 : decode cX10_pay 101 = .ok (.lconst 0, 1) := by decide +kernel
theorem dX10_pay_102 : decode cX10_pay 102 = .ok (.putfield 383, 3) := by decide +kernel
theorem dX10_pay_105 : decode cX10_pay 105 = .ok (.aload_n 1, 1) := by decide +kernel
theorem dX10_pay_106 : decode cX10_pay 106 = .ok (.iconst 2, 1) := by decide +kernel
theorem dX10_pay_107 : decode cX10_pay 107 = .ok (.putfield 353, 3) := by decide +kernel
theorem dX10_pay_110 : decode cX10_pay 110 = .ok (.return_, 1) := by decide +kernel
def k_pay (p1 : Int32) (X : CX) (S : CT) : CT :=
    if K_isInDiscountDays p1 X S then
      (si (sj (k_post 4 ((((k_owedInMoney p1 X S) * ((ci S 160 (ci S 289 (xi X 98 p1))).toInt64)) / 1000) - (cj S 108 p1)) X (k_post 5 (-(((((k_owedInMoney p1 X S) * ((ci S 160 (ci S 289 (xi X 98 p1))).toInt64)) / 1000) * ((ci S 292 (xi X 98 p1)).toInt64)) / 100)) X (k_post 2 (-((((k_owedInMoney p1 X S) * ((ci S 160 (ci S 289 (xi X 98 p1))).toInt64)) / 1000) - (((((k_owedInMoney p1 X S) * ((ci S 160 (ci S 289 (xi X 98 p1))).toInt64)) / 1000) * ((ci S 292 (xi X 98 p1)).toInt64)) / 100))) X (k_post 1 (cj S 108 p1) X (sj (sj S 113 p1 (((((k_owedInMoney p1 X S) * ((ci S 160 (ci S 289 (xi X 98 p1))).toInt64)) / 1000) * ((ci S 292 (xi X 98 p1)).toInt64)) / 100)) 112 p1 ((((k_owedInMoney p1 X S) * ((ci S 160 (ci S 289 (xi X 98 p1))).toInt64)) / 1000) - (((((k_owedInMoney p1 X S) * ((ci S 160 (ci S 289 (xi X 98 p1))).toInt64)) / 1000) * ((ci S 292 (xi X 98 p1)).toInt64)) / 100))))))) 108 p1 0) 102 p1 2)
    else
    (si (sj (k_post 4 ((((k_owedInMoney p1 X S) * ((ci S 160 (ci S 289 (xi X 98 p1))).toInt64)) / 1000) - (cj S 108 p1)) X (k_post 5 (-0) X (k_post 2 (-((((k_owedInMoney p1 X S) * ((ci S 160 (ci S 289 (xi X 98 p1))).toInt64)) / 1000) - 0)) X (k_post 1 (cj S 108 p1) X (sj (sj S 113 p1 0) 112 p1 ((((k_owedInMoney p1 X S) * ((ci S 160 (ci S 289 (xi X 98 p1))).toInt64)) / 1000) - 0)))))) 108 p1 0) 102 p1 2)
abbrev rm_X10_pay : Room := { frames := 8, cells := 0, slots := 0, locals := 134 }
set_option maxRecDepth 100000 in
set_option maxHeartbeats 4000000 in
theorem ck_pay {l : Launch} {k : KC} (hl : l.stackTraces = false) {X : CX} {S : CT} (hX : XOK X) {p1 : Int32} (hp1 : lI X 3 p1) (hT : TS X S)  : MC l k yX10_pay (.code yX10_pay cX10_pay 5 none) rm_X10_pay [(vr X 11 0), (vr X 3 p1)] (cW k X S) (pR none (cW k X (k_pay p1 X S))) := by
  refine MC.of 3 hl (by decide) (by simp only [lg_sl_vr, lg_sl_i, lg_sl_l, lg_sl_0]; exact Nat.le_of_ble_eq_true rfl) ?_
  intro p e s m args below meth c A Q G B B2 hout
  simp only [lp_args_vr, lp_args_i, lp_args_l, lp_args_0]
  show Wx p l e rm_X10_pay s m args below meth c k A 5 Q 0 0 0 [some ((vr X 11 0)), some ((vr X 3 p1)), none, none, none] [] (cW k X S)
  refine z_aload1 (pc := 0) G vr_r dX10_pay_0 ?_
  refine z_g (pc := 1) (f := 98) (x := p1) (v := (vr X 9 (xi X 98 p1))) G kb_3 gb_X10_536 rfl hX.1 hp1 cr_98 dX10_pay_1 ?_
  refine z_astore2 (pc := 4) G vr_r dX10_pay_4 (Nat.le_of_ble_eq_true rfl) lp_c2_vr ?_
  refine z_aload1 (pc := 5) G vr_r dX10_pay_5 ?_
  refine z_cV0 (pc := 6) G kb_3 hX.1 hp1 (ck_owedInMoney hl hX hp1 ) rfl q_ml_X10_557 h_X2_owedInMoney ⟨Nat.le_of_ble_eq_true rfl, Nat.le_of_ble_eq_true rfl⟩ (Nat.le_of_ble_eq_true rfl) (Nat.le_refl _) (Nat.le_refl _) dX10_pay_6 ?_
  refine z_aload2 (pc := 9) G vr_r dX10_pay_9 ?_
  refine z_g (pc := 10) (f := 289) (x := (xi X 98 p1)) (v := (vr X 5 (ci S 289 (xi X 98 p1)))) G kb_9 gb_X10_167 rfl hX.1 (hX.ivS hp1) cr_289 dX10_pay_10 ?_
  refine z_g (pc := 13) (f := 160) (x := (ci S 289 (xi X 98 p1))) (v := (.int (ci S 160 (ci S 289 (xi X 98 p1))))) G kb_5 gb_X10_185 rfl hX.1 (hT.mon (hX.ivS hp1)) cr_160 dX10_pay_13 ?_
  refine x_i2l (pc := 16) G dX10_pay_16 ?_
  refine x_lmul (pc := 17) G dX10_pay_17 ?_
  refine x_ldc2 (pc := 18) G q_cL_X10_560 dX10_pay_18 ?_
  refine x_ldiv (pc := 21) G dX10_pay_21 (by decide) ?_
  refine x_lstore3 (pc := 22) G dX10_pay_22 (Nat.le_of_ble_eq_true rfl) lp_c2_vr ?_
  refine z_aload1 (pc := 23) G vr_r dX10_pay_23 ?_
  refine z_aload0 (pc := 24) G vr_r dX10_pay_24 ?_
  refine z_aload1 (pc := 25) G vr_r dX10_pay_25 ?_
  refine z_cVb1 (pc := 26) G kb_11 hX.1 hX.l11 (bk_isInDiscountDays hl hX hp1 ) rfl q_ml_X10_554 h_X10_isInDiscountDays ⟨Nat.le_of_ble_eq_true rfl, Nat.le_of_ble_eq_true rfl⟩ (by simp only [List.map_cons, List.map_nil, vr_cat]; exact Nat.le_of_ble_eq_true rfl) (Nat.le_refl _) (Nat.le_refl _) dX10_pay_26 (fun c1 => ?_) (fun c1 => ?_)
  · refine x_if_eq (pc := 29) (y := 0) (tgt := 46) G dX10_pay_29 rfl (fun q => absurd q (by decide)) (fun _ => ?_)
    refine x_lload3 (pc := 32) G dX10_pay_32 ?_
    refine z_aload2 (pc := 33) G vr_r dX10_pay_33 ?_
    refine z_g (pc := 34) (f := 292) (x := (xi X 98 p1)) (v := (.int (ci S 292 (xi X 98 p1)))) G kb_9 gb_X10_174 rfl hX.1 (hX.ivS hp1) cr_292 dX10_pay_34 ?_
    refine x_i2l (pc := 37) G dX10_pay_37 ?_
    refine x_lmul (pc := 38) G dX10_pay_38 ?_
    refine x_ldc2 (pc := 39) G q_cL_X10_329 dX10_pay_39 ?_
    refine x_ldiv (pc := 42) G dX10_pay_42 (by decide) ?_
    refine x_goto (pc := 43) (tgt := 47) G dX10_pay_43 rfl ?_
    refine z_pJ (pc := 47) (f := 113) G kb_3 gb_X10_381 rfl hX.1 hp1 rfl (cr_113.trans (congrArg Value.long cj_ss)) rfl rfl dX10_pay_47 ?_
    refine z_aload1 (pc := 50) G vr_r dX10_pay_50 ?_
    refine x_lload3 (pc := 51) G dX10_pay_51 ?_
    refine z_aload1 (pc := 52) G vr_r dX10_pay_52 ?_
    refine z_g (pc := 53) (f := 113) (x := p1) (v := (.long (((((k_owedInMoney p1 X S) * ((ci S 160 (ci S 289 (xi X 98 p1))).toInt64)) / 1000) * ((ci S 292 (xi X 98 p1)).toInt64)) / 100))) G kb_3 gb_X10_381 rfl hX.1 hp1 (cr_113.trans (congrArg Value.long cj_ss)) dX10_pay_53 ?_
    refine x_lsub (pc := 56) G dX10_pay_56 ?_
    refine z_pJ (pc := 57) (f := 112) G kb_3 gb_X10_378 rfl hX.1 hp1 rfl (cr_112.trans (congrArg Value.long cj_ss)) rfl rfl dX10_pay_57 ?_
    refine z_aload0 (pc := 60) G vr_r dX10_pay_60 ?_
    refine x_iconst (pc := 61) (v := 1) G dX10_pay_61 ic_1 ?_
    refine z_aload1 (pc := 62) G vr_r dX10_pay_62 ?_
    refine z_g (pc := 63) (f := 108) (x := p1) (v := (.long (cj S 108 p1))) G kb_3 gb_X10_383 rfl hX.1 hp1 (cr_108.trans (congrArg Value.long ((cj_sn rfl).trans (cj_sn rfl)))) dX10_pay_63 ?_
    refine z_cVv2 (pc := 66) G kb_11 hX.1 hX.l11 (ck_post hl hX  (by decide)) rfl q_ml_X10_389 h_X10_post ⟨Nat.le_of_ble_eq_true rfl, Nat.le_of_ble_eq_true rfl⟩ (Nat.le_of_ble_eq_true rfl) (Nat.le_refl _) (Nat.le_refl _) dX10_pay_66 ?_
    refine z_aload0 (pc := 69) G vr_r dX10_pay_69 ?_
    refine x_iconst (pc := 70) (v := 2) G dX10_pay_70 ic_2 ?_
    refine z_aload1 (pc := 71) G vr_r dX10_pay_71 ?_
    refine z_g (pc := 72) (f := 112) (x := p1) (v := (.long ((((k_owedInMoney p1 X S) * ((ci S 160 (ci S 289 (xi X 98 p1))).toInt64)) / 1000) - (((((k_owedInMoney p1 X S) * ((ci S 160 (ci S 289 (xi X 98 p1))).toInt64)) / 1000) * ((ci S 292 (xi X 98 p1)).toInt64)) / 100)))) G kb_3 gb_X10_378 rfl hX.1 hp1 (cr_112.trans (congrArg Value.long ((cj_post rfl).trans cj_ss))) dX10_pay_72 ?_
    refine x_lneg (pc := 75) G dX10_pay_75 ?_
    refine z_cVv2 (pc := 76) G kb_11 hX.1 hX.l11 (ck_post hl hX  (by decide)) rfl q_ml_X10_389 h_X10_post ⟨Nat.le_of_ble_eq_true rfl, Nat.le_of_ble_eq_true rfl⟩ (Nat.le_of_ble_eq_true rfl) (Nat.le_refl _) (Nat.le_refl _) dX10_pay_76 ?_
    refine z_aload0 (pc := 79) G vr_r dX10_pay_79 ?_
    refine x_iconst (pc := 80) (v := 5) G dX10_pay_80 ic_5 ?_
    refine z_aload1 (pc := 81) G vr_r dX10_pay_81 ?_
    refine z_g (pc := 82) (f := 113) (x := p1) (v := (.long (((((k_owedInMoney p1 X S) * ((ci S 160 (ci S 289 (xi X 98 p1))).toInt64)) / 1000) * ((ci S 292 (xi X 98 p1)).toInt64)) / 100))) G kb_3 gb_X10_381 rfl hX.1 hp1 (cr_113.trans (congrArg Value.long ((cj_post rfl).trans ((cj_post rfl).trans ((cj_sn rfl).trans cj_ss))))) dX10_pay_82 ?_
    refine x_lneg (pc := 85) G dX10_pay_85 ?_
    refine z_cVv2 (pc := 86) G kb_11 hX.1 hX.l11 (ck_post hl hX  (by decide)) rfl q_ml_X10_389 h_X10_post ⟨Nat.le_of_ble_eq_true rfl, Nat.le_of_ble_eq_true rfl⟩ (Nat.le_of_ble_eq_true rfl) (Nat.le_refl _) (Nat.le_refl _) dX10_pay_86 ?_
    refine z_aload0 (pc := 89) G vr_r dX10_pay_89 ?_
    refine x_iconst (pc := 90) (v := 4) G dX10_pay_90 ic_4 ?_
    refine x_lload3 (pc := 91) G dX10_pay_91 ?_
    refine z_aload1 (pc := 92) G vr_r dX10_pay_92 ?_
    refine z_g (pc := 93) (f := 108) (x := p1) (v := (.long (cj S 108 p1))) G kb_3 gb_X10_383 rfl hX.1 hp1 (cr_108.trans (congrArg Value.long ((cj_post rfl).trans ((cj_post rfl).trans ((cj_post rfl).trans ((cj_sn rfl).trans (cj_sn rfl))))))) dX10_pay_93 ?_
    refine x_lsub (pc := 96) G dX10_pay_96 ?_
    refine z_cVv2 (pc := 97) G kb_11 hX.1 hX.l11 (ck_post hl hX  (by decide)) rfl q_ml_X10_389 h_X10_post ⟨Nat.le_of_ble_eq_true rfl, Nat.le_of_ble_eq_true rfl⟩ (Nat.le_of_ble_eq_true rfl) (Nat.le_refl _) (Nat.le_refl _) dX10_pay_97 ?_
    refine z_aload1 (pc := 100) G vr_r dX10_pay_100 ?_
    refine x_lconst (pc := 101) (v := 0) G dX10_pay_101 lc_0 ?_
    refine z_pJ (pc := 102) (f := 108) G kb_3 gb_X10_383 rfl hX.1 hp1 rfl (cr_108.trans (congrArg Value.long cj_ss)) rfl rfl dX10_pay_102 ?_
    refine z_aload1 (pc := 105) G vr_r dX10_pay_105 ?_
    refine x_iconst (pc := 106) (v := 2) G dX10_pay_106 ic_2 ?_
    refine z_pI (pc := 107) (f := 102) G kb_3 gb_X10_353 rfl hX.1 hp1 rfl (cr_102.trans (congrArg Value.int ci_ss)) rfl rfl dX10_pay_107 ?_
    exact x_vret (pc := 110) G B rfl dX10_pay_110 ⟨rfl, by rw [k_pay, if_pos c1]⟩
  refine x_if_eq (pc := 29) (y := 0) (tgt := 46) G dX10_pay_29 rfl (fun _ => ?_) (fun q => absurd q (by decide))
  refine x_lconst (pc := 46) (v := 0) G dX10_pay_46 lc_0 ?_
  refine z_pJ (pc := 47) (f := 113) G kb_3 gb_X10_381 rfl hX.1 hp1 rfl (cr_113.trans (congrArg Value.long cj_ss)) rfl rfl dX10_pay_47 ?_
  refine z_aload1 (pc := 50) G vr_r dX10_pay_50 ?_
  refine x_lload3 (pc := 51) G dX10_pay_51 ?_
  refine z_aload1 (pc := 52) G vr_r dX10_pay_52 ?_
  refine z_g (pc := 53) (f := 113) (x := p1) (v := (.long 0)) G kb_3 gb_X10_381 rfl hX.1 hp1 (cr_113.trans (congrArg Value.long cj_ss)) dX10_pay_53 ?_
  refine x_lsub (pc := 56) G dX10_pay_56 ?_
  refine z_pJ (pc := 57) (f := 112) G kb_3 gb_X10_378 rfl hX.1 hp1 rfl (cr_112.trans (congrArg Value.long cj_ss)) rfl rfl dX10_pay_57 ?_
  refine z_aload0 (pc := 60) G vr_r dX10_pay_60 ?_
  refine x_iconst (pc := 61) (v := 1) G dX10_pay_61 ic_1 ?_
  refine z_aload1 (pc := 62) G vr_r dX10_pay_62 ?_
  refine z_g (pc := 63) (f := 108) (x := p1) (v := (.long (cj S 108 p1))) G kb_3 gb_X10_383 rfl hX.1 hp1 (cr_108.trans (congrArg Value.long ((cj_sn rfl).trans (cj_sn rfl)))) dX10_pay_63 ?_
  refine z_cVv2 (pc := 66) G kb_11 hX.1 hX.l11 (ck_post hl hX  (by decide)) rfl q_ml_X10_389 h_X10_post ⟨Nat.le_of_ble_eq_true rfl, Nat.le_of_ble_eq_true rfl⟩ (Nat.le_of_ble_eq_true rfl) (Nat.le_refl _) (Nat.le_refl _) dX10_pay_66 ?_
  refine z_aload0 (pc := 69) G vr_r dX10_pay_69 ?_
  refine x_iconst (pc := 70) (v := 2) G dX10_pay_70 ic_2 ?_
  refine z_aload1 (pc := 71) G vr_r dX10_pay_71 ?_
  refine z_g (pc := 72) (f := 112) (x := p1) (v := (.long ((((k_owedInMoney p1 X S) * ((ci S 160 (ci S 289 (xi X 98 p1))).toInt64)) / 1000) - 0))) G kb_3 gb_X10_378 rfl hX.1 hp1 (cr_112.trans (congrArg Value.long ((cj_post rfl).trans cj_ss))) dX10_pay_72 ?_
  refine x_lneg (pc := 75) G dX10_pay_75 ?_
  refine z_cVv2 (pc := 76) G kb_11 hX.1 hX.l11 (ck_post hl hX  (by decide)) rfl q_ml_X10_389 h_X10_post ⟨Nat.le_of_ble_eq_true rfl, Nat.le_of_ble_eq_true rfl⟩ (Nat.le_of_ble_eq_true rfl) (Nat.le_refl _) (Nat.le_refl _) dX10_pay_76 ?_
  refine z_aload0 (pc := 79) G vr_r dX10_pay_79 ?_
  refine x_iconst (pc := 80) (v := 5) G dX10_pay_80 ic_5 ?_
  refine z_aload1 (pc := 81) G vr_r dX10_pay_81 ?_
  refine z_g (pc := 82) (f := 113) (x := p1) (v := (.long 0)) G kb_3 gb_X10_381 rfl hX.1 hp1 (cr_113.trans (congrArg Value.long ((cj_post rfl).trans ((cj_post rfl).trans ((cj_sn rfl).trans cj_ss))))) dX10_pay_82 ?_
  refine x_lneg (pc := 85) G dX10_pay_85 ?_
  refine z_cVv2 (pc := 86) G kb_11 hX.1 hX.l11 (ck_post hl hX  (by decide)) rfl q_ml_X10_389 h_X10_post ⟨Nat.le_of_ble_eq_true rfl, Nat.le_of_ble_eq_true rfl⟩ (Nat.le_of_ble_eq_true rfl) (Nat.le_refl _) (Nat.le_refl _) dX10_pay_86 ?_
  refine z_aload0 (pc := 89) G vr_r dX10_pay_89 ?_
  refine x_iconst (pc := 90) (v := 4) G dX10_pay_90 ic_4 ?_
  refine x_lload3 (pc := 91) G dX10_pay_91 ?_
  refine z_aload1 (pc := 92) G vr_r dX10_pay_92 ?_
  refine z_g (pc := 93) (f := 108) (x := p1) (v := (.long (cj S 108 p1))) G kb_3 gb_X10_383 rfl hX.1 hp1 (cr_108.trans (congrArg Value.long ((cj_post rfl).trans ((cj_post rfl).trans ((cj_post rfl).trans ((cj_sn rfl).trans (cj_sn rfl))))))) dX10_pay_93 ?_
  refine x_lsub (pc := 96) G dX10_pay_96 ?_
  refine z_cVv2 (pc := 97) G kb_11 hX.1 hX.l11 (ck_post hl hX  (by decide)) rfl q_ml_X10_389 h_X10_post ⟨Nat.le_of_ble_eq_true rfl, Nat.le_of_ble_eq_true rfl⟩ (Nat.le_of_ble_eq_true rfl) (Nat.le_refl _) (Nat.le_refl _) dX10_pay_97 ?_
  refine z_aload1 (pc := 100) G vr_r dX10_pay_100 ?_
  refine x_lconst (pc := 101) (v := 0) G dX10_pay_101 lc_0 ?_
  refine z_pJ (pc := 102) (f := 108) G kb_3 gb_X10_383 rfl hX.1 hp1 rfl (cr_108.trans (congrArg Value.long cj_ss)) rfl rfl dX10_pay_102 ?_
  refine z_aload1 (pc := 105) G vr_r dX10_pay_105 ?_
  refine x_iconst (pc := 106) (v := 2) G dX10_pay_106 ic_2 ?_
  refine z_pI (pc := 107) (f := 102) G kb_3 gb_X10_353 rfl hX.1 hp1 rfl (cr_102.trans (congrArg Value.int ci_ss)) rfl rfl dX10_pay_107 ?_
  exact x_vret (pc := 110) G B rfl dX10_pay_110 ⟨rfl, by rw [k_pay, if_neg c1]⟩
theorem dX10_book_0 : decode cX10_book 0 = .ok (.aload_n 1, 1) := by decide +kernel
theorem dX10_book_1 : decode cX10_book 1 = .ok (.getfield 536, 3) := by decide +kernel
theorem dX10_book_4 : decode cX10_book 4 = .ok (.astore_n 2, 1) := by decide +kernel
theorem dX10_book_5 : decode cX10_book 5 = .ok (.aload_n 1, 1) := by decide +kernel
theorem dX10_book_6 : decode cX10_book 6 = .ok (.getfield 529, 3) := by decide +kernel
theorem dX10_book_9 : decode cX10_book 9 = .ok (.astore_n 3, 1) := by decide +kernel
theorem dX10_book_10 : decode cX10_book 10 = .ok (.aload_n 1, 1) := by decide +kernel
theorem dX10_book_11 : decode cX10_book 11 = .ok (.aload_n 2, 1) := by decide +kernel
theorem dX10_book_12 : decode cX10_book 12 = .ok (.getfield 164, 3) := by decide +kernel
theorem dX10_book_15 : decode cX10_book 15 = .ok (.ifCond .ne 7, 3) := by decide +kernel
theorem dX10_book_18 : decode cX10_book 18 = .ok (.iconst 1, 1) := by decide +kernel
theorem dX10_book_19 : decode cX10_book 19 = .ok (.goto 4, 3) := by decide +kernel
theorem dX10_book_22 : decode cX10_book 22 = .ok (.iconst 0, 1) := by decide +kernel
theorem dX10_book_23 : decode cX10_book 23 = .ok (.putfield 537, 3) := by decide +kernel
theorem dX10_book_26 : decode cX10_book 26 = .ok (.aload_n 1, 1) := by decide +kernel
theorem dX10_book_27 : decode cX10_book 27 = .ok (.aload_n 0, 1) := by decide +kernel
theorem dX10_book_28 : decode cX10_book 28 = .ok (.getfield 56, 3) := by decide +kernel
theorem dX10_book_31 : decode cX10_book 31 = .ok (.putfield 540, 3) := by decide +kernel
theorem dX10_book_34 : decode cX10_book 34 = .ok (.aload_n 1, 1) := by decide +kernel
theorem dX10_book_35 : decode cX10_book 35 = .ok (.aload_n 1, 1) := by decide +kernel
theorem dX10_book_36 : decode cX10_book 36 = .ok (.getfield 461, 3) := by decide +kernel
theorem dX10_book_39 : decode cX10_book 39 = .ok (.aload_n 0, 1) := by decide +kernel
theorem dX10_book_40 : decode cX10_book 40 = .ok (.getfield 56, 3) := by decide +kernel
theorem dX10_book_43 : decode cX10_book 43 = .ok (.i2l, 1) := by decide +kernel
theorem dX10_book_44 : decode cX10_book 44 = .ok (.lmul, 1) := by decide +kernel
theorem dX10_book_45 : decode cX10_book 45 = .ok (.ldc2_w 329, 3) := by decide +kernel
theorem dX10_book_48 : decode cX10_book 48 = .ok (.ldiv, 1) := by decide +kernel
theorem dX10_book_49 : decode cX10_book 49 = .ok (.putfield 464, 3) := by decide +kernel
theorem dX10_book_52 : decode cX10_book 52 = .ok (.aload_n 1, 1) := by decide +kernel
theorem dX10_book_53 : decode cX10_book 53 = .ok (.getfield 464, 3) := by decide +kernel
theorem dX10_book_56 : decode cX10_book 56 = .ok (.aload_n 0, 1) := by decide +kernel
theorem dX10_book_57 : decode cX10_book 57 = .ok (.getfield 59, 3) := by decide +kernel
theorem dX10_book_60 : decode cX10_book 60 = .ok (.i2l, 1) := by decide +kernel
theorem dX10_book_61 : decode cX10_book 61 = .ok (.lmul, 1) := by decide +kernel
theorem dX10_book_62 : decode cX10_book 62 = .ok (.ldc2_w 329, 3) := by decide +kernel
theorem dX10_book_65 : decode cX10_book 65 = .ok (.ldiv, 1) := by decide +kernel
theorem dX10_book_66 : decode cX10_book 66 = .ok (.lstore 4, 2) := by decide +kernel
theorem dX10_book_68 : decode cX10_book 68 = .ok (.aload_n 1, 1) := by decide +kernel
theorem dX10_book_69 : decode cX10_book 69 = .ok (.getfield 537, 3) := by decide +kernel
theorem dX10_book_72 : decode cX10_book 72 = .ok (.ifCond .eq 7, 3) := by decide +kernel
theorem dX10_book_75 : decode cX10_book 75 = .ok (.lconst 0, 1) := by decide +kernel
theorem dX10_book_76 : decode cX10_book 76 = .ok (.goto 7, 3) := by decide +kernel
theorem dX10_book_79 : decode cX10_book 79 = .ok (.aload_n 1, 1) := by decide +kernel
theorem dX10_book_80 : decode cX10_book 80 = .ok (.getfield 464, 3) := by decide +kernel
theorem dX10_book_83 : decode cX10_book 83 = .ok (.lstore 6, 2) := by decide +kernel
theorem dX10_book_85 : decode cX10_book 85 = .ok (.aload_n 1, 1) := by decide +kernel
theorem dX10_book_86 : decode cX10_book 86 = .ok (.aload_n 1, 1) := by decide +kernel
theorem dX10_book_87 : decode cX10_book 87 = .ok (.getfield 461, 3) := by decide +kernel
theorem dX10_book_90 : decode cX10_book 90 = .ok (.aload_n 1, 1) := by decide +kernel
theorem dX10_book_91 : decode cX10_book 91 = .ok (.getfield 464, 3) := by decide +kernel
theorem dX10_book_94 : decode cX10_book 94 = .ok (.ladd, 1) := by decide +kernel
theorem dX10_book_95 : decode cX10_book 95 = .ok (.lload 4, 2) := by decide +kernel
theorem dX10_book_97 : decode cX10_book 97 = .ok (.lsub, 1) := by decide +kernel
theorem dX10_book_98 : decode cX10_book 98 = .ok (.putfield 467, 3) := by decide +kernel
theorem dX10_book_101 : decode cX10_book 101 = .ok (.aload_n 1, 1) := by decide +kernel
theorem dX10_book_102 : decode cX10_book 102 = .ok (.aload_n 1, 1) := by decide +kernel
theorem dX10_book_103 : decode cX10_book 103 = .ok (.getfield 461, 3) := by decide +kernel
theorem dX10_book_106 : decode cX10_book 106 = .ok (.aload_n 1, 1) := by decide +kernel
theorem dX10_book_107 : decode cX10_book 107 = .ok (.getfield 464, 3) := by decide +kernel
theorem dX10_book_110 : decode cX10_book 110 = .ok (.ladd, 1) := by decide +kernel
theorem dX10_book_111 : decode cX10_book 111 = .ok (.lload 6, 2) := by decide +kernel
theorem dX10_book_113 : decode cX10_book 113 = .ok (.lsub, 1) := by decide +kernel
theorem dX10_book_114 : decode cX10_book 114 = .ok (.putfield 383, 3) := by decide +kernel
theorem dX10_book_117 : decode cX10_book 117 = .ok (.aload_n 1, 1) := by decide +kernel
theorem dX10_book_118 : decode cX10_book 118 = .ok (.aload_n 0, 1) := by decide +kernel
theorem dX10_book_119 : decode cX10_book 119 = .ok (.getfield 49, 3) := by decide +kernel
theorem dX10_book_122 : decode cX10_book 122 = .ok (.putfield 541, 3) := by decide +kernel
theorem dX10_book_125 : decode cX10_book 125 = .ok (.aload_n 1, 1) := by decide +kernel
theorem dX10_book_126 : decode cX10_book 126 = .ok (.aload_n 0, 1) := by decide +kernel
theorem dX10_book_127 : decode cX10_book 127 = .ok (.getfield 49, 3) := by decide +kernel
theorem dX10_book_130 : decode cX10_book 130 = .ok (.aload_n 2, 1) := by decide +kernel
theorem dX10_book_131 : decode cX10_book 131 = .ok (.getfield 171, 3) := by decide +kernel
theorem dX10_book_134 : decode cX10_book 134 = .ok (.iadd, 1) := by decide +kernel
theorem dX10_book_135 : decode cX10_book 135 = .ok (.putfield 470, 3) := by decide +kernel
theorem dX10_book_138 : decode cX10_book 138 = .ok (.aload_n 1, 1) := by decide +kernel
theorem dX10_book_139 : decode cX10_book 139 = .ok (.iconst 1, 1) := by decide +kernel
theorem dX10_book_140 : decode cX10_book 140 = .ok (.putfield 353, 3) := by decide +kernel
theorem dX10_book_143 : decode cX10_book 143 = .ok (.aload_n 3, 1) := by decide +kernel
theorem dX10_book_144 : decode cX10_book 144 = .ok (.dup, 1) := by decide +kernel
theorem dX10_book_145 : decode cX10_book 145 = .ok (.getfield 319, 3) := by decide +kernel
theorem dX10_book_148 : decode cX10_book 148 = .ok (.aload_n 1, 1) := by decide +kernel
theorem dX10_book_149 : decode cX10_book 149 = .ok (.getfield 544, 3) := by decide +kernel
theorem dX10_book_152 : decode cX10_book 152 = .ok (.isub, 1) := by decide +kernel
theorem dX10_book_153 : decode cX10_book 153 = .ok (.putfield 319, 3) := by decide +kernel
theorem dX10_book_156 : decode cX10_book 156 = .ok (.aload_n 3, 1) := by decide +kernel
theorem dX10_book_157 : decode cX10_book 157 = .ok (.dup, 1) := by decide +kernel
theorem dX10_book_158 : decode cX10_book 158 = .ok (.getfield 308, 3) := by decide +kernel
theorem dX10_book_161 : decode cX10_book 161 = .ok (.aload_n 1, 1) := by decide +kernel
theorem dX10_book_162 : decode cX10_book 162 = .ok (.getfield 544, 3) := by decide +kernel
theorem dX10_book_165 : decode cX10_book 165 = .ok (.iadd, 1) := by decide +kernel
theorem dX10_book_166 : decode cX10_book 166 = .ok (.putfield 308, 3) := by decide +kernel
theorem dX10_book_169 : decode cX10_book 169 = .ok (.aload_n 0, 1) := by decide +kernel
theorem dX10_book_170 : decode cX10_book 170 = .ok (.aload_n 1, 1) := by decide +kernel
theorem dX10_book_171 : decode cX10_book 171 = .ok (.getfield 547, 3) := by decide +kernel
theorem dX10_book_174 : decode cX10_book 174 = .ok (.getfield 231, 3) := by decide +kernel
theorem dX10_book_177 : decode cX10_book 177 = .ok (.aload_n 1, 1) := by decide +kernel
theorem dX10_book_178 : decode cX10_book 178 = .ok (.getfield 467, 3) := by decide +kernel
theorem dX10_book_181 : decode cX10_book 181 = .ok (.invokevirtual 406, 3) := by decide +kernel
theorem dX10_book_184 : decode cX10_book 184 = .ok (.aload_n 1, 1) := by decide +kernel
theorem dX10_book_185 : decode cX10_book 185 = .ok (.getfield 547, 3) := by decide +kernel
theorem dX10_book_188 : decode cX10_book 188 = .ok (.aload_n 1, 1) := by decide +kernel
theorem dX10_book_189 : decode cX10_book 189 = .ok (.invokevirtual 551, 3) := by decide +kernel
theorem dX10_book_192 : decode cX10_book 192 = .ok (.invokestatic 276, 3) := by decide +kernel
theorem dX10_book_195 : decode cX10_book 195 = .ok (.pop2, 1) := by decide +kernel
theorem dX10_book_196 : decode cX10_book 196 = .ok (.aload_n 0, 1) := by decide +kernel
theorem dX10_book_197 : decode cX10_book 197 = .ok (.iconst 0, 1) := by decide +kernel
theorem dX10_book_198 : decode cX10_book 198 = .ok (.aload_n 1, 1) := by decide +kernel
theorem dX10_book_199 : decode cX10_book 199 = .ok (.getfield 467, 3) := by decide +kernel
theorem dX10_book_202 : decode cX10_book 202 = .ok (.invokevirtual 389, 3) := by decide +kernel
theorem dX10_book_205 : decode cX10_book 205 = .ok (.aload_n 0, 1) := by decide +kernel
theorem dX10_book_206 : decode cX10_book 206 = .ok (.iconst 3, 1) := by decide +kernel
theorem dX10_book_207 : decode cX10_book 207 = .ok (.lload 4, 2) := by decide +kernel
theorem dX10_book_209 : decode cX10_book 209 = .ok (.lload 6, 2) := by decide +kernel
theorem dX10_book_211 : decode cX10_book 211 = .ok (.lsub, 1) := by decide +kernel
theorem dX10_book_212 : decode cX10_book 212 = .ok (.invokevirtual 389, 3) := by decide +kernel
theorem dX10_book_215 : decode cX10_book 215 = .ok (.aload_n 0, 1) := by decide +kernel
theorem dX10_book_216 : decode cX10_book 216 = .ok (.iconst 1, 1) := by decide +kernel
theorem dX10_book_217 : decode cX10_book 217 = .ok (.aload_n 1, 1) := by decide +kernel
theorem dX10_book_218 : decode cX10_book 218 = .ok (.getfield 383, 3) := by decide +kernel
theorem dX10_book_221 : decode cX10_book 221 = .ok (.lneg, 1) := by decide +kernel
theorem dX10_book_222 : decode cX10_book 222 = .ok (.invokevirtual 389, 3) := by decide +kernel
theorem dX10_book_225 : decode cX10_book 225 = .ok (.return_, 1) := by decide +kernel
def k_book (p1 : Int32) (X : CX) (S : CT) : CT :=
    if (ci S 290 (xi X 98 p1)) = 0 then
      (k_post 1 (-(((xj X 101 p1) + (((xj X 101 p1) * ((ci S 365 0).toInt64)) / 100)) - 0)) X (k_post 3 ((((((xj X 101 p1) * ((ci S 365 0).toInt64)) / 100) * ((ci S 366 0).toInt64)) / 100) - 0) X (k_post 0 (((xj X 101 p1) + (((xj X 101 p1) * ((ci S 365 0).toInt64)) / 100)) - (((((xj X 101 p1) * ((ci S 365 0).toInt64)) / 100) * ((ci S 366 0).toInt64)) / 100)) X (k_release (xi X 96 p1) (k_orderedValue p1 X (k_spend (xi X 257 (xi X 96 p1)) (((xj X 101 p1) + (((xj X 101 p1) * ((ci S 365 0).toInt64)) / 100)) - (((((xj X 101 p1) * ((ci S 365 0).toInt64)) / 100) * ((ci S 366 0).toInt64)) / 100)) X (si (si (si (si (si (sj (sj (sj (si (si S 104 p1 1) 105 p1 (ci S 365 0)) 106 p1 (((xj X 101 p1) * ((ci S 365 0).toInt64)) / 100)) 107 p1 (((xj X 101 p1) + (((xj X 101 p1) * ((ci S 365 0).toInt64)) / 100)) - (((((xj X 101 p1) * ((ci S 365 0).toInt64)) / 100) * ((ci S 366 0).toInt64)) / 100))) 108 p1 (((xj X 101 p1) + (((xj X 101 p1) * ((ci S 365 0).toInt64)) / 100)) - 0)) 109 p1 (ci S 363 0)) 110 p1 ((ci S 363 0) + (ci S 291 (xi X 98 p1)))) 102 p1 1) 133 (xi X 97 p1) ((ci S 133 (xi X 97 p1)) - (xi X 99 p1))) 132 (xi X 97 p1) ((ci S 132 (xi X 97 p1)) + (xi X 99 p1))))) X (k_spend (xi X 257 (xi X 96 p1)) (((xj X 101 p1) + (((xj X 101 p1) * ((ci S 365 0).toInt64)) / 100)) - (((((xj X 101 p1) * ((ci S 365 0).toInt64)) / 100) * ((ci S 366 0).toInt64)) / 100)) X (si (si (si (si (si (sj (sj (sj (si (si S 104 p1 1) 105 p1 (ci S 365 0)) 106 p1 (((xj X 101 p1) * ((ci S 365 0).toInt64)) / 100)) 107 p1 (((xj X 101 p1) + (((xj X 101 p1) * ((ci S 365 0).toInt64)) / 100)) - (((((xj X 101 p1) * ((ci S 365 0).toInt64)) / 100) * ((ci S 366 0).toInt64)) / 100))) 108 p1 (((xj X 101 p1) + (((xj X 101 p1) * ((ci S 365 0).toInt64)) / 100)) - 0)) 109 p1 (ci S 363 0)) 110 p1 ((ci S 363 0) + (ci S 291 (xi X 98 p1)))) 102 p1 1) 133 (xi X 97 p1) ((ci S 133 (xi X 97 p1)) - (xi X 99 p1))) 132 (xi X 97 p1) ((ci S 132 (xi X 97 p1)) + (xi X 99 p1))))).2)))
    else
    (k_post 1 (-(((xj X 101 p1) + (((xj X 101 p1) * ((ci S 365 0).toInt64)) / 100)) - (((xj X 101 p1) * ((ci S 365 0).toInt64)) / 100))) X (k_post 3 ((((((xj X 101 p1) * ((ci S 365 0).toInt64)) / 100) * ((ci S 366 0).toInt64)) / 100) - (((xj X 101 p1) * ((ci S 365 0).toInt64)) / 100)) X (k_post 0 (((xj X 101 p1) + (((xj X 101 p1) * ((ci S 365 0).toInt64)) / 100)) - (((((xj X 101 p1) * ((ci S 365 0).toInt64)) / 100) * ((ci S 366 0).toInt64)) / 100)) X (k_release (xi X 96 p1) (k_orderedValue p1 X (k_spend (xi X 257 (xi X 96 p1)) (((xj X 101 p1) + (((xj X 101 p1) * ((ci S 365 0).toInt64)) / 100)) - (((((xj X 101 p1) * ((ci S 365 0).toInt64)) / 100) * ((ci S 366 0).toInt64)) / 100)) X (si (si (si (si (si (sj (sj (sj (si (si S 104 p1 0) 105 p1 (ci S 365 0)) 106 p1 (((xj X 101 p1) * ((ci S 365 0).toInt64)) / 100)) 107 p1 (((xj X 101 p1) + (((xj X 101 p1) * ((ci S 365 0).toInt64)) / 100)) - (((((xj X 101 p1) * ((ci S 365 0).toInt64)) / 100) * ((ci S 366 0).toInt64)) / 100))) 108 p1 (((xj X 101 p1) + (((xj X 101 p1) * ((ci S 365 0).toInt64)) / 100)) - (((xj X 101 p1) * ((ci S 365 0).toInt64)) / 100))) 109 p1 (ci S 363 0)) 110 p1 ((ci S 363 0) + (ci S 291 (xi X 98 p1)))) 102 p1 1) 133 (xi X 97 p1) ((ci S 133 (xi X 97 p1)) - (xi X 99 p1))) 132 (xi X 97 p1) ((ci S 132 (xi X 97 p1)) + (xi X 99 p1))))) X (k_spend (xi X 257 (xi X 96 p1)) (((xj X 101 p1) + (((xj X 101 p1) * ((ci S 365 0).toInt64)) / 100)) - (((((xj X 101 p1) * ((ci S 365 0).toInt64)) / 100) * ((ci S 366 0).toInt64)) / 100)) X (si (si (si (si (si (sj (sj (sj (si (si S 104 p1 0) 105 p1 (ci S 365 0)) 106 p1 (((xj X 101 p1) * ((ci S 365 0).toInt64)) / 100)) 107 p1 (((xj X 101 p1) + (((xj X 101 p1) * ((ci S 365 0).toInt64)) / 100)) - (((((xj X 101 p1) * ((ci S 365 0).toInt64)) / 100) * ((ci S 366 0).toInt64)) / 100))) 108 p1 (((xj X 101 p1) + (((xj X 101 p1) * ((ci S 365 0).toInt64)) / 100)) - (((xj X 101 p1) * ((ci S 365 0).toInt64)) / 100))) 109 p1 (ci S 363 0)) 110 p1 ((ci S 363 0) + (ci S 291 (xi X 98 p1)))) 102 p1 1) 133 (xi X 97 p1) ((ci S 133 (xi X 97 p1)) - (xi X 99 p1))) 132 (xi X 97 p1) ((ci S 132 (xi X 97 p1)) + (xi X 99 p1))))).2)))
abbrev rm_X10_book : Room := { frames := 10, cells := 0, slots := 0, locals := 178 }
set_option maxRecDepth 100000 in
set_option maxHeartbeats 4000000 in
theorem ck_book {l : Launch} {k : KC} (hl : l.stackTraces = false) {X : CX} {S : CT} (hX : XOK X) {p1 : Int32} (hp1 : lI X 3 p1) (hy : ∀ x, lI X 1 x → P_num (k_thisYear X S) (nS X 28 x)) (hq : ∀ r, lI X 8 r → 0 < cj S 261 r → P_num (ci S 260 r) (nS X 28 (xi X 257 r)))  : MC l k yX10_book (.code yX10_book cX10_book 8 none) rm_X10_book [(vr X 11 0), (vr X 3 p1)] (cW k X S) (pR none (cW k X (k_book p1 X S))) := by
  refine MC.of 6 hl (by decide) (by simp only [lg_sl_vr, lg_sl_i, lg_sl_l, lg_sl_0]; exact Nat.le_of_ble_eq_true rfl) ?_
  intro p e s m args below meth c A Q G B B2 hout
  simp only [lp_args_vr, lp_args_i, lp_args_l, lp_args_0]
  show Wx p l e rm_X10_book s m args below meth c k A 8 Q 0 0 0 [some ((vr X 11 0)), some ((vr X 3 p1)), none, none, none, none, none, none] [] (cW k X S)
  refine z_aload1 (pc := 0) G vr_r dX10_book_0 ?_
  refine z_g (pc := 1) (f := 98) (x := p1) (v := (vr X 9 (xi X 98 p1))) G kb_3 gb_X10_536 rfl hX.1 hp1 cr_98 dX10_book_1 ?_
  refine z_astore2 (pc := 4) G vr_r dX10_book_4 (Nat.le_of_ble_eq_true rfl) lp_c2_vr ?_
  refine z_aload1 (pc := 5) G vr_r dX10_book_5 ?_
  refine z_g (pc := 6) (f := 97) (x := p1) (v := (vr X 4 (xi X 97 p1))) G kb_3 gb_X10_529 rfl hX.1 hp1 cr_97 dX10_book_6 ?_
  refine z_astore3 (pc := 9) G vr_r dX10_book_9 (Nat.le_of_ble_eq_true rfl) lp_c2_vr ?_
  refine z_aload1 (pc := 10) G vr_r dX10_book_10 ?_
  refine z_aload2 (pc := 11) G vr_r dX10_book_11 ?_
  refine z_g (pc := 12) (f := 290) (x := (xi X 98 p1)) (v := (.int (ci S 290 (xi X 98 p1)))) G kb_9 gb_X10_164 rfl hX.1 (hX.ivS hp1) cr_290 dX10_book_12 ?_
  refine x_if_ne (pc := 15) (y := 0) (tgt := 22) G dX10_book_15 rfl (fun c1 => ?_) (fun c1 => ?_)
  · refine x_iconst (pc := 22) (v := 0) G dX10_book_22 ic_0 ?_
    refine z_pI (pc := 23) (f := 104) G kb_3 gb_X10_537 rfl hX.1 hp1 rfl (cr_104.trans (congrArg Value.int ci_ss)) (by decide) rfl dX10_book_23 ?_
    refine z_aload1 (pc := 26) G vr_r dX10_book_26 ?_
    refine z_aload0 (pc := 27) G vr_r dX10_book_27 ?_
    refine z_g (pc := 28) (f := 365) (x := 0) (v := (.int (ci S 365 0))) G kb_11 gb_X10_56 rfl hX.1 hX.l11 (cr_365.trans (congrArg Value.int (ci_sn rfl))) dX10_book_28 ?_
    refine z_pI (pc := 31) (f := 105) G kb_3 gb_X10_540 rfl hX.1 hp1 rfl (cr_105.trans (congrArg Value.int ci_ss)) rfl rfl dX10_book_31 ?_
    refine z_aload1 (pc := 34) G vr_r dX10_book_34 ?_
    refine z_aload1 (pc := 35) G vr_r dX10_book_35 ?_
    refine z_g (pc := 36) (f := 101) (x := p1) (v := (.long (xj X 101 p1))) G kb_3 gb_X10_461 rfl hX.1 hp1 cr_101 dX10_book_36 ?_
    refine z_aload0 (pc := 39) G vr_r dX10_book_39 ?_
    refine z_g (pc := 40) (f := 365) (x := 0) (v := (.int (ci S 365 0))) G kb_11 gb_X10_56 rfl hX.1 hX.l11 (cr_365.trans (congrArg Value.int ((ci_sn rfl).trans (ci_sn rfl)))) dX10_book_40 ?_
    refine x_i2l (pc := 43) G dX10_book_43 ?_
    refine x_lmul (pc := 44) G dX10_book_44 ?_
    refine x_ldc2 (pc := 45) G q_cL_X10_329 dX10_book_45 ?_
    refine x_ldiv (pc := 48) G dX10_book_48 (by decide) ?_
    refine z_pJ (pc := 49) (f := 106) G kb_3 gb_X10_464 rfl hX.1 hp1 rfl (cr_106.trans (congrArg Value.long cj_ss)) rfl rfl dX10_book_49 ?_
    refine z_aload1 (pc := 52) G vr_r dX10_book_52 ?_
    refine z_g (pc := 53) (f := 106) (x := p1) (v := (.long (((xj X 101 p1) * ((ci S 365 0).toInt64)) / 100))) G kb_3 gb_X10_464 rfl hX.1 hp1 (cr_106.trans (congrArg Value.long cj_ss)) dX10_book_53 ?_
    refine z_aload0 (pc := 56) G vr_r dX10_book_56 ?_
    refine z_g (pc := 57) (f := 366) (x := 0) (v := (.int (ci S 366 0))) G kb_11 gb_X10_59 rfl hX.1 hX.l11 (cr_366.trans (congrArg Value.int (ci_j.trans ((ci_sn rfl).trans (ci_sn rfl))))) dX10_book_57 ?_
    refine x_i2l (pc := 60) G dX10_book_60 ?_
    refine x_lmul (pc := 61) G dX10_book_61 ?_
    refine x_ldc2 (pc := 62) G q_cL_X10_329 dX10_book_62 ?_
    refine x_ldiv (pc := 65) G dX10_book_65 (by decide) ?_
    refine x_lstore4 (pc := 66) G dX10_book_66 (Nat.le_of_ble_eq_true rfl) lp_c2_vr ?_
    refine z_aload1 (pc := 68) G vr_r dX10_book_68 ?_
    refine z_g (pc := 69) (f := 104) (x := p1) (v := (.int 0)) G kb_3 gb_X10_537 rfl hX.1 hp1 (cr_104.trans (congrArg Value.int (ci_j.trans ((ci_sn rfl).trans ci_ss)))) dX10_book_69 ?_
    refine x_if_eq (pc := 72) (y := 0) (tgt := 79) G dX10_book_72 rfl (fun _ => ?_) (fun q => absurd q (by decide))
    refine z_aload1 (pc := 79) G vr_r dX10_book_79 ?_
    refine z_g (pc := 80) (f := 106) (x := p1) (v := (.long (((xj X 101 p1) * ((ci S 365 0).toInt64)) / 100))) G kb_3 gb_X10_464 rfl hX.1 hp1 (cr_106.trans (congrArg Value.long cj_ss)) dX10_book_80 ?_
    refine x_lstore6 (pc := 83) G dX10_book_83 (Nat.le_of_ble_eq_true rfl) rfl ?_
    refine z_aload1 (pc := 85) G vr_r dX10_book_85 ?_
    refine z_aload1 (pc := 86) G vr_r dX10_book_86 ?_
    refine z_g (pc := 87) (f := 101) (x := p1) (v := (.long (xj X 101 p1))) G kb_3 gb_X10_461 rfl hX.1 hp1 cr_101 dX10_book_87 ?_
    refine z_aload1 (pc := 90) G vr_r dX10_book_90 ?_
    refine z_g (pc := 91) (f := 106) (x := p1) (v := (.long (((xj X 101 p1) * ((ci S 365 0).toInt64)) / 100))) G kb_3 gb_X10_464 rfl hX.1 hp1 (cr_106.trans (congrArg Value.long cj_ss)) dX10_book_91 ?_
    refine x_ladd (pc := 94) G dX10_book_94 ?_
    refine x_lload4 (pc := 95) G dX10_book_95 ?_
    refine x_lsub (pc := 97) G dX10_book_97 ?_
    refine z_pJ (pc := 98) (f := 107) G kb_3 gb_X10_467 rfl hX.1 hp1 rfl (cr_107.trans (congrArg Value.long cj_ss)) rfl rfl dX10_book_98 ?_
    refine z_aload1 (pc := 101) G vr_r dX10_book_101 ?_
    refine z_aload1 (pc := 102) G vr_r dX10_book_102 ?_
    refine z_g (pc := 103) (f := 101) (x := p1) (v := (.long (xj X 101 p1))) G kb_3 gb_X10_461 rfl hX.1 hp1 cr_101 dX10_book_103 ?_
    refine z_aload1 (pc := 106) G vr_r dX10_book_106 ?_
    refine z_g (pc := 107) (f := 106) (x := p1) (v := (.long (((xj X 101 p1) * ((ci S 365 0).toInt64)) / 100))) G kb_3 gb_X10_464 rfl hX.1 hp1 (cr_106.trans (congrArg Value.long ((cj_sn rfl).trans cj_ss))) dX10_book_107 ?_
    refine x_ladd (pc := 110) G dX10_book_110 ?_
    refine x_lload6 (pc := 111) G dX10_book_111 ?_
    refine x_lsub (pc := 113) G dX10_book_113 ?_
    refine z_pJ (pc := 114) (f := 108) G kb_3 gb_X10_383 rfl hX.1 hp1 rfl (cr_108.trans (congrArg Value.long cj_ss)) rfl rfl dX10_book_114 ?_
    refine z_aload1 (pc := 117) G vr_r dX10_book_117 ?_
    refine z_aload0 (pc := 118) G vr_r dX10_book_118 ?_
    refine z_g (pc := 119) (f := 363) (x := 0) (v := (.int (ci S 363 0))) G kb_11 gb_X10_49 rfl hX.1 hX.l11 (cr_363.trans (congrArg Value.int (ci_j.trans (ci_j.trans (ci_j.trans ((ci_sn rfl).trans (ci_sn rfl))))))) dX10_book_119 ?_
    refine z_pI (pc := 122) (f := 109) G kb_3 gb_X10_541 rfl hX.1 hp1 rfl (cr_109.trans (congrArg Value.int ci_ss)) rfl rfl dX10_book_122 ?_
    refine z_aload1 (pc := 125) G vr_r dX10_book_125 ?_
    refine z_aload0 (pc := 126) G vr_r dX10_book_126 ?_
    refine z_g (pc := 127) (f := 363) (x := 0) (v := (.int (ci S 363 0))) G kb_11 gb_X10_49 rfl hX.1 hX.l11 (cr_363.trans (congrArg Value.int ((ci_sn rfl).trans (ci_j.trans (ci_j.trans (ci_j.trans ((ci_sn rfl).trans (ci_sn rfl)))))))) dX10_book_127 ?_
    refine z_aload2 (pc := 130) G vr_r dX10_book_130 ?_
    refine z_g (pc := 131) (f := 291) (x := (xi X 98 p1)) (v := (.int (ci S 291 (xi X 98 p1)))) G kb_9 gb_X10_171 rfl hX.1 (hX.ivS hp1) (cr_291.trans (congrArg Value.int ((ci_sn rfl).trans (ci_j.trans (ci_j.trans (ci_j.trans ((ci_sn rfl).trans (ci_sn rfl)))))))) dX10_book_131 ?_
    refine x_iadd (pc := 134) G dX10_book_134 ?_
    refine z_pI (pc := 135) (f := 110) G kb_3 gb_X10_470 rfl hX.1 hp1 rfl (cr_110.trans (congrArg Value.int ci_ss)) rfl rfl dX10_book_135 ?_
    refine z_aload1 (pc := 138) G vr_r dX10_book_138 ?_
    refine x_iconst (pc := 139) (v := 1) G dX10_book_139 ic_1 ?_
    refine z_pI (pc := 140) (f := 102) G kb_3 gb_X10_353 rfl hX.1 hp1 rfl (cr_102.trans (congrArg Value.int ci_ss)) rfl rfl dX10_book_140 ?_
    refine z_aload3 (pc := 143) G vr_r dX10_book_143 ?_
    refine x_dup (pc := 144) G dX10_book_144 vr_cat ?_
    refine z_g (pc := 145) (f := 133) (x := (xi X 97 p1)) (v := (.int (ci S 133 (xi X 97 p1)))) G kb_4 gb_X10_319 rfl hX.1 (hX.ivL hp1) (cr_133.trans (congrArg Value.int ((ci_sn rfl).trans ((ci_sn rfl).trans ((ci_sn rfl).trans (ci_j.trans (ci_j.trans (ci_j.trans ((ci_sn rfl).trans (ci_sn rfl)))))))))) dX10_book_145 ?_
    refine z_aload1 (pc := 148) G vr_r dX10_book_148 ?_
    refine z_g (pc := 149) (f := 99) (x := p1) (v := (.int (xi X 99 p1))) G kb_3 gb_X10_544 rfl hX.1 hp1 cr_99 dX10_book_149 ?_
    refine x_isub (pc := 152) G dX10_book_152 ?_
    refine z_pI (pc := 153) (f := 133) G kb_4 gb_X10_319 rfl hX.1 (hX.ivL hp1) rfl (cr_133.trans (congrArg Value.int ci_ss)) rfl rfl dX10_book_153 ?_
    refine z_aload3 (pc := 156) G vr_r dX10_book_156 ?_
    refine x_dup (pc := 157) G dX10_book_157 vr_cat ?_
    refine z_g (pc := 158) (f := 132) (x := (xi X 97 p1)) (v := (.int (ci S 132 (xi X 97 p1)))) G kb_4 gb_X10_308 rfl hX.1 (hX.ivL hp1) (cr_132.trans (congrArg Value.int ((ci_sn rfl).trans ((ci_sn rfl).trans ((ci_sn rfl).trans ((ci_sn rfl).trans (ci_j.trans (ci_j.trans (ci_j.trans ((ci_sn rfl).trans (ci_sn rfl))))))))))) dX10_book_158 ?_
    refine z_aload1 (pc := 161) G vr_r dX10_book_161 ?_
    refine z_g (pc := 162) (f := 99) (x := p1) (v := (.int (xi X 99 p1))) G kb_3 gb_X10_544 rfl hX.1 hp1 cr_99 dX10_book_162 ?_
    refine x_iadd (pc := 165) G dX10_book_165 ?_
    refine z_pI (pc := 166) (f := 132) G kb_4 gb_X10_308 rfl hX.1 (hX.ivL hp1) rfl (cr_132.trans (congrArg Value.int ci_ss)) rfl rfl dX10_book_166 ?_
    refine z_aload0 (pc := 169) G vr_r dX10_book_169 ?_
    refine z_aload1 (pc := 170) G vr_r dX10_book_170 ?_
    refine z_g (pc := 171) (f := 96) (x := p1) (v := (vr X 8 (xi X 96 p1))) G kb_3 gb_X10_547 rfl hX.1 hp1 cr_96 dX10_book_171 ?_
    refine z_g (pc := 174) (f := 257) (x := (xi X 96 p1)) (v := (vr X 1 (xi X 257 (xi X 96 p1)))) G kb_8 gb_X10_231 rfl hX.1 (hX.ivR hp1) cr_257 dX10_book_174 ?_
    refine z_aload1 (pc := 177) G vr_r dX10_book_177 ?_
    refine z_g (pc := 178) (f := 107) (x := p1) (v := (.long (((xj X 101 p1) + (((xj X 101 p1) * ((ci S 365 0).toInt64)) / 100)) - (((((xj X 101 p1) * ((ci S 365 0).toInt64)) / 100) * ((ci S 366 0).toInt64)) / 100)))) G kb_3 gb_X10_467 rfl hX.1 hp1 (cr_107.trans (congrArg Value.long (cj_i.trans (cj_i.trans (cj_i.trans (cj_i.trans (cj_i.trans ((cj_sn rfl).trans cj_ss)))))))) dX10_book_178 ?_
    refine z_cVv2 (pc := 181) G kb_11 hX.1 hX.l11 (ck_spend hl hX (hX.cent (hX.ivR hp1)) (ty_of ((ci_sn rfl).trans ((ci_sn rfl).trans ((ci_sn rfl).trans ((ci_sn rfl).trans ((ci_sn rfl).trans (ci_j.trans (ci_j.trans (ci_j.trans ((ci_sn rfl).trans (ci_sn rfl)))))))))) (hy _ (hX.cent (hX.ivR hp1))))) rfl q_ml_X10_406 h_X10_spend ⟨Nat.le_of_ble_eq_true rfl, Nat.le_of_ble_eq_true rfl⟩ (Nat.le_of_ble_eq_true rfl) (Nat.le_refl _) (Nat.le_refl _) dX10_book_181 ?_
    refine z_aload1 (pc := 184) G vr_r dX10_book_184 ?_
    refine z_g (pc := 185) (f := 96) (x := p1) (v := (vr X 8 (xi X 96 p1))) G kb_3 gb_X10_547 rfl hX.1 hp1 cr_96 dX10_book_185 ?_
    refine z_aload1 (pc := 188) G vr_r dX10_book_188 ?_
    refine z_cV0 (pc := 189) G kb_3 hX.1 hp1 (ck_orderedValue hl hX hp1 ) rfl q_ml_X10_551 h_X2_orderedValue ⟨Nat.le_of_ble_eq_true rfl, Nat.le_of_ble_eq_true rfl⟩ (by simp only [List.map_cons, List.map_nil, vr_cat]; exact Nat.le_of_ble_eq_true rfl) (Nat.le_refl _) (Nat.le_refl _) dX10_book_189 ?_
    refine x_cS2 (pc := 192) G (ck_release hl hX (hX.ivR hp1) (rel_of ((ci_spend).trans ((ci_sn rfl).trans ((ci_sn rfl).trans ((ci_sn rfl).trans ((ci_sn rfl).trans ((ci_sn rfl).trans (ci_j.trans (ci_j.trans (ci_j.trans ((ci_sn rfl).trans (ci_sn rfl))))))))))) ((cj_spend rfl).trans (cj_i.trans (cj_i.trans (cj_i.trans (cj_i.trans (cj_i.trans ((cj_sn rfl).trans ((cj_sn rfl).trans ((cj_sn rfl).trans (cj_i.trans cj_i)))))))))) (hq _ (hX.ivR hp1)))) q_ml_X10_276 h_X10_release ⟨Nat.le_of_ble_eq_true rfl, Nat.le_of_ble_eq_true rfl⟩ (Nat.le_of_ble_eq_true rfl) (Nat.le_refl _) (Nat.le_refl _) dX10_book_192 ?_
    refine x_pop2 (pc := 195) G dX10_book_195 rfl ?_
    refine z_aload0 (pc := 196) G vr_r dX10_book_196 ?_
    refine x_iconst (pc := 197) (v := 0) G dX10_book_197 ic_0 ?_
    refine z_aload1 (pc := 198) G vr_r dX10_book_198 ?_
    refine z_g (pc := 199) (f := 107) (x := p1) (v := (.long (((xj X 101 p1) + (((xj X 101 p1) * ((ci S 365 0).toInt64)) / 100)) - (((((xj X 101 p1) * ((ci S 365 0).toInt64)) / 100) * ((ci S 366 0).toInt64)) / 100)))) G kb_3 gb_X10_467 rfl hX.1 hp1 (cr_107.trans (congrArg Value.long ((cj_release rfl rfl).trans ((cj_spend rfl).trans (cj_i.trans (cj_i.trans (cj_i.trans (cj_i.trans (cj_i.trans ((cj_sn rfl).trans cj_ss)))))))))) dX10_book_199 ?_
    refine z_cVv2 (pc := 202) G kb_11 hX.1 hX.l11 (ck_post hl hX  (by decide)) rfl q_ml_X10_389 h_X10_post ⟨Nat.le_of_ble_eq_true rfl, Nat.le_of_ble_eq_true rfl⟩ (Nat.le_of_ble_eq_true rfl) (Nat.le_refl _) (Nat.le_refl _) dX10_book_202 ?_
    refine z_aload0 (pc := 205) G vr_r dX10_book_205 ?_
    refine x_iconst (pc := 206) (v := 3) G dX10_book_206 ic_3 ?_
    refine x_lload4 (pc := 207) G dX10_book_207 ?_
    refine x_lload6 (pc := 209) G dX10_book_209 ?_
    refine x_lsub (pc := 211) G dX10_book_211 ?_
    refine z_cVv2 (pc := 212) G kb_11 hX.1 hX.l11 (ck_post hl hX  (by decide)) rfl q_ml_X10_389 h_X10_post ⟨Nat.le_of_ble_eq_true rfl, Nat.le_of_ble_eq_true rfl⟩ (Nat.le_of_ble_eq_true rfl) (Nat.le_refl _) (Nat.le_refl _) dX10_book_212 ?_
    refine z_aload0 (pc := 215) G vr_r dX10_book_215 ?_
    refine x_iconst (pc := 216) (v := 1) G dX10_book_216 ic_1 ?_
    refine z_aload1 (pc := 217) G vr_r dX10_book_217 ?_
    refine z_g (pc := 218) (f := 108) (x := p1) (v := (.long (((xj X 101 p1) + (((xj X 101 p1) * ((ci S 365 0).toInt64)) / 100)) - (((xj X 101 p1) * ((ci S 365 0).toInt64)) / 100)))) G kb_3 gb_X10_383 rfl hX.1 hp1 (cr_108.trans (congrArg Value.long ((cj_post rfl).trans ((cj_post rfl).trans ((cj_release rfl rfl).trans ((cj_spend rfl).trans (cj_i.trans (cj_i.trans (cj_i.trans (cj_i.trans (cj_i.trans cj_ss))))))))))) dX10_book_218 ?_
    refine x_lneg (pc := 221) G dX10_book_221 ?_
    refine z_cVv2 (pc := 222) G kb_11 hX.1 hX.l11 (ck_post hl hX  (by decide)) rfl q_ml_X10_389 h_X10_post ⟨Nat.le_of_ble_eq_true rfl, Nat.le_of_ble_eq_true rfl⟩ (Nat.le_of_ble_eq_true rfl) (Nat.le_refl _) (Nat.le_refl _) dX10_book_222 ?_
    exact x_vret (pc := 225) G B rfl dX10_book_225 ⟨rfl, by rw [k_book, if_neg c1]⟩
  refine x_iconst (pc := 18) (v := 1) G dX10_book_18 ic_1 ?_
  refine x_goto (pc := 19) (tgt := 23) G dX10_book_19 rfl ?_
  refine z_pI (pc := 23) (f := 104) G kb_3 gb_X10_537 rfl hX.1 hp1 rfl (cr_104.trans (congrArg Value.int ci_ss)) (by decide) rfl dX10_book_23 ?_
  refine z_aload1 (pc := 26) G vr_r dX10_book_26 ?_
  refine z_aload0 (pc := 27) G vr_r dX10_book_27 ?_
  refine z_g (pc := 28) (f := 365) (x := 0) (v := (.int (ci S 365 0))) G kb_11 gb_X10_56 rfl hX.1 hX.l11 (cr_365.trans (congrArg Value.int (ci_sn rfl))) dX10_book_28 ?_
  refine z_pI (pc := 31) (f := 105) G kb_3 gb_X10_540 rfl hX.1 hp1 rfl (cr_105.trans (congrArg Value.int ci_ss)) rfl rfl dX10_book_31 ?_
  refine z_aload1 (pc := 34) G vr_r dX10_book_34 ?_
  refine z_aload1 (pc := 35) G vr_r dX10_book_35 ?_
  refine z_g (pc := 36) (f := 101) (x := p1) (v := (.long (xj X 101 p1))) G kb_3 gb_X10_461 rfl hX.1 hp1 cr_101 dX10_book_36 ?_
  refine z_aload0 (pc := 39) G vr_r dX10_book_39 ?_
  refine z_g (pc := 40) (f := 365) (x := 0) (v := (.int (ci S 365 0))) G kb_11 gb_X10_56 rfl hX.1 hX.l11 (cr_365.trans (congrArg Value.int ((ci_sn rfl).trans (ci_sn rfl)))) dX10_book_40 ?_
  refine x_i2l (pc := 43) G dX10_book_43 ?_
  refine x_lmul (pc := 44) G dX10_book_44 ?_
  refine x_ldc2 (pc := 45) G q_cL_X10_329 dX10_book_45 ?_
  refine x_ldiv (pc := 48) G dX10_book_48 (by decide) ?_
  refine z_pJ (pc := 49) (f := 106) G kb_3 gb_X10_464 rfl hX.1 hp1 rfl (cr_106.trans (congrArg Value.long cj_ss)) rfl rfl dX10_book_49 ?_
  refine z_aload1 (pc := 52) G vr_r dX10_book_52 ?_
  refine z_g (pc := 53) (f := 106) (x := p1) (v := (.long (((xj X 101 p1) * ((ci S 365 0).toInt64)) / 100))) G kb_3 gb_X10_464 rfl hX.1 hp1 (cr_106.trans (congrArg Value.long cj_ss)) dX10_book_53 ?_
  refine z_aload0 (pc := 56) G vr_r dX10_book_56 ?_
  refine z_g (pc := 57) (f := 366) (x := 0) (v := (.int (ci S 366 0))) G kb_11 gb_X10_59 rfl hX.1 hX.l11 (cr_366.trans (congrArg Value.int (ci_j.trans ((ci_sn rfl).trans (ci_sn rfl))))) dX10_book_57 ?_
  refine x_i2l (pc := 60) G dX10_book_60 ?_
  refine x_lmul (pc := 61) G dX10_book_61 ?_
  refine x_ldc2 (pc := 62) G q_cL_X10_329 dX10_book_62 ?_
  refine x_ldiv (pc := 65) G dX10_book_65 (by decide) ?_
  refine x_lstore4 (pc := 66) G dX10_book_66 (Nat.le_of_ble_eq_true rfl) lp_c2_vr ?_
  refine z_aload1 (pc := 68) G vr_r dX10_book_68 ?_
  refine z_g (pc := 69) (f := 104) (x := p1) (v := (.int 1)) G kb_3 gb_X10_537 rfl hX.1 hp1 (cr_104.trans (congrArg Value.int (ci_j.trans ((ci_sn rfl).trans ci_ss)))) dX10_book_69 ?_
  refine x_if_eq (pc := 72) (y := 0) (tgt := 79) G dX10_book_72 rfl (fun q => absurd q (by decide)) (fun _ => ?_)
  refine x_lconst (pc := 75) (v := 0) G dX10_book_75 lc_0 ?_
  refine x_goto (pc := 76) (tgt := 83) G dX10_book_76 rfl ?_
  refine x_lstore6 (pc := 83) G dX10_book_83 (Nat.le_of_ble_eq_true rfl) rfl ?_
  refine z_aload1 (pc := 85) G vr_r dX10_book_85 ?_
  refine z_aload1 (pc := 86) G vr_r dX10_book_86 ?_
  refine z_g (pc := 87) (f := 101) (x := p1) (v := (.long (xj X 101 p1))) G kb_3 gb_X10_461 rfl hX.1 hp1 cr_101 dX10_book_87 ?_
  refine z_aload1 (pc := 90) G vr_r dX10_book_90 ?_
  refine z_g (pc := 91) (f := 106) (x := p1) (v := (.long (((xj X 101 p1) * ((ci S 365 0).toInt64)) / 100))) G kb_3 gb_X10_464 rfl hX.1 hp1 (cr_106.trans (congrArg Value.long cj_ss)) dX10_book_91 ?_
  refine x_ladd (pc := 94) G dX10_book_94 ?_
  refine x_lload4 (pc := 95) G dX10_book_95 ?_
  refine x_lsub (pc := 97) G dX10_book_97 ?_
  refine z_pJ (pc := 98) (f := 107) G kb_3 gb_X10_467 rfl hX.1 hp1 rfl (cr_107.trans (congrArg Value.long cj_ss)) rfl rfl dX10_book_98 ?_
  refine z_aload1 (pc := 101) G vr_r dX10_book_101 ?_
  refine z_aload1 (pc := 102) G vr_r dX10_book_102 ?_
  refine z_g (pc := 103) (f := 101) (x := p1) (v := (.long (xj X 101 p1))) G kb_3 gb_X10_461 rfl hX.1 hp1 cr_101 dX10_book_103 ?_
  refine z_aload1 (pc := 106) G vr_r dX10_book_106 ?_
  refine z_g (pc := 107) (f := 106) (x := p1) (v := (.long (((xj X 101 p1) * ((ci S 365 0).toInt64)) / 100))) G kb_3 gb_X10_464 rfl hX.1 hp1 (cr_106.trans (congrArg Value.long ((cj_sn rfl).trans cj_ss))) dX10_book_107 ?_
  refine x_ladd (pc := 110) G dX10_book_110 ?_
  refine x_lload6 (pc := 111) G dX10_book_111 ?_
  refine x_lsub (pc := 113) G dX10_book_113 ?_
  refine z_pJ (pc := 114) (f := 108) G kb_3 gb_X10_383 rfl hX.1 hp1 rfl (cr_108.trans (congrArg Value.long cj_ss)) rfl rfl dX10_book_114 ?_
  refine z_aload1 (pc := 117) G vr_r dX10_book_117 ?_
  refine z_aload0 (pc := 118) G vr_r dX10_book_118 ?_
  refine z_g (pc := 119) (f := 363) (x := 0) (v := (.int (ci S 363 0))) G kb_11 gb_X10_49 rfl hX.1 hX.l11 (cr_363.trans (congrArg Value.int (ci_j.trans (ci_j.trans (ci_j.trans ((ci_sn rfl).trans (ci_sn rfl))))))) dX10_book_119 ?_
  refine z_pI (pc := 122) (f := 109) G kb_3 gb_X10_541 rfl hX.1 hp1 rfl (cr_109.trans (congrArg Value.int ci_ss)) rfl rfl dX10_book_122 ?_
  refine z_aload1 (pc := 125) G vr_r dX10_book_125 ?_
  refine z_aload0 (pc := 126) G vr_r dX10_book_126 ?_
  refine z_g (pc := 127) (f := 363) (x := 0) (v := (.int (ci S 363 0))) G kb_11 gb_X10_49 rfl hX.1 hX.l11 (cr_363.trans (congrArg Value.int ((ci_sn rfl).trans (ci_j.trans (ci_j.trans (ci_j.trans ((ci_sn rfl).trans (ci_sn rfl)))))))) dX10_book_127 ?_
  refine z_aload2 (pc := 130) G vr_r dX10_book_130 ?_
  refine z_g (pc := 131) (f := 291) (x := (xi X 98 p1)) (v := (.int (ci S 291 (xi X 98 p1)))) G kb_9 gb_X10_171 rfl hX.1 (hX.ivS hp1) (cr_291.trans (congrArg Value.int ((ci_sn rfl).trans (ci_j.trans (ci_j.trans (ci_j.trans ((ci_sn rfl).trans (ci_sn rfl)))))))) dX10_book_131 ?_
  refine x_iadd (pc := 134) G dX10_book_134 ?_
  refine z_pI (pc := 135) (f := 110) G kb_3 gb_X10_470 rfl hX.1 hp1 rfl (cr_110.trans (congrArg Value.int ci_ss)) rfl rfl dX10_book_135 ?_
  refine z_aload1 (pc := 138) G vr_r dX10_book_138 ?_
  refine x_iconst (pc := 139) (v := 1) G dX10_book_139 ic_1 ?_
  refine z_pI (pc := 140) (f := 102) G kb_3 gb_X10_353 rfl hX.1 hp1 rfl (cr_102.trans (congrArg Value.int ci_ss)) rfl rfl dX10_book_140 ?_
  refine z_aload3 (pc := 143) G vr_r dX10_book_143 ?_
  refine x_dup (pc := 144) G dX10_book_144 vr_cat ?_
  refine z_g (pc := 145) (f := 133) (x := (xi X 97 p1)) (v := (.int (ci S 133 (xi X 97 p1)))) G kb_4 gb_X10_319 rfl hX.1 (hX.ivL hp1) (cr_133.trans (congrArg Value.int ((ci_sn rfl).trans ((ci_sn rfl).trans ((ci_sn rfl).trans (ci_j.trans (ci_j.trans (ci_j.trans ((ci_sn rfl).trans (ci_sn rfl)))))))))) dX10_book_145 ?_
  refine z_aload1 (pc := 148) G vr_r dX10_book_148 ?_
  refine z_g (pc := 149) (f := 99) (x := p1) (v := (.int (xi X 99 p1))) G kb_3 gb_X10_544 rfl hX.1 hp1 cr_99 dX10_book_149 ?_
  refine x_isub (pc := 152) G dX10_book_152 ?_
  refine z_pI (pc := 153) (f := 133) G kb_4 gb_X10_319 rfl hX.1 (hX.ivL hp1) rfl (cr_133.trans (congrArg Value.int ci_ss)) rfl rfl dX10_book_153 ?_
  refine z_aload3 (pc := 156) G vr_r dX10_book_156 ?_
  refine x_dup (pc := 157) G dX10_book_157 vr_cat ?_
  refine z_g (pc := 158) (f := 132) (x := (xi X 97 p1)) (v := (.int (ci S 132 (xi X 97 p1)))) G kb_4 gb_X10_308 rfl hX.1 (hX.ivL hp1) (cr_132.trans (congrArg Value.int ((ci_sn rfl).trans ((ci_sn rfl).trans ((ci_sn rfl).trans ((ci_sn rfl).trans (ci_j.trans (ci_j.trans (ci_j.trans ((ci_sn rfl).trans (ci_sn rfl))))))))))) dX10_book_158 ?_
  refine z_aload1 (pc := 161) G vr_r dX10_book_161 ?_
  refine z_g (pc := 162) (f := 99) (x := p1) (v := (.int (xi X 99 p1))) G kb_3 gb_X10_544 rfl hX.1 hp1 cr_99 dX10_book_162 ?_
  refine x_iadd (pc := 165) G dX10_book_165 ?_
  refine z_pI (pc := 166) (f := 132) G kb_4 gb_X10_308 rfl hX.1 (hX.ivL hp1) rfl (cr_132.trans (congrArg Value.int ci_ss)) rfl rfl dX10_book_166 ?_
  refine z_aload0 (pc := 169) G vr_r dX10_book_169 ?_
  refine z_aload1 (pc := 170) G vr_r dX10_book_170 ?_
  refine z_g (pc := 171) (f := 96) (x := p1) (v := (vr X 8 (xi X 96 p1))) G kb_3 gb_X10_547 rfl hX.1 hp1 cr_96 dX10_book_171 ?_
  refine z_g (pc := 174) (f := 257) (x := (xi X 96 p1)) (v := (vr X 1 (xi X 257 (xi X 96 p1)))) G kb_8 gb_X10_231 rfl hX.1 (hX.ivR hp1) cr_257 dX10_book_174 ?_
  refine z_aload1 (pc := 177) G vr_r dX10_book_177 ?_
  refine z_g (pc := 178) (f := 107) (x := p1) (v := (.long (((xj X 101 p1) + (((xj X 101 p1) * ((ci S 365 0).toInt64)) / 100)) - (((((xj X 101 p1) * ((ci S 365 0).toInt64)) / 100) * ((ci S 366 0).toInt64)) / 100)))) G kb_3 gb_X10_467 rfl hX.1 hp1 (cr_107.trans (congrArg Value.long (cj_i.trans (cj_i.trans (cj_i.trans (cj_i.trans (cj_i.trans ((cj_sn rfl).trans cj_ss)))))))) dX10_book_178 ?_
  refine z_cVv2 (pc := 181) G kb_11 hX.1 hX.l11 (ck_spend hl hX (hX.cent (hX.ivR hp1)) (ty_of ((ci_sn rfl).trans ((ci_sn rfl).trans ((ci_sn rfl).trans ((ci_sn rfl).trans ((ci_sn rfl).trans (ci_j.trans (ci_j.trans (ci_j.trans ((ci_sn rfl).trans (ci_sn rfl)))))))))) (hy _ (hX.cent (hX.ivR hp1))))) rfl q_ml_X10_406 h_X10_spend ⟨Nat.le_of_ble_eq_true rfl, Nat.le_of_ble_eq_true rfl⟩ (Nat.le_of_ble_eq_true rfl) (Nat.le_refl _) (Nat.le_refl _) dX10_book_181 ?_
  refine z_aload1 (pc := 184) G vr_r dX10_book_184 ?_
  refine z_g (pc := 185) (f := 96) (x := p1) (v := (vr X 8 (xi X 96 p1))) G kb_3 gb_X10_547 rfl hX.1 hp1 cr_96 dX10_book_185 ?_
  refine z_aload1 (pc := 188) G vr_r dX10_book_188 ?_
  refine z_cV0 (pc := 189) G kb_3 hX.1 hp1 (ck_orderedValue hl hX hp1 ) rfl q_ml_X10_551 h_X2_orderedValue ⟨Nat.le_of_ble_eq_true rfl, Nat.le_of_ble_eq_true rfl⟩ (by simp only [List.map_cons, List.map_nil, vr_cat]; exact Nat.le_of_ble_eq_true rfl) (Nat.le_refl _) (Nat.le_refl _) dX10_book_189 ?_
  refine x_cS2 (pc := 192) G (ck_release hl hX (hX.ivR hp1) (rel_of ((ci_spend).trans ((ci_sn rfl).trans ((ci_sn rfl).trans ((ci_sn rfl).trans ((ci_sn rfl).trans ((ci_sn rfl).trans (ci_j.trans (ci_j.trans (ci_j.trans ((ci_sn rfl).trans (ci_sn rfl))))))))))) ((cj_spend rfl).trans (cj_i.trans (cj_i.trans (cj_i.trans (cj_i.trans (cj_i.trans ((cj_sn rfl).trans ((cj_sn rfl).trans ((cj_sn rfl).trans (cj_i.trans cj_i)))))))))) (hq _ (hX.ivR hp1)))) q_ml_X10_276 h_X10_release ⟨Nat.le_of_ble_eq_true rfl, Nat.le_of_ble_eq_true rfl⟩ (Nat.le_of_ble_eq_true rfl) (Nat.le_refl _) (Nat.le_refl _) dX10_book_192 ?_
  refine x_pop2 (pc := 195) G dX10_book_195 rfl ?_
  refine z_aload0 (pc := 196) G vr_r dX10_book_196 ?_
  refine x_iconst (pc := 197) (v := 0) G dX10_book_197 ic_0 ?_
  refine z_aload1 (pc := 198) G vr_r dX10_book_198 ?_
  refine z_g (pc := 199) (f := 107) (x := p1) (v := (.long (((xj X 101 p1) + (((xj X 101 p1) * ((ci S 365 0).toInt64)) / 100)) - (((((xj X 101 p1) * ((ci S 365 0).toInt64)) / 100) * ((ci S 366 0).toInt64)) / 100)))) G kb_3 gb_X10_467 rfl hX.1 hp1 (cr_107.trans (congrArg Value.long ((cj_release rfl rfl).trans ((cj_spend rfl).trans (cj_i.trans (cj_i.trans (cj_i.trans (cj_i.trans (cj_i.trans ((cj_sn rfl).trans cj_ss)))))))))) dX10_book_199 ?_
  refine z_cVv2 (pc := 202) G kb_11 hX.1 hX.l11 (ck_post hl hX  (by decide)) rfl q_ml_X10_389 h_X10_post ⟨Nat.le_of_ble_eq_true rfl, Nat.le_of_ble_eq_true rfl⟩ (Nat.le_of_ble_eq_true rfl) (Nat.le_refl _) (Nat.le_refl _) dX10_book_202 ?_
  refine z_aload0 (pc := 205) G vr_r dX10_book_205 ?_
  refine x_iconst (pc := 206) (v := 3) G dX10_book_206 ic_3 ?_
  refine x_lload4 (pc := 207) G dX10_book_207 ?_
  refine x_lload6 (pc := 209) G dX10_book_209 ?_
  refine x_lsub (pc := 211) G dX10_book_211 ?_
  refine z_cVv2 (pc := 212) G kb_11 hX.1 hX.l11 (ck_post hl hX  (by decide)) rfl q_ml_X10_389 h_X10_post ⟨Nat.le_of_ble_eq_true rfl, Nat.le_of_ble_eq_true rfl⟩ (Nat.le_of_ble_eq_true rfl) (Nat.le_refl _) (Nat.le_refl _) dX10_book_212 ?_
  refine z_aload0 (pc := 215) G vr_r dX10_book_215 ?_
  refine x_iconst (pc := 216) (v := 1) G dX10_book_216 ic_1 ?_
  refine z_aload1 (pc := 217) G vr_r dX10_book_217 ?_
  refine z_g (pc := 218) (f := 108) (x := p1) (v := (.long (((xj X 101 p1) + (((xj X 101 p1) * ((ci S 365 0).toInt64)) / 100)) - 0))) G kb_3 gb_X10_383 rfl hX.1 hp1 (cr_108.trans (congrArg Value.long ((cj_post rfl).trans ((cj_post rfl).trans ((cj_release rfl rfl).trans ((cj_spend rfl).trans (cj_i.trans (cj_i.trans (cj_i.trans (cj_i.trans (cj_i.trans cj_ss))))))))))) dX10_book_218 ?_
  refine x_lneg (pc := 221) G dX10_book_221 ?_
  refine z_cVv2 (pc := 222) G kb_11 hX.1 hX.l11 (ck_post hl hX  (by decide)) rfl q_ml_X10_389 h_X10_post ⟨Nat.le_of_ble_eq_true rfl, Nat.le_of_ble_eq_true rfl⟩ (Nat.le_of_ble_eq_true rfl) (Nat.le_refl _) (Nat.le_refl _) dX10_book_222 ?_
  exact x_vret (pc := 225) G B rfl dX10_book_225 ⟨rfl, by rw [k_book, if_pos c1]⟩
theorem dX10_bookUnlessHeld_0 : decode cX10_bookUnlessHeld 0 = .ok (.aload_n 1, 1) := by decide +kernel
theorem dX10_bookUnlessHeld_1 : decode cX10_bookUnlessHeld 1 = .ok (.invokevirtual 458, 3) := by decide +kernel
theorem dX10_bookUnlessHeld_4 : decode cX10_bookUnlessHeld 4 = .ok (.ifCond .eq 5, 3) := by decide +kernel
theorem dX10_bookUnlessHeld_7 : decode cX10_bookUnlessHeld 7 = .ok (.iconst 0, 1) := by decide +kernel
theorem dX10_bookUnlessHeld_8 : decode cX10_bookUnlessHeld 8 = .ok (.ireturn, 1) := by decide +kernel
theorem dX10_bookUnlessHeld_9 : decode cX10_bookUnlessHeld 9 = .ok (.aload_n 0, 1) := by decide +kernel
theorem dX10_bookUnlessHeld_10 : decode cX10_bookUnlessHeld 10 = .ok (.aload_n 1, 1) := by decide +kernel
theorem dX10_bookUnlessHeld_11 : decode cX10_bookUnlessHeld 11 = .ok (.invokevirtual 533, 3) := by decide +kernel
theorem dX10_bookUnlessHeld_14 : decode cX10_bookUnlessHeld 14 = .ok (.iconst 1, 1) := by decide +kernel
theorem dX10_bookUnlessHeld_15 : decode cX10_bookUnlessHeld 15 = .ok (.ireturn, 1) := by decide +kernel
def k_bookUnlessHeld (p1 : Int32) (X : CX) (S : CT) : Int32 × CT :=
    if (k_reasons p1 X S) = 0 then
      (1, (k_book p1 X S))
    else
    (0, S)
abbrev rm_X10_bookUnlessHeld : Room := { frames := 11, cells := 0, slots := 0, locals := 205 }
set_option maxRecDepth 100000 in
set_option maxHeartbeats 4000000 in
theorem ck_bookUnlessHeld {l : Launch} {k : KC} (hl : l.stackTraces = false) {X : CX} {S : CT} (hX : XOK X) {p1 : Int32} (hp1 : lI X 3 p1) (hy : ∀ x, lI X 1 x → P_num (k_thisYear X S) (nS X 28 x)) (hq : ∀ r, lI X 8 r → 0 < cj S 261 r → P_num (ci S 260 r) (nS X 28 (xi X 257 r)))  : MC l k yX10_bookUnlessHeld (.code yX10_bookUnlessHeld cX10_bookUnlessHeld 2 (some .boolean)) rm_X10_bookUnlessHeld [(vr X 11 0), (vr X 3 p1)] (cW k X S) (pR (some (.int (k_bookUnlessHeld p1 X S).1)) (cW k X (k_bookUnlessHeld p1 X S).2)) := by
  refine MC.of 0 hl (by decide) (by simp only [lg_sl_vr, lg_sl_i, lg_sl_l, lg_sl_0]; exact Nat.le_of_ble_eq_true rfl) ?_
  intro p e s m args below meth c A Q G B B2 hout
  simp only [lp_args_vr, lp_args_i, lp_args_l, lp_args_0]
  show Wx p l e rm_X10_bookUnlessHeld s m args below meth c k A 2 Q 0 0 0 [some ((vr X 11 0)), some ((vr X 3 p1))] [] (cW k X S)
  refine z_aload1 (pc := 0) G vr_r dX10_bookUnlessHeld_0 ?_
  refine z_cV0 (pc := 1) G kb_3 hX.1 hp1 (ck_reasons hl hX hp1 ) rfl q_ml_X10_458 h_X2_reasons ⟨Nat.le_of_ble_eq_true rfl, Nat.le_of_ble_eq_true rfl⟩ (Nat.le_of_ble_eq_true rfl) (Nat.le_refl _) (Nat.le_refl _) dX10_bookUnlessHeld_1 ?_
  refine x_if_eq (pc := 4) (y := 0) (tgt := 9) G dX10_bookUnlessHeld_4 rfl (fun c1 => ?_) (fun c1 => ?_)
  · refine z_aload0 (pc := 9) G vr_r dX10_bookUnlessHeld_9 ?_
    refine z_aload1 (pc := 10) G vr_r dX10_bookUnlessHeld_10 ?_
    refine z_cVv1 (pc := 11) G kb_11 hX.1 hX.l11 (ck_book hl hX hp1 hy hq) rfl q_ml_X10_533 h_X10_book ⟨Nat.le_of_ble_eq_true rfl, Nat.le_of_ble_eq_true rfl⟩ (Nat.le_of_ble_eq_true rfl) (Nat.le_refl _) (Nat.le_refl _) dX10_bookUnlessHeld_11 ?_
    refine x_iconst (pc := 14) (v := 1) G dX10_bookUnlessHeld_14 ic_1 ?_
    exact x_zret (pc := 15) G B rfl (by decide) dX10_bookUnlessHeld_15 ⟨by rw [k_bookUnlessHeld, if_pos c1], by rw [k_bookUnlessHeld, if_pos c1]⟩
  refine x_iconst (pc := 7) (v := 0) G dX10_bookUnlessHeld_7 ic_0 ?_
  exact x_zret (pc := 8) G B rfl (by decide) dX10_bookUnlessHeld_8 ⟨by rw [k_bookUnlessHeld, if_neg c1], by rw [k_bookUnlessHeld, if_neg c1]⟩
