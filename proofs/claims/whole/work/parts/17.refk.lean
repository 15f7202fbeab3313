theorem dX11_change_0 : decode cX11_change 0 = .ok (.aload_n 0, 1) := by decide +kernel
theorem dX11_change_1 : decode cX11_change 1 = .ok (.iload_n 1, 1) := by decide +kernel
theorem dX11_change_2 : decode cX11_change 2 = .ok (.iload_n 2, 1) := by decide +kernel
theorem dX11_change_3 : decode cX11_change 3 = .ok (.invokevirtual 278, 3) := by decide +kernel
theorem dX11_change_6 : decode cX11_change 6 = .ok (.istore 4, 2) := by decide +kernel
theorem dX11_change_8 : decode cX11_change 8 = .ok (.iload 4, 2) := by decide +kernel
theorem dX11_change_10 : decode cX11_change 10 = .ok (.ifCond .eq 11, 3) := by decide +kernel
theorem dX11_change_13 : decode cX11_change 13 = .ok (.iconst 4, 1) := by decide +kernel
theorem dX11_change_14 : decode cX11_change 14 = .ok (.iload_n 1, 1) := by decide +kernel
theorem dX11_change_15 : decode cX11_change 15 = .ok (.imul, 1) := by decide +kernel
theorem dX11_change_16 : decode cX11_change 16 = .ok (.iload_n 2, 1) := by decide +kernel
theorem dX11_change_17 : decode cX11_change 17 = .ok (.iadd, 1) := by decide +kernel
theorem dX11_change_18 : decode cX11_change 18 = .ok (.goto 4, 3) := by decide +kernel
theorem dX11_change_21 : decode cX11_change 21 = .ok (.iconst 0, 1) := by decide +kernel
theorem dX11_change_22 : decode cX11_change 22 = .ok (.istore 5, 2) := by decide +kernel
theorem dX11_change_24 : decode cX11_change 24 = .ok (.aload_n 0, 1) := by decide +kernel
theorem dX11_change_25 : decode cX11_change 25 = .ok (.iload 4, 2) := by decide +kernel
theorem dX11_change_27 : decode cX11_change 27 = .ok (.ifCond .ne 7, 3) := by decide +kernel
theorem dX11_change_30 : decode cX11_change 30 = .ok (.iconst 1, 1) := by decide +kernel
theorem dX11_change_31 : decode cX11_change 31 = .ok (.goto 33, 3) := by decide +kernel
theorem dX11_change_34 : decode cX11_change 34 = .ok (.iload_n 3, 1) := by decide +kernel
theorem dX11_change_35 : decode cX11_change 35 = .ok (.iconst 1, 1) := by decide +kernel
theorem dX11_change_36 : decode cX11_change 36 = .ok (.bipush 99, 2) := by decide +kernel
theorem dX11_change_38 : decode cX11_change 38 = .ok (.invokestatic 181, 3) := by decide +kernel
theorem dX11_change_41 : decode cX11_change 41 = .ok (.ifCond .ne 7, 3) := by decide +kernel
theorem dX11_change_44 : decode cX11_change 44 = .ok (.iconst 2, 1) := by decide +kernel
theorem dX11_change_45 : decode cX11_change 45 = .ok (.goto 19, 3) := by decide +kernel
theorem dX11_change_48 : decode cX11_change 48 = .ok (.aload_n 0, 1) := by decide +kernel
theorem dX11_change_49 : decode cX11_change 49 = .ok (.iload_n 1, 1) := by decide +kernel
theorem dX11_change_50 : decode cX11_change 50 = .ok (.iload 5, 2) := by decide +kernel
theorem dX11_change_52 : decode cX11_change 52 = .ok (.iload_n 3, 1) := by decide +kernel
theorem dX11_change_53 : decode cX11_change 53 = .ok (.invokevirtual 298, 3) := by decide +kernel
theorem dX11_change_56 : decode cX11_change 56 = .ok (.ifCond .eq 7, 3) := by decide +kernel
theorem dX11_change_59 : decode cX11_change 59 = .ok (.iconst 0, 1) := by decide +kernel
theorem dX11_change_60 : decode cX11_change 60 = .ok (.goto 4, 3) := by decide +kernel
theorem dX11_change_63 : decode cX11_change 63 = .ok (.iconst 3, 1) := by decide +kernel
theorem dX11_change_64 : decode cX11_change 64 = .ok (.invokevirtual 210, 3) := by decide +kernel
theorem dX11_change_67 : decode cX11_change 67 = .ok (.ifCond .ne 5, 3) := by decide +kernel
theorem dX11_change_70 : decode cX11_change 70 = .ok (.iconst 0, 1) := by decide +kernel
theorem dX11_change_71 : decode cX11_change 71 = .ok (.ireturn, 1) := by decide +kernel
theorem dX11_change_72 : decode cX11_change 72 = .ok (.iload_n 3, 1) := by decide +kernel
theorem dX11_change_73 : decode cX11_change 73 = .ok (.aload_n 0, 1) := by decide +kernel
theorem dX11_change_74 : decode cX11_change 74 = .ok (.getfield 78, 3) := by decide +kernel
theorem dX11_change_77 : decode cX11_change 77 = .ok (.iload 5, 2) := by decide +kernel
theorem dX11_change_79 : decode cX11_change 79 = .ok (.iaload, 1) := by decide +kernel
theorem dX11_change_80 : decode cX11_change 80 = .ok (.isub, 1) := by decide +kernel
theorem dX11_change_81 : decode cX11_change 81 = .ok (.i2l, 1) := by decide +kernel
theorem dX11_change_82 : decode cX11_change 82 = .ok (.aload_n 0, 1) := by decide +kernel
theorem dX11_change_83 : decode cX11_change 83 = .ok (.getfield 81, 3) := by decide +kernel
theorem dX11_change_86 : decode cX11_change 86 = .ok (.iload 5, 2) := by decide +kernel
theorem dX11_change_88 : decode cX11_change 88 = .ok (.iaload, 1) := by decide +kernel
theorem dX11_change_89 : decode cX11_change 89 = .ok (.i2l, 1) := by decide +kernel
theorem dX11_change_90 : decode cX11_change 90 = .ok (.lmul, 1) := by decide +kernel
theorem dX11_change_91 : decode cX11_change 91 = .ok (.lstore 6, 2) := by decide +kernel
theorem dX11_change_93 : decode cX11_change 93 = .ok (.aload_n 0, 1) := by decide +kernel
theorem dX11_change_94 : decode cX11_change 94 = .ok (.getfield 78, 3) := by decide +kernel
theorem dX11_change_97 : decode cX11_change 97 = .ok (.iload 5, 2) := by decide +kernel
theorem dX11_change_99 : decode cX11_change 99 = .ok (.iload_n 3, 1) := by decide +kernel
theorem dX11_change_100 : decode cX11_change 100 = .ok (.iastore, 1) := by decide +kernel
theorem dX11_change_101 : decode cX11_change 101 = .ok (.lload 6, 2) := by decide +kernel
theorem dX11_change_103 : decode cX11_change 103 = .ok (.lconst 0, 1) := by decide +kernel
theorem dX11_change_104 : decode cX11_change 104 = .ok (.lcmp, 1) := by decide +kernel
theorem dX11_change_105 : decode cX11_change 105 = .ok (.ifCond .le 13, 3) := by decide +kernel
theorem dX11_change_108 : decode cX11_change 108 = .ok (.aload_n 0, 1) := by decide +kernel
theorem dX11_change_109 : decode cX11_change 109 = .ok (.iload_n 1, 1) := by decide +kernel
theorem dX11_change_110 : decode cX11_change 110 = .ok (.lload 6, 2) := by decide +kernel
theorem dX11_change_112 : decode cX11_change 112 = .ok (.invokevirtual 240, 3) := by decide +kernel
theorem dX11_change_115 : decode cX11_change 115 = .ok (.goto 13, 3) := by decide +kernel
theorem dX11_change_118 : decode cX11_change 118 = .ok (.aload_n 0, 1) := by decide +kernel
theorem dX11_change_119 : decode cX11_change 119 = .ok (.iload_n 1, 1) := by decide +kernel
theorem dX11_change_120 : decode cX11_change 120 = .ok (.lload 6, 2) := by decide +kernel
theorem dX11_change_122 : decode cX11_change 122 = .ok (.lneg, 1) := by decide +kernel
theorem dX11_change_123 : decode cX11_change 123 = .ok (.invokevirtual 274, 3) := by decide +kernel
theorem dX11_change_126 : decode cX11_change 126 = .ok (.lstore 8, 2) := by decide +kernel
theorem dX11_change_128 : decode cX11_change 128 = .ok (.aload_n 0, 1) := by decide +kernel
theorem dX11_change_129 : decode cX11_change 129 = .ok (.iload 5, 2) := by decide +kernel
theorem dX11_change_131 : decode cX11_change 131 = .ok (.invokevirtual 290, 3) := by decide +kernel
theorem dX11_change_134 : decode cX11_change 134 = .ok (.ireturn, 1) := by decide +kernel
def f_change (p1 : Int32) (p2 : Int32) (p3 : Int32) (M : MS) : Int32 × MS :=
    if P_isLine p1 p2 M then
      if P_in p3 1 99 then
        if (f_canChange p1 ((4 * p1) + p2) p3 M) = 0 then
          (0, (sI M 0 3))
        else
        if (lg_cmp (((p3 - (gI M 28 ((4 * p1) + p2))).toInt64) * ((gI M 29 ((4 * p1) + p2)).toInt64)) 0) ≤ 0 then
          ((f_looksAgain ((4 * p1) + p2) (f_frees p1 (-(((p3 - (gI M 28 ((4 * p1) + p2))).toInt64) * ((gI M 29 ((4 * p1) + p2)).toInt64))) (rI (sI M 0 0) 28 ((4 * p1) + p2) p3)).2).1, (f_looksAgain ((4 * p1) + p2) (f_frees p1 (-(((p3 - (gI M 28 ((4 * p1) + p2))).toInt64) * ((gI M 29 ((4 * p1) + p2)).toInt64))) (rI (sI M 0 0) 28 ((4 * p1) + p2) p3)).2).2)
        else
        ((f_looksAgain ((4 * p1) + p2) (f_commits p1 (((p3 - (gI M 28 ((4 * p1) + p2))).toInt64) * ((gI M 29 ((4 * p1) + p2)).toInt64)) (rI (sI M 0 0) 28 ((4 * p1) + p2) p3))).1, (f_looksAgain ((4 * p1) + p2) (f_commits p1 (((p3 - (gI M 28 ((4 * p1) + p2))).toInt64) * ((gI M 29 ((4 * p1) + p2)).toInt64)) (rI (sI M 0 0) 28 ((4 * p1) + p2) p3))).2)
      else
      (0, (sI M 0 2))
    else
    (0, (sI M 0 1))
abbrev rm_X11_change : Room := { frames := 5, cells := 0, slots := 0, locals := 125 }
set_option maxRecDepth 100000 in
set_option maxHeartbeats 4000000 in
theorem c_change {l : Launch} {k : KC} {mo : Nat} {ad : Nat → Nat} (hl : l.stackTraces = false) (hM : HM mo ad) {M : MS} {p1 : Int32} {p2 : Int32} {p3 : Int32} (hr : ∀ r, P_isRequest r M → RqOK M r) (ho : ∀ r, P_isRequest r M → gI M 17 r = 4 → P_isYear (gI M 20 r)) (h39 : LE (mI M 39) 60) (hy : P_isYear (f_yearNow M)) (hv : HV M) : CM l k mo ad yX11_change (.code yX11_change cX11_change 10 (some .int)) rm_X11_change [.int p1, .int p2, .int p3] M (some (.int (f_change p1 p2 p3 M).1)) (f_change p1 p2 p3 M).2 := by
  refine MC.of 6 hl (by decide) (Nat.le_of_ble_eq_true rfl) ?_
  intro p e s m args below meth c A Q G B _ _
  show Wx p l e rm_X11_change s m args below meth c k A 10 Q 0 0 0 [some (.ref mo), some (.int p1), some (.int p2), some (.int p3), none, none, none, none, none, none] [] (mW k mo ad M)
  refine x_aload0 (pc := 0) G dX11_change_0 ?_
  refine x_iload1 (pc := 1) G dX11_change_1 ?_
  refine x_iload2 (pc := 2) G dX11_change_2 ?_
  refine y_cb2 (pc := 3) G (b_isLine hl hM (fun q => (hr _ q).1)) q_ml_X11_278 h_X11_isLine rfl ⟨Nat.le_of_ble_eq_true rfl, Nat.le_of_ble_eq_true rfl⟩ (Nat.le_of_ble_eq_true rfl) (Nat.le_refl _) (Nat.le_refl _) dX11_change_3 (fun c1 => ?_) (fun c1 => ?_)
  · refine x_istore4 (pc := 6) G dX11_change_6 (Nat.le_of_ble_eq_true rfl) rfl ?_
    refine x_iload4 (pc := 8) G dX11_change_8 ?_
    refine x_if_eq (pc := 10) (y := 0) (tgt := 21) G dX11_change_10 rfl (fun q => absurd q (by decide)) (fun _ => ?_)
    refine x_iconst (pc := 13) (v := 4) G dX11_change_13 ic_4 ?_
    refine x_iload1 (pc := 14) G dX11_change_14 ?_
    refine x_imul (pc := 15) G dX11_change_15 ?_
    refine x_iload2 (pc := 16) G dX11_change_16 ?_
    refine x_iadd (pc := 17) G dX11_change_17 ?_
    refine x_goto (pc := 18) (tgt := 22) G dX11_change_18 rfl ?_
    refine x_istore5 (pc := 22) G dX11_change_22 (Nat.le_of_ble_eq_true rfl) rfl ?_
    refine x_aload0 (pc := 24) G dX11_change_24 ?_
    refine x_iload4 (pc := 25) G dX11_change_25 ?_
    refine x_if_ne (pc := 27) (y := 0) (tgt := 34) G dX11_change_27 rfl (fun _ => ?_) (fun q => absurd q (by decide))
    refine x_iload3 (pc := 34) G dX11_change_34 ?_
    refine x_iconst (pc := 35) (v := 1) G dX11_change_35 ic_1 ?_
    refine x_bipush (pc := 36) (v := 99) G dX11_change_36 bp_99 ?_
    refine x_cSb3 (pc := 38) G (b_in hl hM _) q_ml_X11_181 h_X11_in ⟨Nat.le_of_ble_eq_true rfl, Nat.le_of_ble_eq_true rfl⟩ (Nat.le_of_ble_eq_true rfl) (Nat.le_refl _) (Nat.le_refl _) dX11_change_38 (fun c2 => ?_) (fun c2 => ?_)
    · refine x_if_ne (pc := 41) (y := 0) (tgt := 48) G dX11_change_41 rfl (fun _ => ?_) (fun q => absurd q (by decide))
      refine x_aload0 (pc := 48) G dX11_change_48 ?_
      refine x_iload1 (pc := 49) G dX11_change_49 ?_
      refine x_iload5 (pc := 50) G dX11_change_50 ?_
      refine x_iload3 (pc := 52) G dX11_change_52 ?_
      refine y_c3 (pc := 53) G (c_canChange hl hM (hr _ (And.left c1)) (ho _ (And.left c1)) (vin_linep (hr _ (And.left c1)).1 (hr _ (And.left c1)).2.2.2.1 (And.right c1)) h39) q_ml_X11_298 h_X11_canChange rfl ⟨Nat.le_of_ble_eq_true rfl, Nat.le_of_ble_eq_true rfl⟩ (Nat.le_of_ble_eq_true rfl) (Nat.le_refl _) (Nat.le_refl _) dX11_change_53 ?_
      refine x_if_eq (pc := 56) (y := 0) (tgt := 63) G dX11_change_56 rfl (fun c3 => ?_) (fun c3 => ?_)
      · refine x_iconst (pc := 63) (v := 3) G dX11_change_63 ic_3 ?_
        refine y_c1 (pc := 64) G (c_holdsN hl hM (by decide)) q_ml_X11_210 h_X11_holds rfl ⟨Nat.le_of_ble_eq_true rfl, Nat.le_of_ble_eq_true rfl⟩ (Nat.le_of_ble_eq_true rfl) (Nat.le_refl _) (Nat.le_refl _) dX11_change_64 ?_
        refine x_if_ne (pc := 67) (y := 0) (tgt := 72) G dX11_change_67 rfl (fun q => absurd q (by decide)) (fun _ => ?_)
        refine x_iconst (pc := 70) (v := 0) G dX11_change_70 ic_0 ?_
        exact x_iret (pc := 71) G B rfl dX11_change_71 ⟨by rw [f_change, if_pos c1, if_pos c2, if_pos c3], by rw [f_change, if_pos c1, if_pos c2, if_pos c3]⟩
      refine x_iconst (pc := 59) (v := 0) G dX11_change_59 ic_0 ?_
      refine x_goto (pc := 60) (tgt := 64) G dX11_change_60 rfl ?_
      refine y_c1 (pc := 64) G (c_holds0 hl hM) q_ml_X11_210 h_X11_holds rfl ⟨Nat.le_of_ble_eq_true rfl, Nat.le_of_ble_eq_true rfl⟩ (Nat.le_of_ble_eq_true rfl) (Nat.le_refl _) (Nat.le_refl _) dX11_change_64 ?_
      refine x_if_ne (pc := 67) (y := 0) (tgt := 72) G dX11_change_67 rfl (fun _ => ?_) (fun q => absurd q (by decide))
      refine x_iload3 (pc := 72) G dX11_change_72 ?_
      refine x_aload0 (pc := 73) G dX11_change_73 ?_
      refine y_gA (pc := 74) G g_78 mG_28 dX11_change_74 ?_
      refine x_iload5 (pc := 77) G dX11_change_77 ?_
      refine y_iald (pc := 79) (v := (gI M 28 ((4 * p1) + p2))) G hM a_28 (vin_linep (hr _ (And.left c1)).1 (hr _ (And.left c1)).2.2.2.1 (And.right c1)) gI_sI dX11_change_79 ?_
      refine x_isub (pc := 80) G dX11_change_80 ?_
      refine x_i2l (pc := 81) G dX11_change_81 ?_
      refine x_aload0 (pc := 82) G dX11_change_82 ?_
      refine y_gA (pc := 83) G g_81 mG_29 dX11_change_83 ?_
      refine x_iload5 (pc := 86) G dX11_change_86 ?_
      refine y_iald (pc := 88) (v := (gI M 29 ((4 * p1) + p2))) G hM a_29 (vin_linep (hr _ (And.left c1)).1 (hr _ (And.left c1)).2.2.2.1 (And.right c1)) gI_sI dX11_change_88 ?_
      refine x_i2l (pc := 89) G dX11_change_89 ?_
      refine x_lmul (pc := 90) G dX11_change_90 ?_
      refine x_lstore6 (pc := 91) G dX11_change_91 (Nat.le_of_ble_eq_true rfl) rfl ?_
      refine x_aload0 (pc := 93) G dX11_change_93 ?_
      refine y_gA (pc := 94) G g_78 mG_28 dX11_change_94 ?_
      refine x_iload5 (pc := 97) G dX11_change_97 ?_
      refine x_iload3 (pc := 99) G dX11_change_99 ?_
      refine y_iast (pc := 100) G hM a_28 (vin_linep (hr _ (And.left c1)).1 (hr _ (And.left c1)).2.2.2.1 (And.right c1)) dX11_change_100 ?_
      refine x_lload6 (pc := 101) G dX11_change_101 ?_
      refine x_lconst (pc := 103) (v := 0) G dX11_change_103 lc_0 ?_
      refine x_lcmp (pc := 104) G dX11_change_104 ?_
      refine x_if_le (pc := 105) (y := 0) (tgt := 118) G dX11_change_105 rfl (fun c4 => ?_) (fun c4 => ?_)
      · refine x_aload0 (pc := 118) G dX11_change_118 ?_
        refine x_iload1 (pc := 119) G dX11_change_119 ?_
        refine x_lload6 (pc := 120) G dX11_change_120 ?_
        refine x_lneg (pc := 122) G dX11_change_122 ?_
        refine y_c2 (pc := 123) G (c_frees hl hM (hr _ (And.left c1)).1 (RqOK.fr (hr _ (And.left c1)))) q_ml_X11_274 h_X11_frees rfl ⟨Nat.le_of_ble_eq_true rfl, Nat.le_of_ble_eq_true rfl⟩ (Nat.le_of_ble_eq_true rfl) (Nat.le_refl _) (Nat.le_refl _) dX11_change_123 ?_
        refine x_lstore8 (pc := 126) G dX11_change_126 (Nat.le_of_ble_eq_true rfl) rfl ?_
        refine x_aload0 (pc := 128) G dX11_change_128 ?_
        refine x_iload5 (pc := 129) G dX11_change_129 ?_
        refine y_c1 (pc := 131) G (c_looksAgain hl hM (h39_of (mI_frees.trans (mI_rI.trans (mI_sIn rfl))) h39) (hy_of (mI_frees.trans (mI_rI.trans (mI_sIn rfl))) hy) (HV.frees ((hv.sI (a := 0) (by decide)).rI (a := 28) (by decide)))) q_ml_X11_290 h_X11_looksAgain rfl ⟨Nat.le_of_ble_eq_true rfl, Nat.le_of_ble_eq_true rfl⟩ (Nat.le_of_ble_eq_true rfl) (Nat.le_refl _) (Nat.le_refl _) dX11_change_131 ?_
        exact x_iret (pc := 134) G B rfl dX11_change_134 ⟨by rw [f_change, if_pos c1, if_pos c2, if_neg c3, if_pos c4], by rw [f_change, if_pos c1, if_pos c2, if_neg c3, if_pos c4]⟩
      refine x_aload0 (pc := 108) G dX11_change_108 ?_
      refine x_iload1 (pc := 109) G dX11_change_109 ?_
      refine x_lload6 (pc := 110) G dX11_change_110 ?_
      refine y_cv2 (pc := 112) G (c_commits hl hM (hr _ (And.left c1)).1 (vin_at (hr _ (And.left c1)).2.2.1 (ho _ (And.left c1) (canChange_st c3)) (by decide))) q_ml_X11_240 h_X11_commits rfl ⟨Nat.le_of_ble_eq_true rfl, Nat.le_of_ble_eq_true rfl⟩ (Nat.le_of_ble_eq_true rfl) (Nat.le_refl _) (Nat.le_refl _) dX11_change_112 ?_
      refine x_goto (pc := 115) (tgt := 128) G dX11_change_115 rfl ?_
      refine x_aload0 (pc := 128) G dX11_change_128 ?_
      refine x_iload5 (pc := 129) G dX11_change_129 ?_
      refine y_c1 (pc := 131) G (c_looksAgain hl hM (h39_of (mI_commits.trans (mI_rI.trans (mI_sIn rfl))) h39) (hy_of (mI_commits.trans (mI_rI.trans (mI_sIn rfl))) hy) (HV.commits ((hv.sI (a := 0) (by decide)).rI (a := 28) (by decide)) (ho _ (And.left c1) (canChange_st c3)))) q_ml_X11_290 h_X11_looksAgain rfl ⟨Nat.le_of_ble_eq_true rfl, Nat.le_of_ble_eq_true rfl⟩ (Nat.le_of_ble_eq_true rfl) (Nat.le_refl _) (Nat.le_refl _) dX11_change_131 ?_
      exact x_iret (pc := 134) G B rfl dX11_change_134 ⟨by rw [f_change, if_pos c1, if_pos c2, if_neg c3, if_neg c4], by rw [f_change, if_pos c1, if_pos c2, if_neg c3, if_neg c4]⟩
    refine x_if_ne (pc := 41) (y := 0) (tgt := 48) G dX11_change_41 rfl (fun q => absurd q (by decide)) (fun _ => ?_)
    refine x_iconst (pc := 44) (v := 2) G dX11_change_44 ic_2 ?_
    refine x_goto (pc := 45) (tgt := 64) G dX11_change_45 rfl ?_
    refine y_c1 (pc := 64) G (c_holdsN hl hM (by decide)) q_ml_X11_210 h_X11_holds rfl ⟨Nat.le_of_ble_eq_true rfl, Nat.le_of_ble_eq_true rfl⟩ (Nat.le_of_ble_eq_true rfl) (Nat.le_refl _) (Nat.le_refl _) dX11_change_64 ?_
    refine x_if_ne (pc := 67) (y := 0) (tgt := 72) G dX11_change_67 rfl (fun q => absurd q (by decide)) (fun _ => ?_)
    refine x_iconst (pc := 70) (v := 0) G dX11_change_70 ic_0 ?_
    exact x_iret (pc := 71) G B rfl dX11_change_71 ⟨by rw [f_change, if_pos c1, if_neg c2], by rw [f_change, if_pos c1, if_neg c2]⟩
  refine x_istore4 (pc := 6) G dX11_change_6 (Nat.le_of_ble_eq_true rfl) rfl ?_
  refine x_iload4 (pc := 8) G dX11_change_8 ?_
  refine x_if_eq (pc := 10) (y := 0) (tgt := 21) G dX11_change_10 rfl (fun _ => ?_) (fun q => absurd q (by decide))
  refine x_iconst (pc := 21) (v := 0) G dX11_change_21 ic_0 ?_
  refine x_istore5 (pc := 22) G dX11_change_22 (Nat.le_of_ble_eq_true rfl) rfl ?_
  refine x_aload0 (pc := 24) G dX11_change_24 ?_
  refine x_iload4 (pc := 25) G dX11_change_25 ?_
  refine x_if_ne (pc := 27) (y := 0) (tgt := 34) G dX11_change_27 rfl (fun q => absurd q (by decide)) (fun _ => ?_)
  refine x_iconst (pc := 30) (v := 1) G dX11_change_30 ic_1 ?_
  refine x_goto (pc := 31) (tgt := 64) G dX11_change_31 rfl ?_
  refine y_c1 (pc := 64) G (c_holdsN hl hM (by decide)) q_ml_X11_210 h_X11_holds rfl ⟨Nat.le_of_ble_eq_true rfl, Nat.le_of_ble_eq_true rfl⟩ (Nat.le_of_ble_eq_true rfl) (Nat.le_refl _) (Nat.le_refl _) dX11_change_64 ?_
  refine x_if_ne (pc := 67) (y := 0) (tgt := 72) G dX11_change_67 rfl (fun q => absurd q (by decide)) (fun _ => ?_)
  refine x_iconst (pc := 70) (v := 0) G dX11_change_70 ic_0 ?_
  exact x_iret (pc := 71) G B rfl dX11_change_71 ⟨by rw [f_change, if_neg c1], by rw [f_change, if_neg c1]⟩
/-- a new invoice's row, at its place -/
theorem IvOK.new {M M' : MS} {r q v : Int32} (hv : vp_in v 60) (hq : RqOK M r) (h4 : vp_in q 4) (h160 : vp_in (4 * r + q) 160) (hs : vp_in (gI M 21 r) 6) (hm : vp_in (gI M 32 (gI M 21 r)) 3) (e40 : gI M' 40 v = 4 * r + q) (e : ∀ j x, (j = 15 ∨ j = 16 ∨ j = 18 ∨ j = 20 ∨ j = 21 ∨ j = 23 ∨ j = 24 ∨ j = 25 ∨ j = 26 ∨ j = 32) → gI M' j x = gI M j x) (e19 : ∀ x, gJ M' 19 x = gJ M 19 x) : IvOK M' v := by
  have ed : (4 * r + q) / 4 = r := div4 hq.1 h4
  unfold IvOK
  rw [e40, ed]
  refine ⟨hv, h160, hq.1, ?_, by rw [e 21 _ (by simp)]; exact hs, by rw [e 21 _ (by simp), e 32 _ (by simp)]; exact hm⟩
  obtain ⟨g1, g2, g3, g4, g5, g6, g7⟩ := hq
  refine ⟨g1, by rw [e 15 _ (by simp)]; exact g2, by rw [e 16 _ (by simp)]; exact g3, by rw [e 18 _ (by simp)]; exact g4, fun q9 => ?_, fun q9 => ?_, fun q9 => ?_⟩
  · rw [e 20 _ (by simp)]; rw [e19] at q9; exact g5 q9
  · rw [e 24 _ (by simp), e 25 _ (by simp)] at q9
    rw [e 25 _ (by simp), e 23 _ (by simp)]
    exact g6 q9
  · rw [e 26 _ (by simp)] at q9 ⊢
    exact g7 q9
theorem LE.succ {x : Int32} {N : Nat} (h : LE x N) (hN : N < 2 ^ 31) {c : Int32} (hc : c = nI N) (hx : ¬ x = c) : LE (x + 1) N := by
  obtain ⟨n, hn, rfl⟩ := h
  refine ⟨n + 1, ?_, nI_1 n⟩
  rcases Nat.lt_or_ge n N with z | z
  · omega
  · exact absurd (by rw [hc, show n = N by omega]) hx
theorem vin4 {M : MS} {p q : Int32} (hr : ∀ r, P_isRequest r M → RqOK M r) (h : P_isLine p q M) : vp_in q 4 := vin_lt (hr _ h.1).2.2.2.1 (by decide) h.2
theorem dX11_invoice_0 : decode cX11_invoice 0 = .ok (.aload_n 0, 1) := by decide +kernel
theorem dX11_invoice_1 : decode cX11_invoice 1 = .ok (.iload_n 1, 1) := by decide +kernel
theorem dX11_invoice_2 : decode cX11_invoice 2 = .ok (.iload_n 2, 1) := by decide +kernel
theorem dX11_invoice_3 : decode cX11_invoice 3 = .ok (.invokevirtual 278, 3) := by decide +kernel
theorem dX11_invoice_6 : decode cX11_invoice 6 = .ok (.istore 5, 2) := by decide +kernel
theorem dX11_invoice_8 : decode cX11_invoice 8 = .ok (.iload_n 3, 1) := by decide +kernel
theorem dX11_invoice_9 : decode cX11_invoice 9 = .ok (.iconst 1, 1) := by decide +kernel
theorem dX11_invoice_10 : decode cX11_invoice 10 = .ok (.bipush 99, 2) := by decide +kernel
theorem dX11_invoice_12 : decode cX11_invoice 12 = .ok (.invokestatic 181, 3) := by decide +kernel
theorem dX11_invoice_15 : decode cX11_invoice 15 = .ok (.ifCond .eq 18, 3) := by decide +kernel
theorem dX11_invoice_18 : decode cX11_invoice 18 = .ok (.iload 4, 2) := by decide +kernel
theorem dX11_invoice_20 : decode cX11_invoice 20 = .ok (.iconst 1, 1) := by decide +kernel
theorem dX11_invoice_21 : decode cX11_invoice 21 = .ok (.ldc 239, 2) := by decide +kernel
theorem dX11_invoice_23 : decode cX11_invoice 23 = .ok (.invokestatic 181, 3) := by decide +kernel
theorem dX11_invoice_26 : decode cX11_invoice 26 = .ok (.ifCond .eq 7, 3) := by decide +kernel
theorem dX11_invoice_29 : decode cX11_invoice 29 = .ok (.iconst 1, 1) := by decide +kernel
theorem dX11_invoice_30 : decode cX11_invoice 30 = .ok (.goto 4, 3) := by decide +kernel
theorem dX11_invoice_33 : decode cX11_invoice 33 = .ok (.iconst 0, 1) := by decide +kernel
theorem dX11_invoice_34 : decode cX11_invoice 34 = .ok (.istore 6, 2) := by decide +kernel
theorem dX11_invoice_36 : decode cX11_invoice 36 = .ok (.aload_n 0, 1) := by decide +kernel
theorem dX11_invoice_37 : decode cX11_invoice 37 = .ok (.iload 5, 2) := by decide +kernel
theorem dX11_invoice_39 : decode cX11_invoice 39 = .ok (.ifCond .ne 7, 3) := by decide +kernel
theorem dX11_invoice_42 : decode cX11_invoice 42 = .ok (.iconst 1, 1) := by decide +kernel
theorem dX11_invoice_43 : decode cX11_invoice 43 = .ok (.goto 36, 3) := by decide +kernel
theorem dX11_invoice_46 : decode cX11_invoice 46 = .ok (.iload 6, 2) := by decide +kernel
theorem dX11_invoice_48 : decode cX11_invoice 48 = .ok (.ifCond .ne 7, 3) := by decide +kernel
theorem dX11_invoice_51 : decode cX11_invoice 51 = .ok (.iconst 2, 1) := by decide +kernel
theorem dX11_invoice_52 : decode cX11_invoice 52 = .ok (.goto 27, 3) := by decide +kernel
theorem dX11_invoice_55 : decode cX11_invoice 55 = .ok (.aload_n 0, 1) := by decide +kernel
theorem dX11_invoice_56 : decode cX11_invoice 56 = .ok (.getfield 45, 3) := by decide +kernel
theorem dX11_invoice_59 : decode cX11_invoice 59 = .ok (.iload_n 1, 1) := by decide +kernel
theorem dX11_invoice_60 : decode cX11_invoice 60 = .ok (.iaload, 1) := by decide +kernel
theorem dX11_invoice_61 : decode cX11_invoice 61 = .ok (.iconst 4, 1) := by decide +kernel
theorem dX11_invoice_62 : decode cX11_invoice 62 = .ok (.if_icmp .ne 12, 3) := by decide +kernel
theorem dX11_invoice_65 : decode cX11_invoice 65 = .ok (.aload_n 0, 1) := by decide +kernel
theorem dX11_invoice_66 : decode cX11_invoice 66 = .ok (.getfield 192, 3) := by decide +kernel
theorem dX11_invoice_69 : decode cX11_invoice 69 = .ok (.bipush 60, 2) := by decide +kernel
theorem dX11_invoice_71 : decode cX11_invoice 71 = .ok (.if_icmp .ne 7, 3) := by decide +kernel
theorem dX11_invoice_74 : decode cX11_invoice 74 = .ok (.iconst 3, 1) := by decide +kernel
theorem dX11_invoice_75 : decode cX11_invoice 75 = .ok (.goto 4, 3) := by decide +kernel
theorem dX11_invoice_78 : decode cX11_invoice 78 = .ok (.iconst 0, 1) := by decide +kernel
theorem dX11_invoice_79 : decode cX11_invoice 79 = .ok (.invokevirtual 210, 3) := by decide +kernel
theorem dX11_invoice_82 : decode cX11_invoice 82 = .ok (.ifCond .ne 5, 3) := by decide +kernel
theorem dX11_invoice_85 : decode cX11_invoice 85 = .ok (.iconst 0, 1) := by decide +kernel
theorem dX11_invoice_86 : decode cX11_invoice 86 = .ok (.ireturn, 1) := by decide +kernel
theorem dX11_invoice_87 : decode cX11_invoice 87 = .ok (.aload_n 0, 1) := by decide +kernel
theorem dX11_invoice_88 : decode cX11_invoice 88 = .ok (.getfield 192, 3) := by decide +kernel
theorem dX11_invoice_91 : decode cX11_invoice 91 = .ok (.istore 7, 2) := by decide +kernel
theorem dX11_invoice_93 : decode cX11_invoice 93 = .ok (.aload_n 0, 1) := by decide +kernel
theorem dX11_invoice_94 : decode cX11_invoice 94 = .ok (.getfield 112, 3) := by decide +kernel
theorem dX11_invoice_97 : decode cX11_invoice 97 = .ok (.iload 7, 2) := by decide +kernel
theorem dX11_invoice_99 : decode cX11_invoice 99 = .ok (.iconst 4, 1) := by decide +kernel
theorem dX11_invoice_100 : decode cX11_invoice 100 = .ok (.iload_n 1, 1) := by decide +kernel
theorem dX11_invoice_101 : decode cX11_invoice 101 = .ok (.imul, 1) := by decide +kernel
theorem dX11_invoice_102 : decode cX11_invoice 102 = .ok (.iload_n 2, 1) := by decide +kernel
theorem dX11_invoice_103 : decode cX11_invoice 103 = .ok (.iadd, 1) := by decide +kernel
theorem dX11_invoice_104 : decode cX11_invoice 104 = .ok (.iastore, 1) := by decide +kernel
theorem dX11_invoice_105 : decode cX11_invoice 105 = .ok (.aload_n 0, 1) := by decide +kernel
theorem dX11_invoice_106 : decode cX11_invoice 106 = .ok (.getfield 115, 3) := by decide +kernel
theorem dX11_invoice_109 : decode cX11_invoice 109 = .ok (.iload 7, 2) := by decide +kernel
theorem dX11_invoice_111 : decode cX11_invoice 111 = .ok (.iload_n 3, 1) := by decide +kernel
theorem dX11_invoice_112 : decode cX11_invoice 112 = .ok (.iastore, 1) := by decide +kernel
theorem dX11_invoice_113 : decode cX11_invoice 113 = .ok (.aload_n 0, 1) := by decide +kernel
theorem dX11_invoice_114 : decode cX11_invoice 114 = .ok (.getfield 118, 3) := by decide +kernel
theorem dX11_invoice_117 : decode cX11_invoice 117 = .ok (.iload 7, 2) := by decide +kernel
theorem dX11_invoice_119 : decode cX11_invoice 119 = .ok (.iload 4, 2) := by decide +kernel
theorem dX11_invoice_121 : decode cX11_invoice 121 = .ok (.iastore, 1) := by decide +kernel
theorem dX11_invoice_122 : decode cX11_invoice 122 = .ok (.aload_n 0, 1) := by decide +kernel
theorem dX11_invoice_123 : decode cX11_invoice 123 = .ok (.getfield 121, 3) := by decide +kernel
theorem dX11_invoice_126 : decode cX11_invoice 126 = .ok (.iload 7, 2) := by decide +kernel
theorem dX11_invoice_128 : decode cX11_invoice 128 = .ok (.iload_n 3, 1) := by decide +kernel
theorem dX11_invoice_129 : decode cX11_invoice 129 = .ok (.i2l, 1) := by decide +kernel
theorem dX11_invoice_130 : decode cX11_invoice 130 = .ok (.iload 4, 2) := by decide +kernel
theorem dX11_invoice_132 : decode cX11_invoice 132 = .ok (.i2l, 1) := by decide +kernel
theorem dX11_invoice_133 : decode cX11_invoice 133 = .ok (.lmul, 1) := by decide +kernel
theorem dX11_invoice_134 : decode cX11_invoice 134 = .ok (.aload_n 0, 1) := by decide +kernel
theorem dX11_invoice_135 : decode cX11_invoice 135 = .ok (.getfield 102, 3) := by decide +kernel
theorem dX11_invoice_138 : decode cX11_invoice 138 = .ok (.aload_n 0, 1) := by decide +kernel
theorem dX11_invoice_139 : decode cX11_invoice 139 = .ok (.getfield 90, 3) := by decide +kernel
theorem dX11_invoice_142 : decode cX11_invoice 142 = .ok (.aload_n 0, 1) := by decide +kernel
theorem dX11_invoice_143 : decode cX11_invoice 143 = .ok (.getfield 57, 3) := by decide +kernel
theorem dX11_invoice_146 : decode cX11_invoice 146 = .ok (.iload_n 1, 1) := by decide +kernel
theorem dX11_invoice_147 : decode cX11_invoice 147 = .ok (.iaload, 1) := by decide +kernel
theorem dX11_invoice_148 : decode cX11_invoice 148 = .ok (.iaload, 1) := by decide +kernel
theorem dX11_invoice_149 : decode cX11_invoice 149 = .ok (.iaload, 1) := by decide +kernel
theorem dX11_invoice_150 : decode cX11_invoice 150 = .ok (.i2l, 1) := by decide +kernel
theorem dX11_invoice_151 : decode cX11_invoice 151 = .ok (.lmul, 1) := by decide +kernel
theorem dX11_invoice_152 : decode cX11_invoice 152 = .ok (.ldc2_w 301, 3) := by decide +kernel
theorem dX11_invoice_155 : decode cX11_invoice 155 = .ok (.ldiv, 1) := by decide +kernel
theorem dX11_invoice_156 : decode cX11_invoice 156 = .ok (.lastore, 1) := by decide +kernel
theorem dX11_invoice_157 : decode cX11_invoice 157 = .ok (.aload_n 0, 1) := by decide +kernel
theorem dX11_invoice_158 : decode cX11_invoice 158 = .ok (.dup, 1) := by decide +kernel
theorem dX11_invoice_159 : decode cX11_invoice 159 = .ok (.getfield 192, 3) := by decide +kernel
theorem dX11_invoice_162 : decode cX11_invoice 162 = .ok (.iconst 1, 1) := by decide +kernel
theorem dX11_invoice_163 : decode cX11_invoice 163 = .ok (.iadd, 1) := by decide +kernel
theorem dX11_invoice_164 : decode cX11_invoice 164 = .ok (.putfield 192, 3) := by decide +kernel
theorem dX11_invoice_167 : decode cX11_invoice 167 = .ok (.aload_n 0, 1) := by decide +kernel
theorem dX11_invoice_168 : decode cX11_invoice 168 = .ok (.iload 7, 2) := by decide +kernel
theorem dX11_invoice_170 : decode cX11_invoice 170 = .ok (.invokevirtual 283, 3) := by decide +kernel
theorem dX11_invoice_173 : decode cX11_invoice 173 = .ok (.ifCond .ne 9, 3) := by decide +kernel
theorem dX11_invoice_176 : decode cX11_invoice 176 = .ok (.aload_n 0, 1) := by decide +kernel
theorem dX11_invoice_177 : decode cX11_invoice 177 = .ok (.iload 7, 2) := by decide +kernel
theorem dX11_invoice_179 : decode cX11_invoice 179 = .ok (.invokevirtual 286, 3) := by decide +kernel
theorem dX11_invoice_182 : decode cX11_invoice 182 = .ok (.iload 7, 2) := by decide +kernel
theorem dX11_invoice_184 : decode cX11_invoice 184 = .ok (.ireturn, 1) := by decide +kernel
def f_invoice (p1 : Int32) (p2 : Int32) (p3 : Int32) (p4 : Int32) (M : MS) : Int32 × MS :=
    if P_isLine p1 p2 M then
      if P_in p3 1 99 then
        if P_in p4 1 100000 then
          if (gI M 17 p1) = 4 then
            if (mI M 39) = 60 then
              (0, (sI M 0 3))
            else
            if (f_why (mI M 39) (sI (rJ (rI (rI (rI (sI M 0 0) 40 (mI M 39) ((4 * p1) + p2)) 41 (mI M 39) p3) 42 (mI M 39) p4) 43 (mI M 39) ((((p3.toInt64) * (p4.toInt64)) * ((gI M 36 (gI M 32 (gI M 21 p1))).toInt64)) / 1000)) 39 ((mI M 39) + 1))) = 0 then
              ((mI M 39), (f_books (mI M 39) (sI (rJ (rI (rI (rI (sI M 0 0) 40 (mI M 39) ((4 * p1) + p2)) 41 (mI M 39) p3) 42 (mI M 39) p4) 43 (mI M 39) ((((p3.toInt64) * (p4.toInt64)) * ((gI M 36 (gI M 32 (gI M 21 p1))).toInt64)) / 1000)) 39 ((mI M 39) + 1))))
            else
            ((mI M 39), (sI (rJ (rI (rI (rI (sI M 0 0) 40 (mI M 39) ((4 * p1) + p2)) 41 (mI M 39) p3) 42 (mI M 39) p4) 43 (mI M 39) ((((p3.toInt64) * (p4.toInt64)) * ((gI M 36 (gI M 32 (gI M 21 p1))).toInt64)) / 1000)) 39 ((mI M 39) + 1)))
          else
          (0, (sI M 0 3))
        else
        (0, (sI M 0 2))
      else
      (0, (sI M 0 2))
    else
    if P_in p3 1 99 then
      if P_in p4 1 100000 then
        (0, (sI M 0 1))
      else
      (0, (sI M 0 1))
    else
    (0, (sI M 0 1))
abbrev rm_X11_invoice : Room := { frames := 4, cells := 0, slots := 0, locals := 102 }
set_option maxRecDepth 100000 in
set_option maxHeartbeats 4000000 in
theorem c_invoice {l : Launch} {k : KC} {mo : Nat} {ad : Nat → Nat} (hl : l.stackTraces = false) (hM : HM mo ad) {M : MS} {p1 : Int32} {p2 : Int32} {p3 : Int32} {p4 : Int32} (hr : ∀ r, P_isRequest r M → RqOK M r) (h39 : LE (mI M 39) 60) (hy : P_isYear (f_yearNow M)) (hs : ∀ r, P_isRequest r M → gI M 17 r = 4 → vp_in (gI M 21 r) 6) (hm : ∀ u, vp_in u 6 → vp_in (gI M 32 u) 3) : CM l k mo ad yX11_invoice (.code yX11_invoice cX11_invoice 8 (some .int)) rm_X11_invoice [.int p1, .int p2, .int p3, .int p4] M (some (.int (f_invoice p1 p2 p3 p4 M).1)) (f_invoice p1 p2 p3 p4 M).2 := by
  refine MC.of 3 hl (by decide) (Nat.le_of_ble_eq_true rfl) ?_
  intro p e s m args below meth c A Q G B _ _
  show Wx p l e rm_X11_invoice s m args below meth c k A 8 Q 0 0 0 [some (.ref mo), some (.int p1), some (.int p2), some (.int p3), some (.int p4), none, none, none] [] (mW k mo ad M)
  refine x_aload0 (pc := 0) G dX11_invoice_0 ?_
  refine x_iload1 (pc := 1) G dX11_invoice_1 ?_
  refine x_iload2 (pc := 2) G dX11_invoice_2 ?_
  refine y_cb2 (pc := 3) G (b_isLine hl hM (fun q => (hr _ q).1)) q_ml_X11_278 h_X11_isLine rfl ⟨Nat.le_of_ble_eq_true rfl, Nat.le_of_ble_eq_true rfl⟩ (Nat.le_of_ble_eq_true rfl) (Nat.le_refl _) (Nat.le_refl _) dX11_invoice_3 (fun c1 => ?_) (fun c1 => ?_)
  · refine x_istore5 (pc := 6) G dX11_invoice_6 (Nat.le_of_ble_eq_true rfl) rfl ?_
    refine x_iload3 (pc := 8) G dX11_invoice_8 ?_
    refine x_iconst (pc := 9) (v := 1) G dX11_invoice_9 ic_1 ?_
    refine x_bipush (pc := 10) (v := 99) G dX11_invoice_10 bp_99 ?_
    refine x_cSb3 (pc := 12) G (b_in hl hM _) q_ml_X11_181 h_X11_in ⟨Nat.le_of_ble_eq_true rfl, Nat.le_of_ble_eq_true rfl⟩ (Nat.le_of_ble_eq_true rfl) (Nat.le_refl _) (Nat.le_refl _) dX11_invoice_12 (fun c2 => ?_) (fun c2 => ?_)
    · refine x_if_eq (pc := 15) (y := 0) (tgt := 33) G dX11_invoice_15 rfl (fun q => absurd q (by decide)) (fun _ => ?_)
      refine x_iload4 (pc := 18) G dX11_invoice_18 ?_
      refine x_iconst (pc := 20) (v := 1) G dX11_invoice_20 ic_1 ?_
      refine x_ldc (pc := 21) G q_cs_X11_239 dX11_invoice_21 ?_
      refine x_cSb3 (pc := 23) G (b_in hl hM _) q_ml_X11_181 h_X11_in ⟨Nat.le_of_ble_eq_true rfl, Nat.le_of_ble_eq_true rfl⟩ (Nat.le_of_ble_eq_true rfl) (Nat.le_refl _) (Nat.le_refl _) dX11_invoice_23 (fun c3 => ?_) (fun c3 => ?_)
      · refine x_if_eq (pc := 26) (y := 0) (tgt := 33) G dX11_invoice_26 rfl (fun q => absurd q (by decide)) (fun _ => ?_)
        refine x_iconst (pc := 29) (v := 1) G dX11_invoice_29 ic_1 ?_
        refine x_goto (pc := 30) (tgt := 34) G dX11_invoice_30 rfl ?_
        refine x_istore6 (pc := 34) G dX11_invoice_34 (Nat.le_of_ble_eq_true rfl) rfl ?_
        refine x_aload0 (pc := 36) G dX11_invoice_36 ?_
        refine x_iload5 (pc := 37) G dX11_invoice_37 ?_
        refine x_if_ne (pc := 39) (y := 0) (tgt := 46) G dX11_invoice_39 rfl (fun _ => ?_) (fun q => absurd q (by decide))
        refine x_iload6 (pc := 46) G dX11_invoice_46 ?_
        refine x_if_ne (pc := 48) (y := 0) (tgt := 55) G dX11_invoice_48 rfl (fun _ => ?_) (fun q => absurd q (by decide))
        refine x_aload0 (pc := 55) G dX11_invoice_55 ?_
        refine y_gA (pc := 56) G g_45 mG_17 dX11_invoice_56 ?_
        refine x_iload1 (pc := 59) G dX11_invoice_59 ?_
        refine y_iald (pc := 60) (v := (gI M 17 p1)) G hM a_17 ((hr _ (And.left c1)).1) rfl dX11_invoice_60 ?_
        refine x_iconst (pc := 61) (v := 4) G dX11_invoice_61 ic_4 ?_
        refine x_icmp_ne (pc := 62) (tgt := 74) G dX11_invoice_62 rfl (fun c4 => ?_) (fun c4 => ?_)
        · refine x_iconst (pc := 74) (v := 3) G dX11_invoice_74 ic_3 ?_
          refine x_goto (pc := 75) (tgt := 79) G dX11_invoice_75 rfl ?_
          refine y_c1 (pc := 79) G (c_holdsN hl hM (by decide)) q_ml_X11_210 h_X11_holds rfl ⟨Nat.le_of_ble_eq_true rfl, Nat.le_of_ble_eq_true rfl⟩ (Nat.le_of_ble_eq_true rfl) (Nat.le_refl _) (Nat.le_refl _) dX11_invoice_79 ?_
          refine x_if_ne (pc := 82) (y := 0) (tgt := 87) G dX11_invoice_82 rfl (fun q => absurd q (by decide)) (fun _ => ?_)
          refine x_iconst (pc := 85) (v := 0) G dX11_invoice_85 ic_0 ?_
          exact x_iret (pc := 86) G B rfl dX11_invoice_86 ⟨by rw [f_invoice, if_pos c1, if_pos c2, if_pos c3, if_neg c4], by rw [f_invoice, if_pos c1, if_pos c2, if_pos c3, if_neg c4]⟩
        refine x_aload0 (pc := 65) G dX11_invoice_65 ?_
        refine y_gI (pc := 66) (v := (mI M 39)) G g_192 mG_39 rfl dX11_invoice_66 ?_
        refine x_bipush (pc := 69) (v := 60) G dX11_invoice_69 bp_60 ?_
        refine x_icmp_ne (pc := 71) (tgt := 78) G dX11_invoice_71 rfl (fun c5 => ?_) (fun c5 => ?_)
        · refine x_iconst (pc := 78) (v := 0) G dX11_invoice_78 ic_0 ?_
          refine y_c1 (pc := 79) G (c_holds0 hl hM) q_ml_X11_210 h_X11_holds rfl ⟨Nat.le_of_ble_eq_true rfl, Nat.le_of_ble_eq_true rfl⟩ (Nat.le_of_ble_eq_true rfl) (Nat.le_refl _) (Nat.le_refl _) dX11_invoice_79 ?_
          refine x_if_ne (pc := 82) (y := 0) (tgt := 87) G dX11_invoice_82 rfl (fun _ => ?_) (fun q => absurd q (by decide))
          refine x_aload0 (pc := 87) G dX11_invoice_87 ?_
          refine y_gI (pc := 88) (v := (mI M 39)) G g_192 mG_39 (mI_sIn rfl) dX11_invoice_88 ?_
          refine x_istore7 (pc := 91) G dX11_invoice_91 (Nat.le_of_ble_eq_true rfl) rfl ?_
          refine x_aload0 (pc := 93) G dX11_invoice_93 ?_
          refine y_gA (pc := 94) G g_112 mG_40 dX11_invoice_94 ?_
          refine x_iload7 (pc := 97) G dX11_invoice_97 ?_
          refine x_iconst (pc := 99) (v := 4) G dX11_invoice_99 ic_4 ?_
          refine x_iload1 (pc := 100) G dX11_invoice_100 ?_
          refine x_imul (pc := 101) G dX11_invoice_101 ?_
          refine x_iload2 (pc := 102) G dX11_invoice_102 ?_
          refine x_iadd (pc := 103) G dX11_invoice_103 ?_
          refine y_iast (pc := 104) G hM a_40 ((vin_new h39 (c := 60) rfl (by decide) c5)) dX11_invoice_104 ?_
          refine x_aload0 (pc := 105) G dX11_invoice_105 ?_
          refine y_gA (pc := 106) G g_115 mG_41 dX11_invoice_106 ?_
          refine x_iload7 (pc := 109) G dX11_invoice_109 ?_
          refine x_iload3 (pc := 111) G dX11_invoice_111 ?_
          refine y_iast (pc := 112) G hM a_41 ((vin_new h39 (c := 60) rfl (by decide) c5)) dX11_invoice_112 ?_
          refine x_aload0 (pc := 113) G dX11_invoice_113 ?_
          refine y_gA (pc := 114) G g_118 mG_42 dX11_invoice_114 ?_
          refine x_iload7 (pc := 117) G dX11_invoice_117 ?_
          refine x_iload4 (pc := 119) G dX11_invoice_119 ?_
          refine y_iast (pc := 121) G hM a_42 ((vin_new h39 (c := 60) rfl (by decide) c5)) dX11_invoice_121 ?_
          refine x_aload0 (pc := 122) G dX11_invoice_122 ?_
          refine y_gA (pc := 123) G g_121 mG_43 dX11_invoice_123 ?_
          refine x_iload7 (pc := 126) G dX11_invoice_126 ?_
          refine x_iload3 (pc := 128) G dX11_invoice_128 ?_
          refine x_i2l (pc := 129) G dX11_invoice_129 ?_
          refine x_iload4 (pc := 130) G dX11_invoice_130 ?_
          refine x_i2l (pc := 132) G dX11_invoice_132 ?_
          refine x_lmul (pc := 133) G dX11_invoice_133 ?_
          refine x_aload0 (pc := 134) G dX11_invoice_134 ?_
          refine y_gA (pc := 135) G g_102 mG_36 dX11_invoice_135 ?_
          refine x_aload0 (pc := 138) G dX11_invoice_138 ?_
          refine y_gA (pc := 139) G g_90 mG_32 dX11_invoice_139 ?_
          refine x_aload0 (pc := 142) G dX11_invoice_142 ?_
          refine y_gA (pc := 143) G g_57 mG_21 dX11_invoice_143 ?_
          refine x_iload1 (pc := 146) G dX11_invoice_146 ?_
          refine y_iald (pc := 147) (v := (gI M 21 p1)) G hM a_21 ((hr _ (And.left c1)).1) ((gI_rIn rfl).trans ((gI_rIn rfl).trans ((gI_rIn rfl).trans gI_sI))) dX11_invoice_147 ?_
          refine y_iald (pc := 148) (v := (gI M 32 (gI M 21 p1))) G hM a_32 ((hs _ (And.left c1) c4)) ((gI_rIn rfl).trans ((gI_rIn rfl).trans ((gI_rIn rfl).trans gI_sI))) dX11_invoice_148 ?_
          refine y_iald (pc := 149) (v := (gI M 36 (gI M 32 (gI M 21 p1)))) G hM a_36 ((hm _ (hs _ (And.left c1) c4))) ((gI_rIn rfl).trans ((gI_rIn rfl).trans ((gI_rIn rfl).trans gI_sI))) dX11_invoice_149 ?_
          refine x_i2l (pc := 150) G dX11_invoice_150 ?_
          refine x_lmul (pc := 151) G dX11_invoice_151 ?_
          refine x_ldc2 (pc := 152) G q_cL_X11_301 dX11_invoice_152 ?_
          refine x_ldiv (pc := 155) G dX11_invoice_155 (by decide) ?_
          refine y_last (pc := 156) G hM a_43 ((vin_new h39 (c := 60) rfl (by decide) c5)) dX11_invoice_156 ?_
          refine x_aload0 (pc := 157) G dX11_invoice_157 ?_
          refine x_dup (pc := 158) G dX11_invoice_158 rfl ?_
          refine y_gI (pc := 159) (v := (mI M 39)) G g_192 mG_39 (mI_rJ.trans (mI_rI.trans (mI_rI.trans (mI_rI.trans (mI_sIn rfl))))) dX11_invoice_159 ?_
          refine x_iconst (pc := 162) (v := 1) G dX11_invoice_162 ic_1 ?_
          refine x_iadd (pc := 163) G dX11_invoice_163 ?_
          refine y_pI (pc := 164) G p_192 mS_39 dX11_invoice_164 ?_
          refine x_aload0 (pc := 167) G dX11_invoice_167 ?_
          refine x_iload7 (pc := 168) G dX11_invoice_168 ?_
          refine y_c1 (pc := 170) G (c_why hl hM (IvOK.new (M := M) (r := p1) (q := p2) (vin_new h39 (c := 60) rfl (by decide) c5) (hr _ (And.left c1)) (vin4 hr c1) (vin_linep (hr _ (And.left c1)).1 (hr _ (And.left c1)).2.2.2.1 (And.right c1)) (hs _ (And.left c1) c4) (hm _ (hs _ (And.left c1) c4)) (by rw [gI_sI, gI_rJ, gI_rIn rfl, gI_rIn rfl, gI_rIs]) (fun j x hj => by rw [gI_sI, gI_rJ, gI_rIn (by rw [beq_eq_false_iff_ne]; omega), gI_rIn (by rw [beq_eq_false_iff_ne]; omega), gI_rIn (by rw [beq_eq_false_iff_ne]; omega), gI_sI]) (fun x => by rw [gJ_sI, gJ_rJn rfl, gJ_rI, gJ_rI, gJ_rI, gJ_sI])) (by rw [mI_sIs]; exact h39.succ (by decide) (c := 60) rfl c5)) q_ml_X11_283 h_X11_why rfl ⟨Nat.le_of_ble_eq_true rfl, Nat.le_of_ble_eq_true rfl⟩ (Nat.le_of_ble_eq_true rfl) (Nat.le_refl _) (Nat.le_refl _) dX11_invoice_170 ?_
          refine x_if_ne (pc := 173) (y := 0) (tgt := 182) G dX11_invoice_173 rfl (fun c6 => ?_) (fun c6 => ?_)
          · refine x_iload7 (pc := 182) G dX11_invoice_182 ?_
            exact x_iret (pc := 184) G B rfl dX11_invoice_184 ⟨by rw [f_invoice, if_pos c1, if_pos c2, if_pos c3, if_pos c4, if_neg c5, if_neg c6], by rw [f_invoice, if_pos c1, if_pos c2, if_pos c3, if_pos c4, if_neg c5, if_neg c6]⟩
          refine x_aload0 (pc := 176) G dX11_invoice_176 ?_
          refine x_iload7 (pc := 177) G dX11_invoice_177 ?_
          refine y_cv1 (pc := 179) G (c_books hl hM (IvOK.new (M := M) (r := p1) (q := p2) (vin_new h39 (c := 60) rfl (by decide) c5) (hr _ (And.left c1)) (vin4 hr c1) (vin_linep (hr _ (And.left c1)).1 (hr _ (And.left c1)).2.2.2.1 (And.right c1)) (hs _ (And.left c1) c4) (hm _ (hs _ (And.left c1) c4)) (by rw [gI_sI, gI_rJ, gI_rIn rfl, gI_rIn rfl, gI_rIs]) (fun j x hj => by rw [gI_sI, gI_rJ, gI_rIn (by rw [beq_eq_false_iff_ne]; omega), gI_rIn (by rw [beq_eq_false_iff_ne]; omega), gI_rIn (by rw [beq_eq_false_iff_ne]; omega), gI_sI]) (fun x => by rw [gJ_sI, gJ_rJn rfl, gJ_rI, gJ_rI, gJ_rI, gJ_sI])) (hy_of (by rw [mI_sIn rfl, mI_rJ, mI_rI, mI_rI, mI_rI, mI_sIn rfl]) hy)) q_ml_X11_286 h_X11_books rfl ⟨Nat.le_of_ble_eq_true rfl, Nat.le_of_ble_eq_true rfl⟩ (Nat.le_of_ble_eq_true rfl) (Nat.le_refl _) (Nat.le_refl _) dX11_invoice_179 ?_
          refine x_iload7 (pc := 182) G dX11_invoice_182 ?_
          exact x_iret (pc := 184) G B rfl dX11_invoice_184 ⟨by rw [f_invoice, if_pos c1, if_pos c2, if_pos c3, if_pos c4, if_neg c5, if_pos c6], by rw [f_invoice, if_pos c1, if_pos c2, if_pos c3, if_pos c4, if_neg c5, if_pos c6]⟩
        refine x_iconst (pc := 74) (v := 3) G dX11_invoice_74 ic_3 ?_
        refine x_goto (pc := 75) (tgt := 79) G dX11_invoice_75 rfl ?_
        refine y_c1 (pc := 79) G (c_holdsN hl hM (by decide)) q_ml_X11_210 h_X11_holds rfl ⟨Nat.le_of_ble_eq_true rfl, Nat.le_of_ble_eq_true rfl⟩ (Nat.le_of_ble_eq_true rfl) (Nat.le_refl _) (Nat.le_refl _) dX11_invoice_79 ?_
        refine x_if_ne (pc := 82) (y := 0) (tgt := 87) G dX11_invoice_82 rfl (fun q => absurd q (by decide)) (fun _ => ?_)
        refine x_iconst (pc := 85) (v := 0) G dX11_invoice_85 ic_0 ?_
        exact x_iret (pc := 86) G B rfl dX11_invoice_86 ⟨by rw [f_invoice, if_pos c1, if_pos c2, if_pos c3, if_pos c4, if_pos c5], by rw [f_invoice, if_pos c1, if_pos c2, if_pos c3, if_pos c4, if_pos c5]⟩
      refine x_if_eq (pc := 26) (y := 0) (tgt := 33) G dX11_invoice_26 rfl (fun _ => ?_) (fun q => absurd q (by decide))
      refine x_iconst (pc := 33) (v := 0) G dX11_invoice_33 ic_0 ?_
      refine x_istore6 (pc := 34) G dX11_invoice_34 (Nat.le_of_ble_eq_true rfl) rfl ?_
      refine x_aload0 (pc := 36) G dX11_invoice_36 ?_
      refine x_iload5 (pc := 37) G dX11_invoice_37 ?_
      refine x_if_ne (pc := 39) (y := 0) (tgt := 46) G dX11_invoice_39 rfl (fun _ => ?_) (fun q => absurd q (by decide))
      refine x_iload6 (pc := 46) G dX11_invoice_46 ?_
      refine x_if_ne (pc := 48) (y := 0) (tgt := 55) G dX11_invoice_48 rfl (fun q => absurd q (by decide)) (fun _ => ?_)
      refine x_iconst (pc := 51) (v := 2) G dX11_invoice_51 ic_2 ?_
      refine x_goto (pc := 52) (tgt := 79) G dX11_invoice_52 rfl ?_
      refine y_c1 (pc := 79) G (c_holdsN hl hM (by decide)) q_ml_X11_210 h_X11_holds rfl ⟨Nat.le_of_ble_eq_true rfl, Nat.le_of_ble_eq_true rfl⟩ (Nat.le_of_ble_eq_true rfl) (Nat.le_refl _) (Nat.le_refl _) dX11_invoice_79 ?_
      refine x_if_ne (pc := 82) (y := 0) (tgt := 87) G dX11_invoice_82 rfl (fun q => absurd q (by decide)) (fun _ => ?_)
      refine x_iconst (pc := 85) (v := 0) G dX11_invoice_85 ic_0 ?_
      exact x_iret (pc := 86) G B rfl dX11_invoice_86 ⟨by rw [f_invoice, if_pos c1, if_pos c2, if_neg c3], by rw [f_invoice, if_pos c1, if_pos c2, if_neg c3]⟩
    refine x_if_eq (pc := 15) (y := 0) (tgt := 33) G dX11_invoice_15 rfl (fun _ => ?_) (fun q => absurd q (by decide))
    refine x_iconst (pc := 33) (v := 0) G dX11_invoice_33 ic_0 ?_
    refine x_istore6 (pc := 34) G dX11_invoice_34 (Nat.le_of_ble_eq_true rfl) rfl ?_
    refine x_aload0 (pc := 36) G dX11_invoice_36 ?_
    refine x_iload5 (pc := 37) G dX11_invoice_37 ?_
    refine x_if_ne (pc := 39) (y := 0) (tgt := 46) G dX11_invoice_39 rfl (fun _ => ?_) (fun q => absurd q (by decide))
    refine x_iload6 (pc := 46) G dX11_invoice_46 ?_
    refine x_if_ne (pc := 48) (y := 0) (tgt := 55) G dX11_invoice_48 rfl (fun q => absurd q (by decide)) (fun _ => ?_)
    refine x_iconst (pc := 51) (v := 2) G dX11_invoice_51 ic_2 ?_
    refine x_goto (pc := 52) (tgt := 79) G dX11_invoice_52 rfl ?_
    refine y_c1 (pc := 79) G (c_holdsN hl hM (by decide)) q_ml_X11_210 h_X11_holds rfl ⟨Nat.le_of_ble_eq_true rfl, Nat.le_of_ble_eq_true rfl⟩ (Nat.le_of_ble_eq_true rfl) (Nat.le_refl _) (Nat.le_refl _) dX11_invoice_79 ?_
    refine x_if_ne (pc := 82) (y := 0) (tgt := 87) G dX11_invoice_82 rfl (fun q => absurd q (by decide)) (fun _ => ?_)
    refine x_iconst (pc := 85) (v := 0) G dX11_invoice_85 ic_0 ?_
    exact x_iret (pc := 86) G B rfl dX11_invoice_86 ⟨by rw [f_invoice, if_pos c1, if_neg c2], by rw [f_invoice, if_pos c1, if_neg c2]⟩
  refine x_istore5 (pc := 6) G dX11_invoice_6 (Nat.le_of_ble_eq_true rfl) rfl ?_
  refine x_iload3 (pc := 8) G dX11_invoice_8 ?_
  refine x_iconst (pc := 9) (v := 1) G dX11_invoice_9 ic_1 ?_
  refine x_bipush (pc := 10) (v := 99) G dX11_invoice_10 bp_99 ?_
  refine x_cSb3 (pc := 12) G (b_in hl hM _) q_ml_X11_181 h_X11_in ⟨Nat.le_of_ble_eq_true rfl, Nat.le_of_ble_eq_true rfl⟩ (Nat.le_of_ble_eq_true rfl) (Nat.le_refl _) (Nat.le_refl _) dX11_invoice_12 (fun c7 => ?_) (fun c7 => ?_)
  · refine x_if_eq (pc := 15) (y := 0) (tgt := 33) G dX11_invoice_15 rfl (fun q => absurd q (by decide)) (fun _ => ?_)
    refine x_iload4 (pc := 18) G dX11_invoice_18 ?_
    refine x_iconst (pc := 20) (v := 1) G dX11_invoice_20 ic_1 ?_
    refine x_ldc (pc := 21) G q_cs_X11_239 dX11_invoice_21 ?_
    refine x_cSb3 (pc := 23) G (b_in hl hM _) q_ml_X11_181 h_X11_in ⟨Nat.le_of_ble_eq_true rfl, Nat.le_of_ble_eq_true rfl⟩ (Nat.le_of_ble_eq_true rfl) (Nat.le_refl _) (Nat.le_refl _) dX11_invoice_23 (fun c8 => ?_) (fun c8 => ?_)
    · refine x_if_eq (pc := 26) (y := 0) (tgt := 33) G dX11_invoice_26 rfl (fun q => absurd q (by decide)) (fun _ => ?_)
      refine x_iconst (pc := 29) (v := 1) G dX11_invoice_29 ic_1 ?_
      refine x_goto (pc := 30) (tgt := 34) G dX11_invoice_30 rfl ?_
      refine x_istore6 (pc := 34) G dX11_invoice_34 (Nat.le_of_ble_eq_true rfl) rfl ?_
      refine x_aload0 (pc := 36) G dX11_invoice_36 ?_
      refine x_iload5 (pc := 37) G dX11_invoice_37 ?_
      refine x_if_ne (pc := 39) (y := 0) (tgt := 46) G dX11_invoice_39 rfl (fun q => absurd q (by decide)) (fun _ => ?_)
      refine x_iconst (pc := 42) (v := 1) G dX11_invoice_42 ic_1 ?_
      refine x_goto (pc := 43) (tgt := 79) G dX11_invoice_43 rfl ?_
      refine y_c1 (pc := 79) G (c_holdsN hl hM (by decide)) q_ml_X11_210 h_X11_holds rfl ⟨Nat.le_of_ble_eq_true rfl, Nat.le_of_ble_eq_true rfl⟩ (Nat.le_of_ble_eq_true rfl) (Nat.le_refl _) (Nat.le_refl _) dX11_invoice_79 ?_
      refine x_if_ne (pc := 82) (y := 0) (tgt := 87) G dX11_invoice_82 rfl (fun q => absurd q (by decide)) (fun _ => ?_)
      refine x_iconst (pc := 85) (v := 0) G dX11_invoice_85 ic_0 ?_
      exact x_iret (pc := 86) G B rfl dX11_invoice_86 ⟨by rw [f_invoice, if_neg c1, if_pos c7, if_pos c8], by rw [f_invoice, if_neg c1, if_pos c7, if_pos c8]⟩
    refine x_if_eq (pc := 26) (y := 0) (tgt := 33) G dX11_invoice_26 rfl (fun _ => ?_) (fun q => absurd q (by decide))
    refine x_iconst (pc := 33) (v := 0) G dX11_invoice_33 ic_0 ?_
    refine x_istore6 (pc := 34) G dX11_invoice_34 (Nat.le_of_ble_eq_true rfl) rfl ?_
    refine x_aload0 (pc := 36) G dX11_invoice_36 ?_
    refine x_iload5 (pc := 37) G dX11_invoice_37 ?_
    refine x_if_ne (pc := 39) (y := 0) (tgt := 46) G dX11_invoice_39 rfl (fun q => absurd q (by decide)) (fun _ => ?_)
    refine x_iconst (pc := 42) (v := 1) G dX11_invoice_42 ic_1 ?_
    refine x_goto (pc := 43) (tgt := 79) G dX11_invoice_43 rfl ?_
    refine y_c1 (pc := 79) G (c_holdsN hl hM (by decide)) q_ml_X11_210 h_X11_holds rfl ⟨Nat.le_of_ble_eq_true rfl, Nat.le_of_ble_eq_true rfl⟩ (Nat.le_of_ble_eq_true rfl) (Nat.le_refl _) (Nat.le_refl _) dX11_invoice_79 ?_
    refine x_if_ne (pc := 82) (y := 0) (tgt := 87) G dX11_invoice_82 rfl (fun q => absurd q (by decide)) (fun _ => ?_)
    refine x_iconst (pc := 85) (v := 0) G dX11_invoice_85 ic_0 ?_
    exact x_iret (pc := 86) G B rfl dX11_invoice_86 ⟨by rw [f_invoice, if_neg c1, if_pos c7, if_neg c8], by rw [f_invoice, if_neg c1, if_pos c7, if_neg c8]⟩
  refine x_if_eq (pc := 15) (y := 0) (tgt := 33) G dX11_invoice_15 rfl (fun _ => ?_) (fun q => absurd q (by decide))
  refine x_iconst (pc := 33) (v := 0) G dX11_invoice_33 ic_0 ?_
  refine x_istore6 (pc := 34) G dX11_invoice_34 (Nat.le_of_ble_eq_true rfl) rfl ?_
  refine x_aload0 (pc := 36) G dX11_invoice_36 ?_
  refine x_iload5 (pc := 37) G dX11_invoice_37 ?_
  refine x_if_ne (pc := 39) (y := 0) (tgt := 46) G dX11_invoice_39 rfl (fun q => absurd q (by decide)) (fun _ => ?_)
  refine x_iconst (pc := 42) (v := 1) G dX11_invoice_42 ic_1 ?_
  refine x_goto (pc := 43) (tgt := 79) G dX11_invoice_43 rfl ?_
  refine y_c1 (pc := 79) G (c_holdsN hl hM (by decide)) q_ml_X11_210 h_X11_holds rfl ⟨Nat.le_of_ble_eq_true rfl, Nat.le_of_ble_eq_true rfl⟩ (Nat.le_of_ble_eq_true rfl) (Nat.le_refl _) (Nat.le_refl _) dX11_invoice_79 ?_
  refine x_if_ne (pc := 82) (y := 0) (tgt := 87) G dX11_invoice_82 rfl (fun q => absurd q (by decide)) (fun _ => ?_)
  refine x_iconst (pc := 85) (v := 0) G dX11_invoice_85 ic_0 ?_
  exact x_iret (pc := 86) G B rfl dX11_invoice_86 ⟨by rw [f_invoice, if_neg c1, if_neg c7], by rw [f_invoice, if_neg c1, if_neg c7]⟩
theorem dX11_letGo_0 : decode cX11_letGo 0 = .ok (.aload_n 0, 1) := by decide +kernel
theorem dX11_letGo_1 : decode cX11_letGo 1 = .ok (.iload_n 1, 1) := by decide +kernel
theorem dX11_letGo_2 : decode cX11_letGo 2 = .ok (.invokevirtual 303, 3) := by decide +kernel
theorem dX11_letGo_5 : decode cX11_letGo 5 = .ok (.ifCond .eq 15, 3) := by decide +kernel
theorem dX11_letGo_8 : decode cX11_letGo 8 = .ok (.aload_n 0, 1) := by decide +kernel
theorem dX11_letGo_9 : decode cX11_letGo 9 = .ok (.iload_n 2, 1) := by decide +kernel
theorem dX11_letGo_10 : decode cX11_letGo 10 = .ok (.invokevirtual 206, 3) := by decide +kernel
theorem dX11_letGo_13 : decode cX11_letGo 13 = .ok (.ifCond .eq 7, 3) := by decide +kernel
theorem dX11_letGo_16 : decode cX11_letGo 16 = .ok (.iconst 1, 1) := by decide +kernel
theorem dX11_letGo_17 : decode cX11_letGo 17 = .ok (.goto 4, 3) := by decide +kernel
theorem dX11_letGo_20 : decode cX11_letGo 20 = .ok (.iconst 0, 1) := by decide +kernel
theorem dX11_letGo_21 : decode cX11_letGo 21 = .ok (.istore_n 3, 1) := by decide +kernel
theorem dX11_letGo_22 : decode cX11_letGo 22 = .ok (.iload_n 3, 1) := by decide +kernel
theorem dX11_letGo_23 : decode cX11_letGo 23 = .ok (.ifCond .eq 33, 3) := by decide +kernel
theorem dX11_letGo_26 : decode cX11_letGo 26 = .ok (.aload_n 0, 1) := by decide +kernel
theorem dX11_letGo_27 : decode cX11_letGo 27 = .ok (.getfield 124, 3) := by decide +kernel
theorem dX11_letGo_30 : decode cX11_letGo 30 = .ok (.iload_n 1, 1) := by decide +kernel
theorem dX11_letGo_31 : decode cX11_letGo 31 = .ok (.iaload, 1) := by decide +kernel
theorem dX11_letGo_32 : decode cX11_letGo 32 = .ok (.ifCond .ne 24, 3) := by decide +kernel
theorem dX11_letGo_35 : decode cX11_letGo 35 = .ok (.aload_n 0, 1) := by decide +kernel
theorem dX11_letGo_36 : decode cX11_letGo 36 = .ok (.iload_n 1, 1) := by decide +kernel
theorem dX11_letGo_37 : decode cX11_letGo 37 = .ok (.invokevirtual 283, 3) := by decide +kernel
theorem dX11_letGo_40 : decode cX11_letGo 40 = .ok (.iconst 2, 1) := by decide +kernel
theorem dX11_letGo_41 : decode cX11_letGo 41 = .ok (.if_icmp .lt 15, 3) := by decide +kernel
theorem dX11_letGo_44 : decode cX11_letGo 44 = .ok (.iload_n 2, 1) := by decide +kernel
theorem dX11_letGo_45 : decode cX11_letGo 45 = .ok (.aload_n 0, 1) := by decide +kernel
theorem dX11_letGo_46 : decode cX11_letGo 46 = .ok (.getfield 213, 3) := by decide +kernel
theorem dX11_letGo_49 : decode cX11_letGo 49 = .ok (.if_icmp .ne 7, 3) := by decide +kernel
theorem dX11_letGo_52 : decode cX11_letGo 52 = .ok (.iconst 1, 1) := by decide +kernel
theorem dX11_letGo_53 : decode cX11_letGo 53 = .ok (.goto 4, 3) := by decide +kernel
theorem dX11_letGo_56 : decode cX11_letGo 56 = .ok (.iconst 0, 1) := by decide +kernel
theorem dX11_letGo_57 : decode cX11_letGo 57 = .ok (.istore 4, 2) := by decide +kernel
theorem dX11_letGo_59 : decode cX11_letGo 59 = .ok (.aload_n 0, 1) := by decide +kernel
theorem dX11_letGo_60 : decode cX11_letGo 60 = .ok (.iload_n 3, 1) := by decide +kernel
theorem dX11_letGo_61 : decode cX11_letGo 61 = .ok (.ifCond .ne 7, 3) := by decide +kernel
theorem dX11_letGo_64 : decode cX11_letGo 64 = .ok (.iconst 1, 1) := by decide +kernel
theorem dX11_letGo_65 : decode cX11_letGo 65 = .ok (.goto 13, 3) := by decide +kernel
theorem dX11_letGo_68 : decode cX11_letGo 68 = .ok (.iload 4, 2) := by decide +kernel
theorem dX11_letGo_70 : decode cX11_letGo 70 = .ok (.ifCond .eq 7, 3) := by decide +kernel
theorem dX11_letGo_73 : decode cX11_letGo 73 = .ok (.iconst 0, 1) := by decide +kernel
theorem dX11_letGo_74 : decode cX11_letGo 74 = .ok (.goto 4, 3) := by decide +kernel
theorem dX11_letGo_77 : decode cX11_letGo 77 = .ok (.iconst 2, 1) := by decide +kernel
theorem dX11_letGo_78 : decode cX11_letGo 78 = .ok (.invokevirtual 210, 3) := by decide +kernel
theorem dX11_letGo_81 : decode cX11_letGo 81 = .ok (.ifCond .ne 5, 3) := by decide +kernel
theorem dX11_letGo_84 : decode cX11_letGo 84 = .ok (.iconst 0, 1) := by decide +kernel
theorem dX11_letGo_85 : decode cX11_letGo 85 = .ok (.ireturn, 1) := by decide +kernel
theorem dX11_letGo_86 : decode cX11_letGo 86 = .ok (.aload_n 0, 1) := by decide +kernel
theorem dX11_letGo_87 : decode cX11_letGo 87 = .ok (.getfield 127, 3) := by decide +kernel
theorem dX11_letGo_90 : decode cX11_letGo 90 = .ok (.iload_n 1, 1) := by decide +kernel
theorem dX11_letGo_91 : decode cX11_letGo 91 = .ok (.iconst 1, 1) := by decide +kernel
theorem dX11_letGo_92 : decode cX11_letGo 92 = .ok (.bastore, 1) := by decide +kernel
theorem dX11_letGo_93 : decode cX11_letGo 93 = .ok (.aload_n 0, 1) := by decide +kernel
theorem dX11_letGo_94 : decode cX11_letGo 94 = .ok (.iload_n 1, 1) := by decide +kernel
theorem dX11_letGo_95 : decode cX11_letGo 95 = .ok (.invokevirtual 283, 3) := by decide +kernel
theorem dX11_letGo_98 : decode cX11_letGo 98 = .ok (.ifCond .ne 8, 3) := by decide +kernel
theorem dX11_letGo_101 : decode cX11_letGo 101 = .ok (.aload_n 0, 1) := by decide +kernel
theorem dX11_letGo_102 : decode cX11_letGo 102 = .ok (.iload_n 1, 1) := by decide +kernel
theorem dX11_letGo_103 : decode cX11_letGo 103 = .ok (.invokevirtual 286, 3) := by decide +kernel
theorem dX11_letGo_106 : decode cX11_letGo 106 = .ok (.aload_n 0, 1) := by decide +kernel
theorem dX11_letGo_107 : decode cX11_letGo 107 = .ok (.getfield 124, 3) := by decide +kernel
theorem dX11_letGo_110 : decode cX11_letGo 110 = .ok (.iload_n 1, 1) := by decide +kernel
theorem dX11_letGo_111 : decode cX11_letGo 111 = .ok (.iaload, 1) := by decide +kernel
theorem dX11_letGo_112 : decode cX11_letGo 112 = .ok (.iconst 1, 1) := by decide +kernel
theorem dX11_letGo_113 : decode cX11_letGo 113 = .ok (.if_icmp .ne 7, 3) := by decide +kernel
theorem dX11_letGo_116 : decode cX11_letGo 116 = .ok (.iconst 1, 1) := by decide +kernel
theorem dX11_letGo_117 : decode cX11_letGo 117 = .ok (.goto 4, 3) := by decide +kernel
theorem dX11_letGo_120 : decode cX11_letGo 120 = .ok (.iconst 0, 1) := by decide +kernel
theorem dX11_letGo_121 : decode cX11_letGo 121 = .ok (.ireturn, 1) := by decide +kernel
def f_letGo (p1 : Int32) (p2 : Int32) (M : MS) : Int32 × MS :=
    if P_isInvoice p1 M then
      if P_isPerson p2 M then
        if (gI M 44 p1) = 0 then
          if (f_why p1 M) < 2 then
            (0, (sI M 0 2))
          else
          if p2 = (mI M 10) then
            if (f_why p1 (rI (sI M 0 0) 45 p1 1)) = 0 then
              if (gI (f_books p1 (rI (sI M 0 0) 45 p1 1)) 44 p1) = 1 then
                (1, (f_books p1 (rI (sI M 0 0) 45 p1 1)))
              else
              (0, (f_books p1 (rI (sI M 0 0) 45 p1 1)))
            else
            if (gI M 44 p1) = 1 then
              (1, (rI (sI M 0 0) 45 p1 1))
            else
            (0, (rI (sI M 0 0) 45 p1 1))
          else
          (0, (sI M 0 2))
        else
        (0, (sI M 0 2))
      else
      (0, (sI M 0 1))
    else
    (0, (sI M 0 1))
abbrev rm_X11_letGo : Room := { frames := 4, cells := 0, slots := 0, locals := 102 }
set_option maxRecDepth 100000 in
set_option maxHeartbeats 4000000 in
theorem c_letGo {l : Launch} {k : KC} {mo : Nat} {ad : Nat → Nat} (hl : l.stackTraces = false) (hM : HM mo ad) {M : MS} {p1 : Int32} {p2 : Int32} (hv : HV M) (h39 : LE (mI M 39) 60) (hy : P_isYear (f_yearNow M)) : CM l k mo ad yX11_letGo (.code yX11_letGo cX11_letGo 5 (some .boolean)) rm_X11_letGo [.int p1, .int p2] M (some (.int (f_letGo p1 p2 M).1)) (f_letGo p1 p2 M).2 := by
  refine MC.of 2 hl (by decide) (Nat.le_of_ble_eq_true rfl) ?_
  intro p e s m args below meth c A Q G B _ _
  show Wx p l e rm_X11_letGo s m args below meth c k A 5 Q 0 0 0 [some (.ref mo), some (.int p1), some (.int p2), none, none] [] (mW k mo ad M)
  refine x_aload0 (pc := 0) G dX11_letGo_0 ?_
  refine x_iload1 (pc := 1) G dX11_letGo_1 ?_
  refine y_cb1 (pc := 2) G (b_isInvoice hl hM ) q_ml_X11_303 h_X11_isInvoice rfl ⟨Nat.le_of_ble_eq_true rfl, Nat.le_of_ble_eq_true rfl⟩ (Nat.le_of_ble_eq_true rfl) (Nat.le_refl _) (Nat.le_refl _) dX11_letGo_2 (fun c1 => ?_) (fun c1 => ?_)
  · refine x_if_eq (pc := 5) (y := 0) (tgt := 20) G dX11_letGo_5 rfl (fun q => absurd q (by decide)) (fun _ => ?_)
    refine x_aload0 (pc := 8) G dX11_letGo_8 ?_
    refine x_iload2 (pc := 9) G dX11_letGo_9 ?_
    refine y_cb1 (pc := 10) G (b_isPerson hl hM ) q_ml_X11_206 h_X11_isPerson rfl ⟨Nat.le_of_ble_eq_true rfl, Nat.le_of_ble_eq_true rfl⟩ (Nat.le_of_ble_eq_true rfl) (Nat.le_refl _) (Nat.le_refl _) dX11_letGo_10 (fun c2 => ?_) (fun c2 => ?_)
    · refine x_if_eq (pc := 13) (y := 0) (tgt := 20) G dX11_letGo_13 rfl (fun q => absurd q (by decide)) (fun _ => ?_)
      refine x_iconst (pc := 16) (v := 1) G dX11_letGo_16 ic_1 ?_
      refine x_goto (pc := 17) (tgt := 21) G dX11_letGo_17 rfl ?_
      refine x_istore3 (pc := 21) G dX11_letGo_21 (Nat.le_of_ble_eq_true rfl) rfl ?_
      refine x_iload3 (pc := 22) G dX11_letGo_22 ?_
      refine x_if_eq (pc := 23) (y := 0) (tgt := 56) G dX11_letGo_23 rfl (fun q => absurd q (by decide)) (fun _ => ?_)
      refine x_aload0 (pc := 26) G dX11_letGo_26 ?_
      refine y_gA (pc := 27) G g_124 mG_44 dX11_letGo_27 ?_
      refine x_iload1 (pc := 30) G dX11_letGo_30 ?_
      refine y_iald (pc := 31) (v := (gI M 44 p1)) G hM a_44 ((hv _ c1).1) rfl dX11_letGo_31 ?_
      refine x_if_ne (pc := 32) (y := 0) (tgt := 56) G dX11_letGo_32 rfl (fun c3 => ?_) (fun c3 => ?_)
      · refine x_iconst (pc := 56) (v := 0) G dX11_letGo_56 ic_0 ?_
        refine x_istore4 (pc := 57) G dX11_letGo_57 (Nat.le_of_ble_eq_true rfl) rfl ?_
        refine x_aload0 (pc := 59) G dX11_letGo_59 ?_
        refine x_iload3 (pc := 60) G dX11_letGo_60 ?_
        refine x_if_ne (pc := 61) (y := 0) (tgt := 68) G dX11_letGo_61 rfl (fun _ => ?_) (fun q => absurd q (by decide))
        refine x_iload4 (pc := 68) G dX11_letGo_68 ?_
        refine x_if_eq (pc := 70) (y := 0) (tgt := 77) G dX11_letGo_70 rfl (fun _ => ?_) (fun q => absurd q (by decide))
        refine x_iconst (pc := 77) (v := 2) G dX11_letGo_77 ic_2 ?_
        refine y_c1 (pc := 78) G (c_holdsN hl hM (by decide)) q_ml_X11_210 h_X11_holds rfl ⟨Nat.le_of_ble_eq_true rfl, Nat.le_of_ble_eq_true rfl⟩ (Nat.le_of_ble_eq_true rfl) (Nat.le_refl _) (Nat.le_refl _) dX11_letGo_78 ?_
        refine x_if_ne (pc := 81) (y := 0) (tgt := 86) G dX11_letGo_81 rfl (fun q => absurd q (by decide)) (fun _ => ?_)
        refine x_iconst (pc := 84) (v := 0) G dX11_letGo_84 ic_0 ?_
        exact x_zret (pc := 85) G B rfl (by decide) dX11_letGo_85 ⟨by rw [f_letGo, if_pos c1, if_pos c2, if_neg c3], by rw [f_letGo, if_pos c1, if_pos c2, if_neg c3]⟩
      refine x_aload0 (pc := 35) G dX11_letGo_35 ?_
      refine x_iload1 (pc := 36) G dX11_letGo_36 ?_
      refine y_c1 (pc := 37) G (c_why hl hM (hv _ c1) (h39_of rfl h39)) q_ml_X11_283 h_X11_why rfl ⟨Nat.le_of_ble_eq_true rfl, Nat.le_of_ble_eq_true rfl⟩ (Nat.le_of_ble_eq_true rfl) (Nat.le_refl _) (Nat.le_refl _) dX11_letGo_37 ?_
      refine x_iconst (pc := 40) (v := 2) G dX11_letGo_40 ic_2 ?_
      refine x_icmp_lt (pc := 41) (tgt := 56) G dX11_letGo_41 rfl (fun c4 => ?_) (fun c4 => ?_)
      · refine x_iconst (pc := 56) (v := 0) G dX11_letGo_56 ic_0 ?_
        refine x_istore4 (pc := 57) G dX11_letGo_57 (Nat.le_of_ble_eq_true rfl) rfl ?_
        refine x_aload0 (pc := 59) G dX11_letGo_59 ?_
        refine x_iload3 (pc := 60) G dX11_letGo_60 ?_
        refine x_if_ne (pc := 61) (y := 0) (tgt := 68) G dX11_letGo_61 rfl (fun _ => ?_) (fun q => absurd q (by decide))
        refine x_iload4 (pc := 68) G dX11_letGo_68 ?_
        refine x_if_eq (pc := 70) (y := 0) (tgt := 77) G dX11_letGo_70 rfl (fun _ => ?_) (fun q => absurd q (by decide))
        refine x_iconst (pc := 77) (v := 2) G dX11_letGo_77 ic_2 ?_
        refine y_c1 (pc := 78) G (c_holdsN hl hM (by decide)) q_ml_X11_210 h_X11_holds rfl ⟨Nat.le_of_ble_eq_true rfl, Nat.le_of_ble_eq_true rfl⟩ (Nat.le_of_ble_eq_true rfl) (Nat.le_refl _) (Nat.le_refl _) dX11_letGo_78 ?_
        refine x_if_ne (pc := 81) (y := 0) (tgt := 86) G dX11_letGo_81 rfl (fun q => absurd q (by decide)) (fun _ => ?_)
        refine x_iconst (pc := 84) (v := 0) G dX11_letGo_84 ic_0 ?_
        exact x_zret (pc := 85) G B rfl (by decide) dX11_letGo_85 ⟨by rw [f_letGo, if_pos c1, if_pos c2, if_pos c3, if_pos c4], by rw [f_letGo, if_pos c1, if_pos c2, if_pos c3, if_pos c4]⟩
      refine x_iload2 (pc := 44) G dX11_letGo_44 ?_
      refine x_aload0 (pc := 45) G dX11_letGo_45 ?_
      refine y_gI (pc := 46) (v := (mI M 10)) G g_213 mG_10 rfl dX11_letGo_46 ?_
      refine x_icmp_ne (pc := 49) (tgt := 56) G dX11_letGo_49 rfl (fun c5 => ?_) (fun c5 => ?_)
      · refine x_iconst (pc := 56) (v := 0) G dX11_letGo_56 ic_0 ?_
        refine x_istore4 (pc := 57) G dX11_letGo_57 (Nat.le_of_ble_eq_true rfl) rfl ?_
        refine x_aload0 (pc := 59) G dX11_letGo_59 ?_
        refine x_iload3 (pc := 60) G dX11_letGo_60 ?_
        refine x_if_ne (pc := 61) (y := 0) (tgt := 68) G dX11_letGo_61 rfl (fun _ => ?_) (fun q => absurd q (by decide))
        refine x_iload4 (pc := 68) G dX11_letGo_68 ?_
        refine x_if_eq (pc := 70) (y := 0) (tgt := 77) G dX11_letGo_70 rfl (fun _ => ?_) (fun q => absurd q (by decide))
        refine x_iconst (pc := 77) (v := 2) G dX11_letGo_77 ic_2 ?_
        refine y_c1 (pc := 78) G (c_holdsN hl hM (by decide)) q_ml_X11_210 h_X11_holds rfl ⟨Nat.le_of_ble_eq_true rfl, Nat.le_of_ble_eq_true rfl⟩ (Nat.le_of_ble_eq_true rfl) (Nat.le_refl _) (Nat.le_refl _) dX11_letGo_78 ?_
        refine x_if_ne (pc := 81) (y := 0) (tgt := 86) G dX11_letGo_81 rfl (fun q => absurd q (by decide)) (fun _ => ?_)
        refine x_iconst (pc := 84) (v := 0) G dX11_letGo_84 ic_0 ?_
        exact x_zret (pc := 85) G B rfl (by decide) dX11_letGo_85 ⟨by rw [f_letGo, if_pos c1, if_pos c2, if_pos c3, if_neg c4, if_neg c5], by rw [f_letGo, if_pos c1, if_pos c2, if_pos c3, if_neg c4, if_neg c5]⟩
      refine x_iconst (pc := 52) (v := 1) G dX11_letGo_52 ic_1 ?_
      refine x_goto (pc := 53) (tgt := 57) G dX11_letGo_53 rfl ?_
      refine x_istore4 (pc := 57) G dX11_letGo_57 (Nat.le_of_ble_eq_true rfl) rfl ?_
      refine x_aload0 (pc := 59) G dX11_letGo_59 ?_
      refine x_iload3 (pc := 60) G dX11_letGo_60 ?_
      refine x_if_ne (pc := 61) (y := 0) (tgt := 68) G dX11_letGo_61 rfl (fun _ => ?_) (fun q => absurd q (by decide))
      refine x_iload4 (pc := 68) G dX11_letGo_68 ?_
      refine x_if_eq (pc := 70) (y := 0) (tgt := 77) G dX11_letGo_70 rfl (fun q => absurd q (by decide)) (fun _ => ?_)
      refine x_iconst (pc := 73) (v := 0) G dX11_letGo_73 ic_0 ?_
      refine x_goto (pc := 74) (tgt := 78) G dX11_letGo_74 rfl ?_
      refine y_c1 (pc := 78) G (c_holds0 hl hM) q_ml_X11_210 h_X11_holds rfl ⟨Nat.le_of_ble_eq_true rfl, Nat.le_of_ble_eq_true rfl⟩ (Nat.le_of_ble_eq_true rfl) (Nat.le_refl _) (Nat.le_refl _) dX11_letGo_78 ?_
      refine x_if_ne (pc := 81) (y := 0) (tgt := 86) G dX11_letGo_81 rfl (fun _ => ?_) (fun q => absurd q (by decide))
      refine x_aload0 (pc := 86) G dX11_letGo_86 ?_
      refine y_gA (pc := 87) G g_127 mG_45 dX11_letGo_87 ?_
      refine x_iload1 (pc := 90) G dX11_letGo_90 ?_
      refine x_iconst (pc := 91) (v := 1) G dX11_letGo_91 ic_1 ?_
      refine y_zast (pc := 92) G hM a_45 ((hv _ c1).1) (by decide) dX11_letGo_92 ?_
      refine x_aload0 (pc := 93) G dX11_letGo_93 ?_
      refine x_iload1 (pc := 94) G dX11_letGo_94 ?_
      refine y_c1 (pc := 95) G (c_why hl hM (((hv.sI (a := 0) (x := 0) (by decide)).rI (a := 45) (i := p1) (x := 1) (by decide)) _ c1) (h39_of (mI_rI.trans (mI_sIn rfl)) h39)) q_ml_X11_283 h_X11_why rfl ⟨Nat.le_of_ble_eq_true rfl, Nat.le_of_ble_eq_true rfl⟩ (Nat.le_of_ble_eq_true rfl) (Nat.le_refl _) (Nat.le_refl _) dX11_letGo_95 ?_
      refine x_if_ne (pc := 98) (y := 0) (tgt := 106) G dX11_letGo_98 rfl (fun c6 => ?_) (fun c6 => ?_)
      · refine x_aload0 (pc := 106) G dX11_letGo_106 ?_
        refine y_gA (pc := 107) G g_124 mG_44 dX11_letGo_107 ?_
        refine x_iload1 (pc := 110) G dX11_letGo_110 ?_
        refine y_iald (pc := 111) (v := (gI M 44 p1)) G hM a_44 ((hv _ c1).1) ((gI_rIn rfl).trans gI_sI) dX11_letGo_111 ?_
        refine x_iconst (pc := 112) (v := 1) G dX11_letGo_112 ic_1 ?_
        refine x_icmp_ne (pc := 113) (tgt := 120) G dX11_letGo_113 rfl (fun c7 => ?_) (fun c7 => ?_)
        · refine x_iconst (pc := 120) (v := 0) G dX11_letGo_120 ic_0 ?_
          exact x_zret (pc := 121) G B rfl (by decide) dX11_letGo_121 ⟨by rw [f_letGo, if_pos c1, if_pos c2, if_pos c3, if_neg c4, if_pos c5, if_neg c6, if_neg c7], by rw [f_letGo, if_pos c1, if_pos c2, if_pos c3, if_neg c4, if_pos c5, if_neg c6, if_neg c7]⟩
        refine x_iconst (pc := 116) (v := 1) G dX11_letGo_116 ic_1 ?_
        refine x_goto (pc := 117) (tgt := 121) G dX11_letGo_117 rfl ?_
        exact x_zret (pc := 121) G B rfl (by decide) dX11_letGo_121 ⟨by rw [f_letGo, if_pos c1, if_pos c2, if_pos c3, if_neg c4, if_pos c5, if_neg c6, if_pos c7], by rw [f_letGo, if_pos c1, if_pos c2, if_pos c3, if_neg c4, if_pos c5, if_neg c6, if_pos c7]⟩
      refine x_aload0 (pc := 101) G dX11_letGo_101 ?_
      refine x_iload1 (pc := 102) G dX11_letGo_102 ?_
      refine y_cv1 (pc := 103) G (c_books hl hM (((hv.sI (a := 0) (x := 0) (by decide)).rI (a := 45) (i := p1) (x := 1) (by decide)) _ c1) (hy_of (mI_rI.trans (mI_sIn rfl)) hy)) q_ml_X11_286 h_X11_books rfl ⟨Nat.le_of_ble_eq_true rfl, Nat.le_of_ble_eq_true rfl⟩ (Nat.le_of_ble_eq_true rfl) (Nat.le_refl _) (Nat.le_refl _) dX11_letGo_103 ?_
      refine x_aload0 (pc := 106) G dX11_letGo_106 ?_
      refine y_gA (pc := 107) G g_124 mG_44 dX11_letGo_107 ?_
      refine x_iload1 (pc := 110) G dX11_letGo_110 ?_
      refine y_iald (pc := 111) (v := (gI (f_books p1 (rI (sI M 0 0) 45 p1 1)) 44 p1)) G hM a_44 ((hv _ c1).1) rfl dX11_letGo_111 ?_
      refine x_iconst (pc := 112) (v := 1) G dX11_letGo_112 ic_1 ?_
      refine x_icmp_ne (pc := 113) (tgt := 120) G dX11_letGo_113 rfl (fun c8 => ?_) (fun c8 => ?_)
      · refine x_iconst (pc := 120) (v := 0) G dX11_letGo_120 ic_0 ?_
        exact x_zret (pc := 121) G B rfl (by decide) dX11_letGo_121 ⟨by rw [f_letGo, if_pos c1, if_pos c2, if_pos c3, if_neg c4, if_pos c5, if_pos c6, if_neg c8], by rw [f_letGo, if_pos c1, if_pos c2, if_pos c3, if_neg c4, if_pos c5, if_pos c6, if_neg c8]⟩
      refine x_iconst (pc := 116) (v := 1) G dX11_letGo_116 ic_1 ?_
      refine x_goto (pc := 117) (tgt := 121) G dX11_letGo_117 rfl ?_
      exact x_zret (pc := 121) G B rfl (by decide) dX11_letGo_121 ⟨by rw [f_letGo, if_pos c1, if_pos c2, if_pos c3, if_neg c4, if_pos c5, if_pos c6, if_pos c8], by rw [f_letGo, if_pos c1, if_pos c2, if_pos c3, if_neg c4, if_pos c5, if_pos c6, if_pos c8]⟩
    refine x_if_eq (pc := 13) (y := 0) (tgt := 20) G dX11_letGo_13 rfl (fun _ => ?_) (fun q => absurd q (by decide))
    refine x_iconst (pc := 20) (v := 0) G dX11_letGo_20 ic_0 ?_
    refine x_istore3 (pc := 21) G dX11_letGo_21 (Nat.le_of_ble_eq_true rfl) rfl ?_
    refine x_iload3 (pc := 22) G dX11_letGo_22 ?_
    refine x_if_eq (pc := 23) (y := 0) (tgt := 56) G dX11_letGo_23 rfl (fun _ => ?_) (fun q => absurd q (by decide))
    refine x_iconst (pc := 56) (v := 0) G dX11_letGo_56 ic_0 ?_
    refine x_istore4 (pc := 57) G dX11_letGo_57 (Nat.le_of_ble_eq_true rfl) rfl ?_
    refine x_aload0 (pc := 59) G dX11_letGo_59 ?_
    refine x_iload3 (pc := 60) G dX11_letGo_60 ?_
    refine x_if_ne (pc := 61) (y := 0) (tgt := 68) G dX11_letGo_61 rfl (fun q => absurd q (by decide)) (fun _ => ?_)
    refine x_iconst (pc := 64) (v := 1) G dX11_letGo_64 ic_1 ?_
    refine x_goto (pc := 65) (tgt := 78) G dX11_letGo_65 rfl ?_
    refine y_c1 (pc := 78) G (c_holdsN hl hM (by decide)) q_ml_X11_210 h_X11_holds rfl ⟨Nat.le_of_ble_eq_true rfl, Nat.le_of_ble_eq_true rfl⟩ (Nat.le_of_ble_eq_true rfl) (Nat.le_refl _) (Nat.le_refl _) dX11_letGo_78 ?_
    refine x_if_ne (pc := 81) (y := 0) (tgt := 86) G dX11_letGo_81 rfl (fun q => absurd q (by decide)) (fun _ => ?_)
    refine x_iconst (pc := 84) (v := 0) G dX11_letGo_84 ic_0 ?_
    exact x_zret (pc := 85) G B rfl (by decide) dX11_letGo_85 ⟨by rw [f_letGo, if_pos c1, if_neg c2], by rw [f_letGo, if_pos c1, if_neg c2]⟩
  refine x_if_eq (pc := 5) (y := 0) (tgt := 20) G dX11_letGo_5 rfl (fun _ => ?_) (fun q => absurd q (by decide))
  refine x_iconst (pc := 20) (v := 0) G dX11_letGo_20 ic_0 ?_
  refine x_istore3 (pc := 21) G dX11_letGo_21 (Nat.le_of_ble_eq_true rfl) rfl ?_
  refine x_iload3 (pc := 22) G dX11_letGo_22 ?_
  refine x_if_eq (pc := 23) (y := 0) (tgt := 56) G dX11_letGo_23 rfl (fun _ => ?_) (fun q => absurd q (by decide))
  refine x_iconst (pc := 56) (v := 0) G dX11_letGo_56 ic_0 ?_
  refine x_istore4 (pc := 57) G dX11_letGo_57 (Nat.le_of_ble_eq_true rfl) rfl ?_
  refine x_aload0 (pc := 59) G dX11_letGo_59 ?_
  refine x_iload3 (pc := 60) G dX11_letGo_60 ?_
  refine x_if_ne (pc := 61) (y := 0) (tgt := 68) G dX11_letGo_61 rfl (fun q => absurd q (by decide)) (fun _ => ?_)
  refine x_iconst (pc := 64) (v := 1) G dX11_letGo_64 ic_1 ?_
  refine x_goto (pc := 65) (tgt := 78) G dX11_letGo_65 rfl ?_
  refine y_c1 (pc := 78) G (c_holdsN hl hM (by decide)) q_ml_X11_210 h_X11_holds rfl ⟨Nat.le_of_ble_eq_true rfl, Nat.le_of_ble_eq_true rfl⟩ (Nat.le_of_ble_eq_true rfl) (Nat.le_refl _) (Nat.le_refl _) dX11_letGo_78 ?_
  refine x_if_ne (pc := 81) (y := 0) (tgt := 86) G dX11_letGo_81 rfl (fun q => absurd q (by decide)) (fun _ => ?_)
  refine x_iconst (pc := 84) (v := 0) G dX11_letGo_84 ic_0 ?_
  exact x_zret (pc := 85) G B rfl (by decide) dX11_letGo_85 ⟨by rw [f_letGo, if_neg c1], by rw [f_letGo, if_neg c1]⟩
