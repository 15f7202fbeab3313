theorem gI_same {M : MS} {j : Nat} {i v : Int32} : gI (rI M j i v) j i = v := by simp [gI, rI, upd]
theorem gJ_same {M : MS} {j : Nat} {i : Int32} {v : Int64} : gJ (rJ M j i v) j i = v := by simp [gJ, rJ, vp_updL]
theorem dX11_approve_0 : decode cX11_approve 0 = .ok (.aload_n 0, 1) := by decide +kernel
theorem dX11_approve_1 : decode cX11_approve 1 = .ok (.iload_n 1, 1) := by decide +kernel
theorem dX11_approve_2 : decode cX11_approve 2 = .ok (.invokevirtual 188, 3) := by decide +kernel
theorem dX11_approve_5 : decode cX11_approve 5 = .ok (.ifCond .eq 15, 3) := by decide +kernel
theorem dX11_approve_8 : decode cX11_approve 8 = .ok (.aload_n 0, 1) := by decide +kernel
theorem dX11_approve_9 : decode cX11_approve 9 = .ok (.iload_n 2, 1) := by decide +kernel
theorem dX11_approve_10 : decode cX11_approve 10 = .ok (.invokevirtual 206, 3) := by decide +kernel
theorem dX11_approve_13 : decode cX11_approve 13 = .ok (.ifCond .eq 7, 3) := by decide +kernel
theorem dX11_approve_16 : decode cX11_approve 16 = .ok (.iconst 1, 1) := by decide +kernel
theorem dX11_approve_17 : decode cX11_approve 17 = .ok (.goto 4, 3) := by decide +kernel
theorem dX11_approve_20 : decode cX11_approve 20 = .ok (.iconst 0, 1) := by decide +kernel
theorem dX11_approve_21 : decode cX11_approve 21 = .ok (.istore_n 3, 1) := by decide +kernel
theorem dX11_approve_22 : decode cX11_approve 22 = .ok (.aload_n 0, 1) := by decide +kernel
theorem dX11_approve_23 : decode cX11_approve 23 = .ok (.iload_n 3, 1) := by decide +kernel
theorem dX11_approve_24 : decode cX11_approve 24 = .ok (.ifCond .ne 7, 3) := by decide +kernel
theorem dX11_approve_27 : decode cX11_approve 27 = .ok (.iconst 1, 1) := by decide +kernel
theorem dX11_approve_28 : decode cX11_approve 28 = .ok (.goto 17, 3) := by decide +kernel
theorem dX11_approve_31 : decode cX11_approve 31 = .ok (.aload_n 0, 1) := by decide +kernel
theorem dX11_approve_32 : decode cX11_approve 32 = .ok (.iload_n 1, 1) := by decide +kernel
theorem dX11_approve_33 : decode cX11_approve 33 = .ok (.iload_n 2, 1) := by decide +kernel
theorem dX11_approve_34 : decode cX11_approve 34 = .ok (.invokevirtual 270, 3) := by decide +kernel
theorem dX11_approve_37 : decode cX11_approve 37 = .ok (.ifCond .eq 7, 3) := by decide +kernel
theorem dX11_approve_40 : decode cX11_approve 40 = .ok (.iconst 0, 1) := by decide +kernel
theorem dX11_approve_41 : decode cX11_approve 41 = .ok (.goto 4, 3) := by decide +kernel
theorem dX11_approve_44 : decode cX11_approve 44 = .ok (.iconst 2, 1) := by decide +kernel
theorem dX11_approve_45 : decode cX11_approve 45 = .ok (.invokevirtual 210, 3) := by decide +kernel
theorem dX11_approve_48 : decode cX11_approve 48 = .ok (.ifCond .ne 5, 3) := by decide +kernel
theorem dX11_approve_51 : decode cX11_approve 51 = .ok (.iconst 0, 1) := by decide +kernel
theorem dX11_approve_52 : decode cX11_approve 52 = .ok (.ireturn, 1) := by decide +kernel
theorem dX11_approve_53 : decode cX11_approve 53 = .ok (.aload_n 0, 1) := by decide +kernel
theorem dX11_approve_54 : decode cX11_approve 54 = .ok (.iload_n 1, 1) := by decide +kernel
theorem dX11_approve_55 : decode cX11_approve 55 = .ok (.invokevirtual 264, 3) := by decide +kernel
theorem dX11_approve_58 : decode cX11_approve 58 = .ok (.iload_n 2, 1) := by decide +kernel
theorem dX11_approve_59 : decode cX11_approve 59 = .ok (.if_icmp .ne 16, 3) := by decide +kernel
theorem dX11_approve_62 : decode cX11_approve 62 = .ok (.aload_n 0, 1) := by decide +kernel
theorem dX11_approve_63 : decode cX11_approve 63 = .ok (.getfield 69, 3) := by decide +kernel
theorem dX11_approve_66 : decode cX11_approve 66 = .ok (.iload_n 1, 1) := by decide +kernel
theorem dX11_approve_67 : decode cX11_approve 67 = .ok (.dup2, 1) := by decide +kernel
theorem dX11_approve_68 : decode cX11_approve 68 = .ok (.iaload, 1) := by decide +kernel
theorem dX11_approve_69 : decode cX11_approve 69 = .ok (.iconst 1, 1) := by decide +kernel
theorem dX11_approve_70 : decode cX11_approve 70 = .ok (.iadd, 1) := by decide +kernel
theorem dX11_approve_71 : decode cX11_approve 71 = .ok (.iastore, 1) := by decide +kernel
theorem dX11_approve_72 : decode cX11_approve 72 = .ok (.goto 10, 3) := by decide +kernel
theorem dX11_approve_75 : decode cX11_approve 75 = .ok (.aload_n 0, 1) := by decide +kernel
theorem dX11_approve_76 : decode cX11_approve 76 = .ok (.getfield 72, 3) := by decide +kernel
theorem dX11_approve_79 : decode cX11_approve 79 = .ok (.iload_n 1, 1) := by decide +kernel
theorem dX11_approve_80 : decode cX11_approve 80 = .ok (.iconst (-1), 1) := by decide +kernel
theorem dX11_approve_81 : decode cX11_approve 81 = .ok (.iastore, 1) := by decide +kernel
theorem dX11_approve_82 : decode cX11_approve 82 = .ok (.aload_n 0, 1) := by decide +kernel
theorem dX11_approve_83 : decode cX11_approve 83 = .ok (.getfield 45, 3) := by decide +kernel
theorem dX11_approve_86 : decode cX11_approve 86 = .ok (.iload_n 1, 1) := by decide +kernel
theorem dX11_approve_87 : decode cX11_approve 87 = .ok (.aload_n 0, 1) := by decide +kernel
theorem dX11_approve_88 : decode cX11_approve 88 = .ok (.iload_n 1, 1) := by decide +kernel
theorem dX11_approve_89 : decode cX11_approve 89 = .ok (.invokevirtual 257, 3) := by decide +kernel
theorem dX11_approve_92 : decode cX11_approve 92 = .ok (.ifCond .ne 7, 3) := by decide +kernel
theorem dX11_approve_95 : decode cX11_approve 95 = .ok (.iconst 2, 1) := by decide +kernel
theorem dX11_approve_96 : decode cX11_approve 96 = .ok (.goto 4, 3) := by decide +kernel
theorem dX11_approve_99 : decode cX11_approve 99 = .ok (.iconst 1, 1) := by decide +kernel
theorem dX11_approve_100 : decode cX11_approve 100 = .ok (.iastore, 1) := by decide +kernel
theorem dX11_approve_101 : decode cX11_approve 101 = .ok (.aload_n 0, 1) := by decide +kernel
theorem dX11_approve_102 : decode cX11_approve 102 = .ok (.iload_n 1, 1) := by decide +kernel
theorem dX11_approve_103 : decode cX11_approve 103 = .ok (.invokevirtual 257, 3) := by decide +kernel
theorem dX11_approve_106 : decode cX11_approve 106 = .ok (.ireturn, 1) := by decide +kernel
def f_approve (p1 : Int32) (p2 : Int32) (M : MS) : Int32 × MS :=
    if P_isRequest p1 M then
      if P_isPerson p2 M then
        if P_can p1 p2 M then
          if (f_byTurn p1 (sI M 0 0)) = p2 then
            if (f_left p1 (rI (sI M 0 0) 25 p1 ((gI M 25 p1) + 1))) = 0 then
              ((f_left p1 (rI (rI (sI M 0 0) 25 p1 ((gI M 25 p1) + 1)) 17 p1 2)), (rI (rI (sI M 0 0) 25 p1 ((gI M 25 p1) + 1)) 17 p1 2))
            else
            ((f_left p1 (rI (rI (sI M 0 0) 25 p1 ((gI M 25 p1) + 1)) 17 p1 1)), (rI (rI (sI M 0 0) 25 p1 ((gI M 25 p1) + 1)) 17 p1 1))
          else
          if (f_left p1 (rI (sI M 0 0) 26 p1 (-1))) = 0 then
            ((f_left p1 (rI (rI (sI M 0 0) 26 p1 (-1)) 17 p1 2)), (rI (rI (sI M 0 0) 26 p1 (-1)) 17 p1 2))
          else
          ((f_left p1 (rI (rI (sI M 0 0) 26 p1 (-1)) 17 p1 1)), (rI (rI (sI M 0 0) 26 p1 (-1)) 17 p1 1))
        else
        (0, (sI M 0 2))
      else
      (0, (sI M 0 1))
    else
    (0, (sI M 0 1))
abbrev rm_X11_approve : Room := { frames := 3, cells := 0, slots := 0, locals := 66 }
set_option maxRecDepth 100000 in
set_option maxHeartbeats 4000000 in
theorem c_approve {l : Launch} {k : KC} {mo : Nat} {ad : Nat → Nat} (hl : l.stackTraces = false) (hM : HM mo ad) {M : MS} {p1 : Int32} {p2 : Int32} (hr : ∀ r, P_isRequest r M → RqOK M r) : CM l k mo ad yX11_approve (.code yX11_approve cX11_approve 4 (some .int)) rm_X11_approve [.int p1, .int p2] M (some (.int (f_approve p1 p2 M).1)) (f_approve p1 p2 M).2 := by
  refine MC.of 1 hl (by decide) (Nat.le_of_ble_eq_true rfl) ?_
  intro p e s m args below meth c A Q G B _ _
  show Wx p l e rm_X11_approve s m args below meth c k A 4 Q 0 0 0 [some (.ref mo), some (.int p1), some (.int p2), none] [] (mW k mo ad M)
  refine x_aload0 (pc := 0) G dX11_approve_0 ?_
  refine x_iload1 (pc := 1) G dX11_approve_1 ?_
  refine y_cb1 (pc := 2) G (b_isRequest hl hM ) q_ml_X11_188 h_X11_isRequest rfl ⟨Nat.le_of_ble_eq_true rfl, Nat.le_of_ble_eq_true rfl⟩ (Nat.le_of_ble_eq_true rfl) (Nat.le_refl _) (Nat.le_refl _) dX11_approve_2 (fun c1 => ?_) (fun c1 => ?_)
  · refine x_if_eq (pc := 5) (y := 0) (tgt := 20) G dX11_approve_5 rfl (fun q => absurd q (by decide)) (fun _ => ?_)
    refine x_aload0 (pc := 8) G dX11_approve_8 ?_
    refine x_iload2 (pc := 9) G dX11_approve_9 ?_
    refine y_cb1 (pc := 10) G (b_isPerson hl hM ) q_ml_X11_206 h_X11_isPerson rfl ⟨Nat.le_of_ble_eq_true rfl, Nat.le_of_ble_eq_true rfl⟩ (Nat.le_of_ble_eq_true rfl) (Nat.le_refl _) (Nat.le_refl _) dX11_approve_10 (fun c2 => ?_) (fun c2 => ?_)
    · refine x_if_eq (pc := 13) (y := 0) (tgt := 20) G dX11_approve_13 rfl (fun q => absurd q (by decide)) (fun _ => ?_)
      refine x_iconst (pc := 16) (v := 1) G dX11_approve_16 ic_1 ?_
      refine x_goto (pc := 17) (tgt := 21) G dX11_approve_17 rfl ?_
      refine x_istore3 (pc := 21) G dX11_approve_21 (Nat.le_of_ble_eq_true rfl) rfl ?_
      refine x_aload0 (pc := 22) G dX11_approve_22 ?_
      refine x_iload3 (pc := 23) G dX11_approve_23 ?_
      refine x_if_ne (pc := 24) (y := 0) (tgt := 31) G dX11_approve_24 rfl (fun _ => ?_) (fun q => absurd q (by decide))
      refine x_aload0 (pc := 31) G dX11_approve_31 ?_
      refine x_iload1 (pc := 32) G dX11_approve_32 ?_
      refine x_iload2 (pc := 33) G dX11_approve_33 ?_
      refine y_cb2 (pc := 34) G (b_can hl hM (hr _ (by assumption))) q_ml_X11_270 h_X11_can rfl ⟨Nat.le_of_ble_eq_true rfl, Nat.le_of_ble_eq_true rfl⟩ (Nat.le_of_ble_eq_true rfl) (Nat.le_refl _) (Nat.le_refl _) dX11_approve_34 (fun c3 => ?_) (fun c3 => ?_)
      · refine x_if_eq (pc := 37) (y := 0) (tgt := 44) G dX11_approve_37 rfl (fun q => absurd q (by decide)) (fun _ => ?_)
        refine x_iconst (pc := 40) (v := 0) G dX11_approve_40 ic_0 ?_
        refine x_goto (pc := 41) (tgt := 45) G dX11_approve_41 rfl ?_
        refine y_c1 (pc := 45) G (c_holds0 hl hM) q_ml_X11_210 h_X11_holds rfl ⟨Nat.le_of_ble_eq_true rfl, Nat.le_of_ble_eq_true rfl⟩ (Nat.le_of_ble_eq_true rfl) (Nat.le_refl _) (Nat.le_refl _) dX11_approve_45 ?_
        refine x_if_ne (pc := 48) (y := 0) (tgt := 53) G dX11_approve_48 rfl (fun _ => ?_) (fun q => absurd q (by decide))
        refine x_aload0 (pc := 53) G dX11_approve_53 ?_
        refine x_iload1 (pc := 54) G dX11_approve_54 ?_
        refine y_c1 (pc := 55) G (c_byTurn hl hM (hr _ (by assumption))) q_ml_X11_264 h_X11_byTurn rfl ⟨Nat.le_of_ble_eq_true rfl, Nat.le_of_ble_eq_true rfl⟩ (Nat.le_of_ble_eq_true rfl) (Nat.le_refl _) (Nat.le_refl _) dX11_approve_55 ?_
        refine x_iload2 (pc := 58) G dX11_approve_58 ?_
        refine x_icmp_ne (pc := 59) (tgt := 75) G dX11_approve_59 rfl (fun c4 => ?_) (fun c4 => ?_)
        · refine x_aload0 (pc := 75) G dX11_approve_75 ?_
          refine y_gA (pc := 76) G g_72 mG_26 dX11_approve_76 ?_
          refine x_iload1 (pc := 79) G dX11_approve_79 ?_
          refine x_iconst (pc := 80) (v := (-1)) G dX11_approve_80 ic_m1 ?_
          refine y_iast (pc := 81) G hM a_26 (by exact (hr _ (by assumption)).1) dX11_approve_81 ?_
          refine x_aload0 (pc := 82) G dX11_approve_82 ?_
          refine y_gA (pc := 83) G g_45 mG_17 dX11_approve_83 ?_
          refine x_iload1 (pc := 86) G dX11_approve_86 ?_
          refine x_aload0 (pc := 87) G dX11_approve_87 ?_
          refine x_iload1 (pc := 88) G dX11_approve_88 ?_
          refine y_c1 (pc := 89) G (c_left hl hM (hr _ (by assumption)).1) q_ml_X11_257 h_X11_left rfl ⟨Nat.le_of_ble_eq_true rfl, Nat.le_of_ble_eq_true rfl⟩ (Nat.le_of_ble_eq_true rfl) (Nat.le_refl _) (Nat.le_refl _) dX11_approve_89 ?_
          refine x_if_ne (pc := 92) (y := 0) (tgt := 99) G dX11_approve_92 rfl (fun c5 => ?_) (fun c5 => ?_)
          · refine x_iconst (pc := 99) (v := 1) G dX11_approve_99 ic_1 ?_
            refine y_iast (pc := 100) G hM a_17 (by exact (hr _ (by assumption)).1) dX11_approve_100 ?_
            refine x_aload0 (pc := 101) G dX11_approve_101 ?_
            refine x_iload1 (pc := 102) G dX11_approve_102 ?_
            refine y_c1 (pc := 103) G (c_left hl hM (hr _ (by assumption)).1) q_ml_X11_257 h_X11_left rfl ⟨Nat.le_of_ble_eq_true rfl, Nat.le_of_ble_eq_true rfl⟩ (Nat.le_of_ble_eq_true rfl) (Nat.le_refl _) (Nat.le_refl _) dX11_approve_103 ?_
            exact x_iret (pc := 106) G B rfl dX11_approve_106 ⟨by rw [f_approve, if_pos c1, if_pos c2, if_pos c3, if_neg c4, if_neg c5], by rw [f_approve, if_pos c1, if_pos c2, if_pos c3, if_neg c4, if_neg c5]⟩
          refine x_iconst (pc := 95) (v := 2) G dX11_approve_95 ic_2 ?_
          refine x_goto (pc := 96) (tgt := 100) G dX11_approve_96 rfl ?_
          refine y_iast (pc := 100) G hM a_17 (by exact (hr _ (by assumption)).1) dX11_approve_100 ?_
          refine x_aload0 (pc := 101) G dX11_approve_101 ?_
          refine x_iload1 (pc := 102) G dX11_approve_102 ?_
          refine y_c1 (pc := 103) G (c_left hl hM (hr _ (by assumption)).1) q_ml_X11_257 h_X11_left rfl ⟨Nat.le_of_ble_eq_true rfl, Nat.le_of_ble_eq_true rfl⟩ (Nat.le_of_ble_eq_true rfl) (Nat.le_refl _) (Nat.le_refl _) dX11_approve_103 ?_
          exact x_iret (pc := 106) G B rfl dX11_approve_106 ⟨by rw [f_approve, if_pos c1, if_pos c2, if_pos c3, if_neg c4, if_pos c5], by rw [f_approve, if_pos c1, if_pos c2, if_pos c3, if_neg c4, if_pos c5]⟩
        refine x_aload0 (pc := 62) G dX11_approve_62 ?_
        refine y_gA (pc := 63) G g_69 mG_25 dX11_approve_63 ?_
        refine x_iload1 (pc := 66) G dX11_approve_66 ?_
        refine x_dup2 (pc := 67) G dX11_approve_67 rfl rfl ?_
        refine y_iald (pc := 68) (v := (gI M 25 p1)) G hM a_25 (by exact (hr _ (by assumption)).1) gI_sI dX11_approve_68 ?_
        refine x_iconst (pc := 69) (v := 1) G dX11_approve_69 ic_1 ?_
        refine x_iadd (pc := 70) G dX11_approve_70 ?_
        refine y_iast (pc := 71) G hM a_25 (by exact (hr _ (by assumption)).1) dX11_approve_71 ?_
        refine x_goto (pc := 72) (tgt := 82) G dX11_approve_72 rfl ?_
        refine x_aload0 (pc := 82) G dX11_approve_82 ?_
        refine y_gA (pc := 83) G g_45 mG_17 dX11_approve_83 ?_
        refine x_iload1 (pc := 86) G dX11_approve_86 ?_
        refine x_aload0 (pc := 87) G dX11_approve_87 ?_
        refine x_iload1 (pc := 88) G dX11_approve_88 ?_
        refine y_c1 (pc := 89) G (c_left hl hM (hr _ (by assumption)).1) q_ml_X11_257 h_X11_left rfl ⟨Nat.le_of_ble_eq_true rfl, Nat.le_of_ble_eq_true rfl⟩ (Nat.le_of_ble_eq_true rfl) (Nat.le_refl _) (Nat.le_refl _) dX11_approve_89 ?_
        refine x_if_ne (pc := 92) (y := 0) (tgt := 99) G dX11_approve_92 rfl (fun c6 => ?_) (fun c6 => ?_)
        · refine x_iconst (pc := 99) (v := 1) G dX11_approve_99 ic_1 ?_
          refine y_iast (pc := 100) G hM a_17 (by exact (hr _ (by assumption)).1) dX11_approve_100 ?_
          refine x_aload0 (pc := 101) G dX11_approve_101 ?_
          refine x_iload1 (pc := 102) G dX11_approve_102 ?_
          refine y_c1 (pc := 103) G (c_left hl hM (hr _ (by assumption)).1) q_ml_X11_257 h_X11_left rfl ⟨Nat.le_of_ble_eq_true rfl, Nat.le_of_ble_eq_true rfl⟩ (Nat.le_of_ble_eq_true rfl) (Nat.le_refl _) (Nat.le_refl _) dX11_approve_103 ?_
          exact x_iret (pc := 106) G B rfl dX11_approve_106 ⟨by rw [f_approve, if_pos c1, if_pos c2, if_pos c3, if_pos c4, if_neg c6], by rw [f_approve, if_pos c1, if_pos c2, if_pos c3, if_pos c4, if_neg c6]⟩
        refine x_iconst (pc := 95) (v := 2) G dX11_approve_95 ic_2 ?_
        refine x_goto (pc := 96) (tgt := 100) G dX11_approve_96 rfl ?_
        refine y_iast (pc := 100) G hM a_17 (by exact (hr _ (by assumption)).1) dX11_approve_100 ?_
        refine x_aload0 (pc := 101) G dX11_approve_101 ?_
        refine x_iload1 (pc := 102) G dX11_approve_102 ?_
        refine y_c1 (pc := 103) G (c_left hl hM (hr _ (by assumption)).1) q_ml_X11_257 h_X11_left rfl ⟨Nat.le_of_ble_eq_true rfl, Nat.le_of_ble_eq_true rfl⟩ (Nat.le_of_ble_eq_true rfl) (Nat.le_refl _) (Nat.le_refl _) dX11_approve_103 ?_
        exact x_iret (pc := 106) G B rfl dX11_approve_106 ⟨by rw [f_approve, if_pos c1, if_pos c2, if_pos c3, if_pos c4, if_pos c6], by rw [f_approve, if_pos c1, if_pos c2, if_pos c3, if_pos c4, if_pos c6]⟩
      refine x_if_eq (pc := 37) (y := 0) (tgt := 44) G dX11_approve_37 rfl (fun _ => ?_) (fun q => absurd q (by decide))
      refine x_iconst (pc := 44) (v := 2) G dX11_approve_44 ic_2 ?_
      refine y_c1 (pc := 45) G (c_holdsN hl hM (by decide)) q_ml_X11_210 h_X11_holds rfl ⟨Nat.le_of_ble_eq_true rfl, Nat.le_of_ble_eq_true rfl⟩ (Nat.le_of_ble_eq_true rfl) (Nat.le_refl _) (Nat.le_refl _) dX11_approve_45 ?_
      refine x_if_ne (pc := 48) (y := 0) (tgt := 53) G dX11_approve_48 rfl (fun q => absurd q (by decide)) (fun _ => ?_)
      refine x_iconst (pc := 51) (v := 0) G dX11_approve_51 ic_0 ?_
      exact x_iret (pc := 52) G B rfl dX11_approve_52 ⟨by rw [f_approve, if_pos c1, if_pos c2, if_neg c3], by rw [f_approve, if_pos c1, if_pos c2, if_neg c3]⟩
    refine x_if_eq (pc := 13) (y := 0) (tgt := 20) G dX11_approve_13 rfl (fun _ => ?_) (fun q => absurd q (by decide))
    refine x_iconst (pc := 20) (v := 0) G dX11_approve_20 ic_0 ?_
    refine x_istore3 (pc := 21) G dX11_approve_21 (Nat.le_of_ble_eq_true rfl) rfl ?_
    refine x_aload0 (pc := 22) G dX11_approve_22 ?_
    refine x_iload3 (pc := 23) G dX11_approve_23 ?_
    refine x_if_ne (pc := 24) (y := 0) (tgt := 31) G dX11_approve_24 rfl (fun q => absurd q (by decide)) (fun _ => ?_)
    refine x_iconst (pc := 27) (v := 1) G dX11_approve_27 ic_1 ?_
    refine x_goto (pc := 28) (tgt := 45) G dX11_approve_28 rfl ?_
    refine y_c1 (pc := 45) G (c_holdsN hl hM (by decide)) q_ml_X11_210 h_X11_holds rfl ⟨Nat.le_of_ble_eq_true rfl, Nat.le_of_ble_eq_true rfl⟩ (Nat.le_of_ble_eq_true rfl) (Nat.le_refl _) (Nat.le_refl _) dX11_approve_45 ?_
    refine x_if_ne (pc := 48) (y := 0) (tgt := 53) G dX11_approve_48 rfl (fun q => absurd q (by decide)) (fun _ => ?_)
    refine x_iconst (pc := 51) (v := 0) G dX11_approve_51 ic_0 ?_
    exact x_iret (pc := 52) G B rfl dX11_approve_52 ⟨by rw [f_approve, if_pos c1, if_neg c2], by rw [f_approve, if_pos c1, if_neg c2]⟩
  refine x_if_eq (pc := 5) (y := 0) (tgt := 20) G dX11_approve_5 rfl (fun _ => ?_) (fun q => absurd q (by decide))
  refine x_iconst (pc := 20) (v := 0) G dX11_approve_20 ic_0 ?_
  refine x_istore3 (pc := 21) G dX11_approve_21 (Nat.le_of_ble_eq_true rfl) rfl ?_
  refine x_aload0 (pc := 22) G dX11_approve_22 ?_
  refine x_iload3 (pc := 23) G dX11_approve_23 ?_
  refine x_if_ne (pc := 24) (y := 0) (tgt := 31) G dX11_approve_24 rfl (fun q => absurd q (by decide)) (fun _ => ?_)
  refine x_iconst (pc := 27) (v := 1) G dX11_approve_27 ic_1 ?_
  refine x_goto (pc := 28) (tgt := 45) G dX11_approve_28 rfl ?_
  refine y_c1 (pc := 45) G (c_holdsN hl hM (by decide)) q_ml_X11_210 h_X11_holds rfl ⟨Nat.le_of_ble_eq_true rfl, Nat.le_of_ble_eq_true rfl⟩ (Nat.le_of_ble_eq_true rfl) (Nat.le_refl _) (Nat.le_refl _) dX11_approve_45 ?_
  refine x_if_ne (pc := 48) (y := 0) (tgt := 53) G dX11_approve_48 rfl (fun q => absurd q (by decide)) (fun _ => ?_)
  refine x_iconst (pc := 51) (v := 0) G dX11_approve_51 ic_0 ?_
  exact x_iret (pc := 52) G B rfl dX11_approve_52 ⟨by rw [f_approve, if_neg c1], by rw [f_approve, if_neg c1]⟩
theorem dX11_isEarly_0 : decode cX11_isEarly 0 = .ok (.aload_n 0, 1) := by decide +kernel
theorem dX11_isEarly_1 : decode cX11_isEarly 1 = .ok (.getfield 195, 3) := by decide +kernel
theorem dX11_isEarly_4 : decode cX11_isEarly 4 = .ok (.aload_n 0, 1) := by decide +kernel
theorem dX11_isEarly_5 : decode cX11_isEarly 5 = .ok (.getfield 139, 3) := by decide +kernel
theorem dX11_isEarly_8 : decode cX11_isEarly 8 = .ok (.iload_n 1, 1) := by decide +kernel
theorem dX11_isEarly_9 : decode cX11_isEarly 9 = .ok (.iaload, 1) := by decide +kernel
theorem dX11_isEarly_10 : decode cX11_isEarly 10 = .ok (.isub, 1) := by decide +kernel
theorem dX11_isEarly_11 : decode cX11_isEarly 11 = .ok (.aload_n 0, 1) := by decide +kernel
theorem dX11_isEarly_12 : decode cX11_isEarly 12 = .ok (.getfield 99, 3) := by decide +kernel
theorem dX11_isEarly_15 : decode cX11_isEarly 15 = .ok (.aload_n 0, 1) := by decide +kernel
theorem dX11_isEarly_16 : decode cX11_isEarly 16 = .ok (.getfield 57, 3) := by decide +kernel
theorem dX11_isEarly_19 : decode cX11_isEarly 19 = .ok (.aload_n 0, 1) := by decide +kernel
theorem dX11_isEarly_20 : decode cX11_isEarly 20 = .ok (.getfield 112, 3) := by decide +kernel
theorem dX11_isEarly_23 : decode cX11_isEarly 23 = .ok (.iload_n 1, 1) := by decide +kernel
theorem dX11_isEarly_24 : decode cX11_isEarly 24 = .ok (.iaload, 1) := by decide +kernel
theorem dX11_isEarly_25 : decode cX11_isEarly 25 = .ok (.iconst 4, 1) := by decide +kernel
theorem dX11_isEarly_26 : decode cX11_isEarly 26 = .ok (.idiv, 1) := by decide +kernel
theorem dX11_isEarly_27 : decode cX11_isEarly 27 = .ok (.iaload, 1) := by decide +kernel
theorem dX11_isEarly_28 : decode cX11_isEarly 28 = .ok (.iaload, 1) := by decide +kernel
theorem dX11_isEarly_29 : decode cX11_isEarly 29 = .ok (.if_icmp .gt 7, 3) := by decide +kernel
theorem dX11_isEarly_32 : decode cX11_isEarly 32 = .ok (.iconst 1, 1) := by decide +kernel
theorem dX11_isEarly_33 : decode cX11_isEarly 33 = .ok (.goto 4, 3) := by decide +kernel
theorem dX11_isEarly_36 : decode cX11_isEarly 36 = .ok (.iconst 0, 1) := by decide +kernel
theorem dX11_isEarly_37 : decode cX11_isEarly 37 = .ok (.ireturn, 1) := by decide +kernel
def f_isEarly (p1 : Int32) (M : MS) : Int32 :=
    if (gI M 35 (gI M 21 ((gI M 40 p1) / 4))) < ((mI M 1) - (gI M 49 p1)) then
      0
    else
    1
abbrev rm_X11_isEarly : Room := { frames := 0, cells := 0, slots := 0, locals := 0 }
set_option maxRecDepth 100000 in
set_option maxHeartbeats 4000000 in
theorem c_isEarly {l : Launch} {k : KC} {mo : Nat} {ad : Nat → Nat} (hl : l.stackTraces = false) (hM : HM mo ad) {M : MS} {p1 : Int32} (hi : IvOK M p1) : CM l k mo ad yX11_isEarly (.code yX11_isEarly cX11_isEarly 2 (some .boolean)) rm_X11_isEarly [.int p1] M (some (.int (f_isEarly p1 M))) M := by
  refine MC.of 0 hl (by decide) (Nat.le_of_ble_eq_true rfl) ?_
  intro p e s m args below meth c A Q G B _ _
  show Wx p l e rm_X11_isEarly s m args below meth c k A 2 Q 0 0 0 [some (.ref mo), some (.int p1)] [] (mW k mo ad M)
  refine x_aload0 (pc := 0) G dX11_isEarly_0 ?_
  refine y_gI (pc := 1) (v := (mI M 1)) G g_195 mG_1 rfl dX11_isEarly_1 ?_
  refine x_aload0 (pc := 4) G dX11_isEarly_4 ?_
  refine y_gA (pc := 5) G g_139 mG_49 dX11_isEarly_5 ?_
  refine x_iload1 (pc := 8) G dX11_isEarly_8 ?_
  refine y_iald (pc := 9) (v := (gI M 49 p1)) G hM a_49 (by first | exact hi.1 | exact hi.2.2.1 | exact hi.2.2.2.2.1 | exact hi.2.2.2.2.2 | exact hi.2.1 | exact vin_lit (by decide)) rfl dX11_isEarly_9 ?_
  refine x_isub (pc := 10) G dX11_isEarly_10 ?_
  refine x_aload0 (pc := 11) G dX11_isEarly_11 ?_
  refine y_gA (pc := 12) G g_99 mG_35 dX11_isEarly_12 ?_
  refine x_aload0 (pc := 15) G dX11_isEarly_15 ?_
  refine y_gA (pc := 16) G g_57 mG_21 dX11_isEarly_16 ?_
  refine x_aload0 (pc := 19) G dX11_isEarly_19 ?_
  refine y_gA (pc := 20) G g_112 mG_40 dX11_isEarly_20 ?_
  refine x_iload1 (pc := 23) G dX11_isEarly_23 ?_
  refine y_iald (pc := 24) (v := (gI M 40 p1)) G hM a_40 (by first | exact hi.1 | exact hi.2.2.1 | exact hi.2.2.2.2.1 | exact hi.2.2.2.2.2 | exact hi.2.1 | exact vin_lit (by decide)) rfl dX11_isEarly_24 ?_
  refine x_iconst (pc := 25) (v := 4) G dX11_isEarly_25 ic_4 ?_
  refine x_idiv (pc := 26) G dX11_isEarly_26 (by decide) ?_
  refine y_iald (pc := 27) (v := (gI M 21 ((gI M 40 p1) / 4))) G hM a_21 (by first | exact hi.1 | exact hi.2.2.1 | exact hi.2.2.2.2.1 | exact hi.2.2.2.2.2 | exact hi.2.1 | exact vin_lit (by decide)) rfl dX11_isEarly_27 ?_
  refine y_iald (pc := 28) (v := (gI M 35 (gI M 21 ((gI M 40 p1) / 4)))) G hM a_35 (by first | exact hi.1 | exact hi.2.2.1 | exact hi.2.2.2.2.1 | exact hi.2.2.2.2.2 | exact hi.2.1 | exact vin_lit (by decide)) rfl dX11_isEarly_28 ?_
  refine x_icmp_gt (pc := 29) (tgt := 36) G dX11_isEarly_29 rfl (fun c1 => ?_) (fun c1 => ?_)
  · refine x_iconst (pc := 36) (v := 0) G dX11_isEarly_36 ic_0 ?_
    exact x_zret (pc := 37) G B rfl (by decide) dX11_isEarly_37 ⟨by rw [f_isEarly, if_pos c1], rfl⟩
  refine x_iconst (pc := 32) (v := 1) G dX11_isEarly_32 ic_1 ?_
  refine x_goto (pc := 33) (tgt := 37) G dX11_isEarly_33 rfl ?_
  exact x_zret (pc := 37) G B rfl (by decide) dX11_isEarly_37 ⟨by rw [f_isEarly, if_neg c1], rfl⟩
abbrev P_isEarly (p1 : Int32) (M : MS) : Prop := mI M 1 - gI M 49 p1 ≤ gI M 35 (gI M 21 (gI M 40 p1 / 4))
theorem v_isEarly {p1 : Int32} {M : MS} : f_isEarly p1 M = if P_isEarly p1 M then 1 else 0 := by 
  unfold f_isEarly P_isEarly
  by_cases h1 : gI M 35 (gI M 21 (gI M 40 p1 / 4)) < mI M 1 - gI M 49 p1
  · rw [if_pos h1, if_neg (Int32.not_le.mpr h1)]
  · rw [if_neg h1, if_pos (Int32.not_lt.mp h1)]
theorem b_isEarly {l : Launch} {k : KC} {mo : Nat} {ad : Nat → Nat} (hl : l.stackTraces = false) (hM : HM mo ad) {M : MS} {p1 : Int32} (hi : IvOK M p1) : (P_isEarly p1 M → CM l k mo ad yX11_isEarly (.code yX11_isEarly cX11_isEarly 2 (some .boolean)) rm_X11_isEarly [.int p1] M (some (.int 1)) M) ∧ (¬ P_isEarly p1 M → CM l k mo ad yX11_isEarly (.code yX11_isEarly cX11_isEarly 2 (some .boolean)) rm_X11_isEarly [.int p1] M (some (.int 0)) M) := MC.bool (by rw [← v_isEarly]; exact c_isEarly hl hM hi)
theorem dX11_pays_0 : decode cX11_pays 0 = .ok (.aload_n 0, 1) := by decide +kernel
theorem dX11_pays_1 : decode cX11_pays 1 = .ok (.getfield 57, 3) := by decide +kernel
theorem dX11_pays_4 : decode cX11_pays 4 = .ok (.aload_n 0, 1) := by decide +kernel
theorem dX11_pays_5 : decode cX11_pays 5 = .ok (.getfield 112, 3) := by decide +kernel
theorem dX11_pays_8 : decode cX11_pays 8 = .ok (.iload_n 1, 1) := by decide +kernel
theorem dX11_pays_9 : decode cX11_pays 9 = .ok (.iaload, 1) := by decide +kernel
theorem dX11_pays_10 : decode cX11_pays 10 = .ok (.iconst 4, 1) := by decide +kernel
theorem dX11_pays_11 : decode cX11_pays 11 = .ok (.idiv, 1) := by decide +kernel
theorem dX11_pays_12 : decode cX11_pays 12 = .ok (.iaload, 1) := by decide +kernel
theorem dX11_pays_13 : decode cX11_pays 13 = .ok (.istore_n 2, 1) := by decide +kernel
theorem dX11_pays_14 : decode cX11_pays 14 = .ok (.aload_n 0, 1) := by decide +kernel
theorem dX11_pays_15 : decode cX11_pays 15 = .ok (.getfield 115, 3) := by decide +kernel
theorem dX11_pays_18 : decode cX11_pays 18 = .ok (.iload_n 1, 1) := by decide +kernel
theorem dX11_pays_19 : decode cX11_pays 19 = .ok (.iaload, 1) := by decide +kernel
theorem dX11_pays_20 : decode cX11_pays 20 = .ok (.i2l, 1) := by decide +kernel
theorem dX11_pays_21 : decode cX11_pays 21 = .ok (.aload_n 0, 1) := by decide +kernel
theorem dX11_pays_22 : decode cX11_pays 22 = .ok (.getfield 118, 3) := by decide +kernel
theorem dX11_pays_25 : decode cX11_pays 25 = .ok (.iload_n 1, 1) := by decide +kernel
theorem dX11_pays_26 : decode cX11_pays 26 = .ok (.iaload, 1) := by decide +kernel
theorem dX11_pays_27 : decode cX11_pays 27 = .ok (.i2l, 1) := by decide +kernel
theorem dX11_pays_28 : decode cX11_pays 28 = .ok (.lmul, 1) := by decide +kernel
theorem dX11_pays_29 : decode cX11_pays 29 = .ok (.lstore_n 3, 1) := by decide +kernel
theorem dX11_pays_30 : decode cX11_pays 30 = .ok (.lload_n 3, 1) := by decide +kernel
theorem dX11_pays_31 : decode cX11_pays 31 = .ok (.aload_n 0, 1) := by decide +kernel
theorem dX11_pays_32 : decode cX11_pays 32 = .ok (.getfield 148, 3) := by decide +kernel
theorem dX11_pays_35 : decode cX11_pays 35 = .ok (.iload_n 1, 1) := by decide +kernel
theorem dX11_pays_36 : decode cX11_pays 36 = .ok (.baload, 1) := by decide +kernel
theorem dX11_pays_37 : decode cX11_pays 37 = .ok (.ifCond .eq 19, 3) := by decide +kernel
theorem dX11_pays_40 : decode cX11_pays 40 = .ok (.lload_n 3, 1) := by decide +kernel
theorem dX11_pays_41 : decode cX11_pays 41 = .ok (.aload_n 0, 1) := by decide +kernel
theorem dX11_pays_42 : decode cX11_pays 42 = .ok (.getfield 145, 3) := by decide +kernel
theorem dX11_pays_45 : decode cX11_pays 45 = .ok (.iload_n 1, 1) := by decide +kernel
theorem dX11_pays_46 : decode cX11_pays 46 = .ok (.iaload, 1) := by decide +kernel
theorem dX11_pays_47 : decode cX11_pays 47 = .ok (.i2l, 1) := by decide +kernel
theorem dX11_pays_48 : decode cX11_pays 48 = .ok (.lmul, 1) := by decide +kernel
theorem dX11_pays_49 : decode cX11_pays 49 = .ok (.ldc2_w 234, 3) := by decide +kernel
theorem dX11_pays_52 : decode cX11_pays 52 = .ok (.ldiv, 1) := by decide +kernel
theorem dX11_pays_53 : decode cX11_pays 53 = .ok (.goto 4, 3) := by decide +kernel
theorem dX11_pays_56 : decode cX11_pays 56 = .ok (.lconst 0, 1) := by decide +kernel
theorem dX11_pays_57 : decode cX11_pays 57 = .ok (.ladd, 1) := by decide +kernel
theorem dX11_pays_58 : decode cX11_pays 58 = .ok (.lstore_n 3, 1) := by decide +kernel
theorem dX11_pays_59 : decode cX11_pays 59 = .ok (.lload_n 3, 1) := by decide +kernel
theorem dX11_pays_60 : decode cX11_pays 60 = .ok (.aload_n 0, 1) := by decide +kernel
theorem dX11_pays_61 : decode cX11_pays 61 = .ok (.getfield 102, 3) := by decide +kernel
theorem dX11_pays_64 : decode cX11_pays 64 = .ok (.aload_n 0, 1) := by decide +kernel
theorem dX11_pays_65 : decode cX11_pays 65 = .ok (.getfield 90, 3) := by decide +kernel
theorem dX11_pays_68 : decode cX11_pays 68 = .ok (.iload_n 2, 1) := by decide +kernel
theorem dX11_pays_69 : decode cX11_pays 69 = .ok (.iaload, 1) := by decide +kernel
theorem dX11_pays_70 : decode cX11_pays 70 = .ok (.iaload, 1) := by decide +kernel
theorem dX11_pays_71 : decode cX11_pays 71 = .ok (.i2l, 1) := by decide +kernel
theorem dX11_pays_72 : decode cX11_pays 72 = .ok (.lmul, 1) := by decide +kernel
theorem dX11_pays_73 : decode cX11_pays 73 = .ok (.ldc2_w 301, 3) := by decide +kernel
theorem dX11_pays_76 : decode cX11_pays 76 = .ok (.ldiv, 1) := by decide +kernel
theorem dX11_pays_77 : decode cX11_pays 77 = .ok (.lstore 5, 2) := by decide +kernel
theorem dX11_pays_79 : decode cX11_pays 79 = .ok (.aload_n 0, 1) := by decide +kernel
theorem dX11_pays_80 : decode cX11_pays 80 = .ok (.getfield 157, 3) := by decide +kernel
theorem dX11_pays_83 : decode cX11_pays 83 = .ok (.iload_n 1, 1) := by decide +kernel
theorem dX11_pays_84 : decode cX11_pays 84 = .ok (.aload_n 0, 1) := by decide +kernel
theorem dX11_pays_85 : decode cX11_pays 85 = .ok (.iload_n 1, 1) := by decide +kernel
theorem dX11_pays_86 : decode cX11_pays 86 = .ok (.invokevirtual 306, 3) := by decide +kernel
theorem dX11_pays_89 : decode cX11_pays 89 = .ok (.ifCond .eq 20, 3) := by decide +kernel
theorem dX11_pays_92 : decode cX11_pays 92 = .ok (.lload 5, 2) := by decide +kernel
theorem dX11_pays_94 : decode cX11_pays 94 = .ok (.aload_n 0, 1) := by decide +kernel
theorem dX11_pays_95 : decode cX11_pays 95 = .ok (.getfield 96, 3) := by decide +kernel
theorem dX11_pays_98 : decode cX11_pays 98 = .ok (.iload_n 2, 1) := by decide +kernel
theorem dX11_pays_99 : decode cX11_pays 99 = .ok (.iaload, 1) := by decide +kernel
theorem dX11_pays_100 : decode cX11_pays 100 = .ok (.i2l, 1) := by decide +kernel
theorem dX11_pays_101 : decode cX11_pays 101 = .ok (.lmul, 1) := by decide +kernel
theorem dX11_pays_102 : decode cX11_pays 102 = .ok (.ldc2_w 234, 3) := by decide +kernel
theorem dX11_pays_105 : decode cX11_pays 105 = .ok (.ldiv, 1) := by decide +kernel
theorem dX11_pays_106 : decode cX11_pays 106 = .ok (.goto 4, 3) := by decide +kernel
theorem dX11_pays_109 : decode cX11_pays 109 = .ok (.lconst 0, 1) := by decide +kernel
theorem dX11_pays_110 : decode cX11_pays 110 = .ok (.lastore, 1) := by decide +kernel
theorem dX11_pays_111 : decode cX11_pays 111 = .ok (.aload_n 0, 1) := by decide +kernel
theorem dX11_pays_112 : decode cX11_pays 112 = .ok (.getfield 154, 3) := by decide +kernel
theorem dX11_pays_115 : decode cX11_pays 115 = .ok (.iload_n 1, 1) := by decide +kernel
theorem dX11_pays_116 : decode cX11_pays 116 = .ok (.lload 5, 2) := by decide +kernel
theorem dX11_pays_118 : decode cX11_pays 118 = .ok (.aload_n 0, 1) := by decide +kernel
theorem dX11_pays_119 : decode cX11_pays 119 = .ok (.getfield 157, 3) := by decide +kernel
theorem dX11_pays_122 : decode cX11_pays 122 = .ok (.iload_n 1, 1) := by decide +kernel
theorem dX11_pays_123 : decode cX11_pays 123 = .ok (.laload, 1) := by decide +kernel
theorem dX11_pays_124 : decode cX11_pays 124 = .ok (.lsub, 1) := by decide +kernel
theorem dX11_pays_125 : decode cX11_pays 125 = .ok (.lastore, 1) := by decide +kernel
theorem dX11_pays_126 : decode cX11_pays 126 = .ok (.aload_n 0, 1) := by decide +kernel
theorem dX11_pays_127 : decode cX11_pays 127 = .ok (.getfield 7, 3) := by decide +kernel
theorem dX11_pays_130 : decode cX11_pays 130 = .ok (.iconst 1, 1) := by decide +kernel
theorem dX11_pays_131 : decode cX11_pays 131 = .ok (.dup2, 1) := by decide +kernel
theorem dX11_pays_132 : decode cX11_pays 132 = .ok (.laload, 1) := by decide +kernel
theorem dX11_pays_133 : decode cX11_pays 133 = .ok (.aload_n 0, 1) := by decide +kernel
theorem dX11_pays_134 : decode cX11_pays 134 = .ok (.getfield 136, 3) := by decide +kernel
theorem dX11_pays_137 : decode cX11_pays 137 = .ok (.iload_n 1, 1) := by decide +kernel
theorem dX11_pays_138 : decode cX11_pays 138 = .ok (.laload, 1) := by decide +kernel
theorem dX11_pays_139 : decode cX11_pays 139 = .ok (.ladd, 1) := by decide +kernel
theorem dX11_pays_140 : decode cX11_pays 140 = .ok (.lastore, 1) := by decide +kernel
theorem dX11_pays_141 : decode cX11_pays 141 = .ok (.aload_n 0, 1) := by decide +kernel
theorem dX11_pays_142 : decode cX11_pays 142 = .ok (.getfield 7, 3) := by decide +kernel
theorem dX11_pays_145 : decode cX11_pays 145 = .ok (.iconst 2, 1) := by decide +kernel
theorem dX11_pays_146 : decode cX11_pays 146 = .ok (.dup2, 1) := by decide +kernel
theorem dX11_pays_147 : decode cX11_pays 147 = .ok (.laload, 1) := by decide +kernel
theorem dX11_pays_148 : decode cX11_pays 148 = .ok (.aload_n 0, 1) := by decide +kernel
theorem dX11_pays_149 : decode cX11_pays 149 = .ok (.getfield 154, 3) := by decide +kernel
theorem dX11_pays_152 : decode cX11_pays 152 = .ok (.iload_n 1, 1) := by decide +kernel
theorem dX11_pays_153 : decode cX11_pays 153 = .ok (.laload, 1) := by decide +kernel
theorem dX11_pays_154 : decode cX11_pays 154 = .ok (.lsub, 1) := by decide +kernel
theorem dX11_pays_155 : decode cX11_pays 155 = .ok (.lastore, 1) := by decide +kernel
theorem dX11_pays_156 : decode cX11_pays 156 = .ok (.aload_n 0, 1) := by decide +kernel
theorem dX11_pays_157 : decode cX11_pays 157 = .ok (.getfield 7, 3) := by decide +kernel
theorem dX11_pays_160 : decode cX11_pays 160 = .ok (.iconst 5, 1) := by decide +kernel
theorem dX11_pays_161 : decode cX11_pays 161 = .ok (.dup2, 1) := by decide +kernel
theorem dX11_pays_162 : decode cX11_pays 162 = .ok (.laload, 1) := by decide +kernel
theorem dX11_pays_163 : decode cX11_pays 163 = .ok (.aload_n 0, 1) := by decide +kernel
theorem dX11_pays_164 : decode cX11_pays 164 = .ok (.getfield 157, 3) := by decide +kernel
theorem dX11_pays_167 : decode cX11_pays 167 = .ok (.iload_n 1, 1) := by decide +kernel
theorem dX11_pays_168 : decode cX11_pays 168 = .ok (.laload, 1) := by decide +kernel
theorem dX11_pays_169 : decode cX11_pays 169 = .ok (.lsub, 1) := by decide +kernel
theorem dX11_pays_170 : decode cX11_pays 170 = .ok (.lastore, 1) := by decide +kernel
theorem dX11_pays_171 : decode cX11_pays 171 = .ok (.aload_n 0, 1) := by decide +kernel
theorem dX11_pays_172 : decode cX11_pays 172 = .ok (.getfield 7, 3) := by decide +kernel
theorem dX11_pays_175 : decode cX11_pays 175 = .ok (.iconst 4, 1) := by decide +kernel
theorem dX11_pays_176 : decode cX11_pays 176 = .ok (.dup2, 1) := by decide +kernel
theorem dX11_pays_177 : decode cX11_pays 177 = .ok (.laload, 1) := by decide +kernel
theorem dX11_pays_178 : decode cX11_pays 178 = .ok (.aload_n 0, 1) := by decide +kernel
theorem dX11_pays_179 : decode cX11_pays 179 = .ok (.getfield 136, 3) := by decide +kernel
theorem dX11_pays_182 : decode cX11_pays 182 = .ok (.iload_n 1, 1) := by decide +kernel
theorem dX11_pays_183 : decode cX11_pays 183 = .ok (.laload, 1) := by decide +kernel
theorem dX11_pays_184 : decode cX11_pays 184 = .ok (.aload_n 0, 1) := by decide +kernel
theorem dX11_pays_185 : decode cX11_pays 185 = .ok (.getfield 154, 3) := by decide +kernel
theorem dX11_pays_188 : decode cX11_pays 188 = .ok (.iload_n 1, 1) := by decide +kernel
theorem dX11_pays_189 : decode cX11_pays 189 = .ok (.laload, 1) := by decide +kernel
theorem dX11_pays_190 : decode cX11_pays 190 = .ok (.lsub, 1) := by decide +kernel
theorem dX11_pays_191 : decode cX11_pays 191 = .ok (.aload_n 0, 1) := by decide +kernel
theorem dX11_pays_192 : decode cX11_pays 192 = .ok (.getfield 157, 3) := by decide +kernel
theorem dX11_pays_195 : decode cX11_pays 195 = .ok (.iload_n 1, 1) := by decide +kernel
theorem dX11_pays_196 : decode cX11_pays 196 = .ok (.laload, 1) := by decide +kernel
theorem dX11_pays_197 : decode cX11_pays 197 = .ok (.lsub, 1) := by decide +kernel
theorem dX11_pays_198 : decode cX11_pays 198 = .ok (.lsub, 1) := by decide +kernel
theorem dX11_pays_199 : decode cX11_pays 199 = .ok (.lastore, 1) := by decide +kernel
theorem dX11_pays_200 : decode cX11_pays 200 = .ok (.aload_n 0, 1) := by decide +kernel
theorem dX11_pays_201 : decode cX11_pays 201 = .ok (.getfield 124, 3) := by decide +kernel
theorem dX11_pays_204 : decode cX11_pays 204 = .ok (.iload_n 1, 1) := by decide +kernel
theorem dX11_pays_205 : decode cX11_pays 205 = .ok (.iconst 2, 1) := by decide +kernel
theorem dX11_pays_206 : decode cX11_pays 206 = .ok (.iastore, 1) := by decide +kernel
theorem dX11_pays_207 : decode cX11_pays 207 = .ok (.return_, 1) := by decide +kernel
def f_pays (p1 : Int32) (M : MS) : MS :=
    if (gI M 52 p1) = 0 then
      if P_isEarly p1 M then
        (rI (rJ (rJ (rJ (rJ (rJ (rJ M 55 p1 ((((((((gI M 41 p1).toInt64) * ((gI M 42 p1).toInt64)) + 0) * ((gI M 36 (gI M 32 (gI M 21 ((gI M 40 p1) / 4)))).toInt64)) / 1000) * ((gI M 34 (gI M 21 ((gI M 40 p1) / 4))).toInt64)) / 100)) 54 p1 (((((((gI M 41 p1).toInt64) * ((gI M 42 p1).toInt64)) + 0) * ((gI M 36 (gI M 32 (gI M 21 ((gI M 40 p1) / 4)))).toInt64)) / 1000) - ((((((((gI M 41 p1).toInt64) * ((gI M 42 p1).toInt64)) + 0) * ((gI M 36 (gI M 32 (gI M 21 ((gI M 40 p1) / 4)))).toInt64)) / 1000) * ((gI M 34 (gI M 21 ((gI M 40 p1) / 4))).toInt64)) / 100))) 2 1 ((gJ M 2 1) + (gJ M 48 p1))) 2 2 ((gJ M 2 2) - (((((((gI M 41 p1).toInt64) * ((gI M 42 p1).toInt64)) + 0) * ((gI M 36 (gI M 32 (gI M 21 ((gI M 40 p1) / 4)))).toInt64)) / 1000) - ((((((((gI M 41 p1).toInt64) * ((gI M 42 p1).toInt64)) + 0) * ((gI M 36 (gI M 32 (gI M 21 ((gI M 40 p1) / 4)))).toInt64)) / 1000) * ((gI M 34 (gI M 21 ((gI M 40 p1) / 4))).toInt64)) / 100)))) 2 5 ((gJ M 2 5) - ((((((((gI M 41 p1).toInt64) * ((gI M 42 p1).toInt64)) + 0) * ((gI M 36 (gI M 32 (gI M 21 ((gI M 40 p1) / 4)))).toInt64)) / 1000) * ((gI M 34 (gI M 21 ((gI M 40 p1) / 4))).toInt64)) / 100))) 2 4 ((gJ M 2 4) - (((gJ M 48 p1) - (((((((gI M 41 p1).toInt64) * ((gI M 42 p1).toInt64)) + 0) * ((gI M 36 (gI M 32 (gI M 21 ((gI M 40 p1) / 4)))).toInt64)) / 1000) - ((((((((gI M 41 p1).toInt64) * ((gI M 42 p1).toInt64)) + 0) * ((gI M 36 (gI M 32 (gI M 21 ((gI M 40 p1) / 4)))).toInt64)) / 1000) * ((gI M 34 (gI M 21 ((gI M 40 p1) / 4))).toInt64)) / 100))) - ((((((((gI M 41 p1).toInt64) * ((gI M 42 p1).toInt64)) + 0) * ((gI M 36 (gI M 32 (gI M 21 ((gI M 40 p1) / 4)))).toInt64)) / 1000) * ((gI M 34 (gI M 21 ((gI M 40 p1) / 4))).toInt64)) / 100)))) 44 p1 2)
      else
      (rI (rJ (rJ (rJ (rJ (rJ (rJ M 55 p1 0) 54 p1 (((((((gI M 41 p1).toInt64) * ((gI M 42 p1).toInt64)) + 0) * ((gI M 36 (gI M 32 (gI M 21 ((gI M 40 p1) / 4)))).toInt64)) / 1000) - 0)) 2 1 ((gJ M 2 1) + (gJ M 48 p1))) 2 2 ((gJ M 2 2) - (((((((gI M 41 p1).toInt64) * ((gI M 42 p1).toInt64)) + 0) * ((gI M 36 (gI M 32 (gI M 21 ((gI M 40 p1) / 4)))).toInt64)) / 1000) - 0))) 2 5 ((gJ M 2 5) - 0)) 2 4 ((gJ M 2 4) - (((gJ M 48 p1) - (((((((gI M 41 p1).toInt64) * ((gI M 42 p1).toInt64)) + 0) * ((gI M 36 (gI M 32 (gI M 21 ((gI M 40 p1) / 4)))).toInt64)) / 1000) - 0)) - 0))) 44 p1 2)
    else
    if P_isEarly p1 M then
      (rI (rJ (rJ (rJ (rJ (rJ (rJ M 55 p1 ((((((((gI M 41 p1).toInt64) * ((gI M 42 p1).toInt64)) + (((((gI M 41 p1).toInt64) * ((gI M 42 p1).toInt64)) * ((gI M 51 p1).toInt64)) / 100)) * ((gI M 36 (gI M 32 (gI M 21 ((gI M 40 p1) / 4)))).toInt64)) / 1000) * ((gI M 34 (gI M 21 ((gI M 40 p1) / 4))).toInt64)) / 100)) 54 p1 (((((((gI M 41 p1).toInt64) * ((gI M 42 p1).toInt64)) + (((((gI M 41 p1).toInt64) * ((gI M 42 p1).toInt64)) * ((gI M 51 p1).toInt64)) / 100)) * ((gI M 36 (gI M 32 (gI M 21 ((gI M 40 p1) / 4)))).toInt64)) / 1000) - ((((((((gI M 41 p1).toInt64) * ((gI M 42 p1).toInt64)) + (((((gI M 41 p1).toInt64) * ((gI M 42 p1).toInt64)) * ((gI M 51 p1).toInt64)) / 100)) * ((gI M 36 (gI M 32 (gI M 21 ((gI M 40 p1) / 4)))).toInt64)) / 1000) * ((gI M 34 (gI M 21 ((gI M 40 p1) / 4))).toInt64)) / 100))) 2 1 ((gJ M 2 1) + (gJ M 48 p1))) 2 2 ((gJ M 2 2) - (((((((gI M 41 p1).toInt64) * ((gI M 42 p1).toInt64)) + (((((gI M 41 p1).toInt64) * ((gI M 42 p1).toInt64)) * ((gI M 51 p1).toInt64)) / 100)) * ((gI M 36 (gI M 32 (gI M 21 ((gI M 40 p1) / 4)))).toInt64)) / 1000) - ((((((((gI M 41 p1).toInt64) * ((gI M 42 p1).toInt64)) + (((((gI M 41 p1).toInt64) * ((gI M 42 p1).toInt64)) * ((gI M 51 p1).toInt64)) / 100)) * ((gI M 36 (gI M 32 (gI M 21 ((gI M 40 p1) / 4)))).toInt64)) / 1000) * ((gI M 34 (gI M 21 ((gI M 40 p1) / 4))).toInt64)) / 100)))) 2 5 ((gJ M 2 5) - ((((((((gI M 41 p1).toInt64) * ((gI M 42 p1).toInt64)) + (((((gI M 41 p1).toInt64) * ((gI M 42 p1).toInt64)) * ((gI M 51 p1).toInt64)) / 100)) * ((gI M 36 (gI M 32 (gI M 21 ((gI M 40 p1) / 4)))).toInt64)) / 1000) * ((gI M 34 (gI M 21 ((gI M 40 p1) / 4))).toInt64)) / 100))) 2 4 ((gJ M 2 4) - (((gJ M 48 p1) - (((((((gI M 41 p1).toInt64) * ((gI M 42 p1).toInt64)) + (((((gI M 41 p1).toInt64) * ((gI M 42 p1).toInt64)) * ((gI M 51 p1).toInt64)) / 100)) * ((gI M 36 (gI M 32 (gI M 21 ((gI M 40 p1) / 4)))).toInt64)) / 1000) - ((((((((gI M 41 p1).toInt64) * ((gI M 42 p1).toInt64)) + (((((gI M 41 p1).toInt64) * ((gI M 42 p1).toInt64)) * ((gI M 51 p1).toInt64)) / 100)) * ((gI M 36 (gI M 32 (gI M 21 ((gI M 40 p1) / 4)))).toInt64)) / 1000) * ((gI M 34 (gI M 21 ((gI M 40 p1) / 4))).toInt64)) / 100))) - ((((((((gI M 41 p1).toInt64) * ((gI M 42 p1).toInt64)) + (((((gI M 41 p1).toInt64) * ((gI M 42 p1).toInt64)) * ((gI M 51 p1).toInt64)) / 100)) * ((gI M 36 (gI M 32 (gI M 21 ((gI M 40 p1) / 4)))).toInt64)) / 1000) * ((gI M 34 (gI M 21 ((gI M 40 p1) / 4))).toInt64)) / 100)))) 44 p1 2)
    else
    (rI (rJ (rJ (rJ (rJ (rJ (rJ M 55 p1 0) 54 p1 (((((((gI M 41 p1).toInt64) * ((gI M 42 p1).toInt64)) + (((((gI M 41 p1).toInt64) * ((gI M 42 p1).toInt64)) * ((gI M 51 p1).toInt64)) / 100)) * ((gI M 36 (gI M 32 (gI M 21 ((gI M 40 p1) / 4)))).toInt64)) / 1000) - 0)) 2 1 ((gJ M 2 1) + (gJ M 48 p1))) 2 2 ((gJ M 2 2) - (((((((gI M 41 p1).toInt64) * ((gI M 42 p1).toInt64)) + (((((gI M 41 p1).toInt64) * ((gI M 42 p1).toInt64)) * ((gI M 51 p1).toInt64)) / 100)) * ((gI M 36 (gI M 32 (gI M 21 ((gI M 40 p1) / 4)))).toInt64)) / 1000) - 0))) 2 5 ((gJ M 2 5) - 0)) 2 4 ((gJ M 2 4) - (((gJ M 48 p1) - (((((((gI M 41 p1).toInt64) * ((gI M 42 p1).toInt64)) + (((((gI M 41 p1).toInt64) * ((gI M 42 p1).toInt64)) * ((gI M 51 p1).toInt64)) / 100)) * ((gI M 36 (gI M 32 (gI M 21 ((gI M 40 p1) / 4)))).toInt64)) / 1000) - 0)) - 0))) 44 p1 2)
abbrev rm_X11_pays : Room := { frames := 1, cells := 0, slots := 0, locals := 21 }
set_option maxRecDepth 100000 in
set_option maxHeartbeats 4000000 in
theorem c_pays {l : Launch} {k : KC} {mo : Nat} {ad : Nat → Nat} (hl : l.stackTraces = false) (hM : HM mo ad) {M : MS} {p1 : Int32} (hi : IvOK M p1) : CM l k mo ad yX11_pays (.code yX11_pays cX11_pays 7 none) rm_X11_pays [.int p1] M none (f_pays p1 M) := by
  refine MC.of 5 hl (by decide) (Nat.le_of_ble_eq_true rfl) ?_
  intro p e s m args below meth c A Q G B _ _
  show Wx p l e rm_X11_pays s m args below meth c k A 7 Q 0 0 0 [some (.ref mo), some (.int p1), none, none, none, none, none] [] (mW k mo ad M)
  refine x_aload0 (pc := 0) G dX11_pays_0 ?_
  refine y_gA (pc := 1) G g_57 mG_21 dX11_pays_1 ?_
  refine x_aload0 (pc := 4) G dX11_pays_4 ?_
  refine y_gA (pc := 5) G g_112 mG_40 dX11_pays_5 ?_
  refine x_iload1 (pc := 8) G dX11_pays_8 ?_
  refine y_iald (pc := 9) (v := (gI M 40 p1)) G hM a_40 (by first | exact hi.1 | exact hi.2.2.1 | exact hi.2.2.2.2.1 | exact hi.2.2.2.2.2 | exact hi.2.1 | exact vin_lit (by decide)) rfl dX11_pays_9 ?_
  refine x_iconst (pc := 10) (v := 4) G dX11_pays_10 ic_4 ?_
  refine x_idiv (pc := 11) G dX11_pays_11 (by decide) ?_
  refine y_iald (pc := 12) (v := (gI M 21 ((gI M 40 p1) / 4))) G hM a_21 (by first | exact hi.1 | exact hi.2.2.1 | exact hi.2.2.2.2.1 | exact hi.2.2.2.2.2 | exact hi.2.1 | exact vin_lit (by decide)) rfl dX11_pays_12 ?_
  refine x_istore2 (pc := 13) G dX11_pays_13 (Nat.le_of_ble_eq_true rfl) rfl ?_
  refine x_aload0 (pc := 14) G dX11_pays_14 ?_
  refine y_gA (pc := 15) G g_115 mG_41 dX11_pays_15 ?_
  refine x_iload1 (pc := 18) G dX11_pays_18 ?_
  refine y_iald (pc := 19) (v := (gI M 41 p1)) G hM a_41 (by first | exact hi.1 | exact hi.2.2.1 | exact hi.2.2.2.2.1 | exact hi.2.2.2.2.2 | exact hi.2.1 | exact vin_lit (by decide)) rfl dX11_pays_19 ?_
  refine x_i2l (pc := 20) G dX11_pays_20 ?_
  refine x_aload0 (pc := 21) G dX11_pays_21 ?_
  refine y_gA (pc := 22) G g_118 mG_42 dX11_pays_22 ?_
  refine x_iload1 (pc := 25) G dX11_pays_25 ?_
  refine y_iald (pc := 26) (v := (gI M 42 p1)) G hM a_42 (by first | exact hi.1 | exact hi.2.2.1 | exact hi.2.2.2.2.1 | exact hi.2.2.2.2.2 | exact hi.2.1 | exact vin_lit (by decide)) rfl dX11_pays_26 ?_
  refine x_i2l (pc := 27) G dX11_pays_27 ?_
  refine x_lmul (pc := 28) G dX11_pays_28 ?_
  refine x_lstore3 (pc := 29) G dX11_pays_29 (Nat.le_of_ble_eq_true rfl) rfl ?_
  refine x_lload3 (pc := 30) G dX11_pays_30 ?_
  refine x_aload0 (pc := 31) G dX11_pays_31 ?_
  refine y_gA (pc := 32) G g_148 mG_52 dX11_pays_32 ?_
  refine x_iload1 (pc := 35) G dX11_pays_35 ?_
  refine y_zald (pc := 36) (v := (gI M 52 p1)) G hM a_52 (by first | exact hi.1 | exact hi.2.2.1 | exact hi.2.2.2.2.1 | exact hi.2.2.2.2.2 | exact hi.2.1 | exact vin_lit (by decide)) rfl dX11_pays_36 ?_
  refine x_if_eq (pc := 37) (y := 0) (tgt := 56) G dX11_pays_37 rfl (fun c1 => ?_) (fun c1 => ?_)
  · refine x_lconst (pc := 56) (v := 0) G dX11_pays_56 lc_0 ?_
    refine x_ladd (pc := 57) G dX11_pays_57 ?_
    refine x_lstore3 (pc := 58) G dX11_pays_58 (Nat.le_of_ble_eq_true rfl) rfl ?_
    refine x_lload3 (pc := 59) G dX11_pays_59 ?_
    refine x_aload0 (pc := 60) G dX11_pays_60 ?_
    refine y_gA (pc := 61) G g_102 mG_36 dX11_pays_61 ?_
    refine x_aload0 (pc := 64) G dX11_pays_64 ?_
    refine y_gA (pc := 65) G g_90 mG_32 dX11_pays_65 ?_
    refine x_iload2 (pc := 68) G dX11_pays_68 ?_
    refine y_iald (pc := 69) (v := (gI M 32 (gI M 21 ((gI M 40 p1) / 4)))) G hM a_32 (by first | exact hi.1 | exact hi.2.2.1 | exact hi.2.2.2.2.1 | exact hi.2.2.2.2.2 | exact hi.2.1 | exact vin_lit (by decide)) rfl dX11_pays_69 ?_
    refine y_iald (pc := 70) (v := (gI M 36 (gI M 32 (gI M 21 ((gI M 40 p1) / 4))))) G hM a_36 (by first | exact hi.1 | exact hi.2.2.1 | exact hi.2.2.2.2.1 | exact hi.2.2.2.2.2 | exact hi.2.1 | exact vin_lit (by decide)) rfl dX11_pays_70 ?_
    refine x_i2l (pc := 71) G dX11_pays_71 ?_
    refine x_lmul (pc := 72) G dX11_pays_72 ?_
    refine x_ldc2 (pc := 73) G q_cL_X11_301 dX11_pays_73 ?_
    refine x_ldiv (pc := 76) G dX11_pays_76 (by decide) ?_
    refine x_lstore5 (pc := 77) G dX11_pays_77 (Nat.le_of_ble_eq_true rfl) rfl ?_
    refine x_aload0 (pc := 79) G dX11_pays_79 ?_
    refine y_gA (pc := 80) G g_157 mG_55 dX11_pays_80 ?_
    refine x_iload1 (pc := 83) G dX11_pays_83 ?_
    refine x_aload0 (pc := 84) G dX11_pays_84 ?_
    refine x_iload1 (pc := 85) G dX11_pays_85 ?_
    refine y_cb1 (pc := 86) G (b_isEarly hl hM hi) q_ml_X11_306 h_X11_isEarly rfl ⟨Nat.le_of_ble_eq_true rfl, Nat.le_of_ble_eq_true rfl⟩ (Nat.le_of_ble_eq_true rfl) (Nat.le_refl _) (Nat.le_refl _) dX11_pays_86 (fun c2 => ?_) (fun c2 => ?_)
    · refine x_if_eq (pc := 89) (y := 0) (tgt := 109) G dX11_pays_89 rfl (fun q => absurd q (by decide)) (fun _ => ?_)
      refine x_lload5 (pc := 92) G dX11_pays_92 ?_
      refine x_aload0 (pc := 94) G dX11_pays_94 ?_
      refine y_gA (pc := 95) G g_96 mG_34 dX11_pays_95 ?_
      refine x_iload2 (pc := 98) G dX11_pays_98 ?_
      refine y_iald (pc := 99) (v := (gI M 34 (gI M 21 ((gI M 40 p1) / 4)))) G hM a_34 (by first | exact hi.1 | exact hi.2.2.1 | exact hi.2.2.2.2.1 | exact hi.2.2.2.2.2 | exact hi.2.1 | exact vin_lit (by decide)) rfl dX11_pays_99 ?_
      refine x_i2l (pc := 100) G dX11_pays_100 ?_
      refine x_lmul (pc := 101) G dX11_pays_101 ?_
      refine x_ldc2 (pc := 102) G q_cL_X11_234 dX11_pays_102 ?_
      refine x_ldiv (pc := 105) G dX11_pays_105 (by decide) ?_
      refine x_goto (pc := 106) (tgt := 110) G dX11_pays_106 rfl ?_
      refine y_last (pc := 110) G hM a_55 (by first | exact hi.1 | exact hi.2.2.1 | exact hi.2.2.2.2.1 | exact hi.2.2.2.2.2 | exact hi.2.1 | exact vin_lit (by decide)) dX11_pays_110 ?_
      refine x_aload0 (pc := 111) G dX11_pays_111 ?_
      refine y_gA (pc := 112) G g_154 mG_54 dX11_pays_112 ?_
      refine x_iload1 (pc := 115) G dX11_pays_115 ?_
      refine x_lload5 (pc := 116) G dX11_pays_116 ?_
      refine x_aload0 (pc := 118) G dX11_pays_118 ?_
      refine y_gA (pc := 119) G g_157 mG_55 dX11_pays_119 ?_
      refine x_iload1 (pc := 122) G dX11_pays_122 ?_
      refine y_lald (pc := 123) (v := ((((((((gI M 41 p1).toInt64) * ((gI M 42 p1).toInt64)) + 0) * ((gI M 36 (gI M 32 (gI M 21 ((gI M 40 p1) / 4)))).toInt64)) / 1000) * ((gI M 34 (gI M 21 ((gI M 40 p1) / 4))).toInt64)) / 100)) G hM a_55 (by first | exact hi.1 | exact hi.2.2.1 | exact hi.2.2.2.2.1 | exact hi.2.2.2.2.2 | exact hi.2.1 | exact vin_lit (by decide)) gJ_rJs dX11_pays_123 ?_
      refine x_lsub (pc := 124) G dX11_pays_124 ?_
      refine y_last (pc := 125) G hM a_54 (by first | exact hi.1 | exact hi.2.2.1 | exact hi.2.2.2.2.1 | exact hi.2.2.2.2.2 | exact hi.2.1 | exact vin_lit (by decide)) dX11_pays_125 ?_
      refine x_aload0 (pc := 126) G dX11_pays_126 ?_
      refine y_gA (pc := 127) G g_7 mG_2 dX11_pays_127 ?_
      refine x_iconst (pc := 130) (v := 1) G dX11_pays_130 ic_1 ?_
      refine x_dup2 (pc := 131) G dX11_pays_131 rfl rfl ?_
      refine y_lald (pc := 132) (v := (gJ M 2 1)) G hM a_2 vk9_1 ((gJ_rJn rfl).trans (gJ_rJn rfl)) dX11_pays_132 ?_
      refine x_aload0 (pc := 133) G dX11_pays_133 ?_
      refine y_gA (pc := 134) G g_136 mG_48 dX11_pays_134 ?_
      refine x_iload1 (pc := 137) G dX11_pays_137 ?_
      refine y_lald (pc := 138) (v := (gJ M 48 p1)) G hM a_48 (by first | exact hi.1 | exact hi.2.2.1 | exact hi.2.2.2.2.1 | exact hi.2.2.2.2.2 | exact hi.2.1 | exact vin_lit (by decide)) ((gJ_rJn rfl).trans (gJ_rJn rfl)) dX11_pays_138 ?_
      refine x_ladd (pc := 139) G dX11_pays_139 ?_
      refine y_last (pc := 140) G hM a_2 vk9_1 dX11_pays_140 ?_
      refine x_aload0 (pc := 141) G dX11_pays_141 ?_
      refine y_gA (pc := 142) G g_7 mG_2 dX11_pays_142 ?_
      refine x_iconst (pc := 145) (v := 2) G dX11_pays_145 ic_2 ?_
      refine x_dup2 (pc := 146) G dX11_pays_146 rfl rfl ?_
      refine y_lald (pc := 147) (v := (gJ M 2 2)) G hM a_2 vk9_2 ((gJ_rJc (by decide)).trans ((gJ_rJn rfl).trans (gJ_rJn rfl))) dX11_pays_147 ?_
      refine x_aload0 (pc := 148) G dX11_pays_148 ?_
      refine y_gA (pc := 149) G g_154 mG_54 dX11_pays_149 ?_
      refine x_iload1 (pc := 152) G dX11_pays_152 ?_
      refine y_lald (pc := 153) (v := (((((((gI M 41 p1).toInt64) * ((gI M 42 p1).toInt64)) + 0) * ((gI M 36 (gI M 32 (gI M 21 ((gI M 40 p1) / 4)))).toInt64)) / 1000) - ((((((((gI M 41 p1).toInt64) * ((gI M 42 p1).toInt64)) + 0) * ((gI M 36 (gI M 32 (gI M 21 ((gI M 40 p1) / 4)))).toInt64)) / 1000) * ((gI M 34 (gI M 21 ((gI M 40 p1) / 4))).toInt64)) / 100))) G hM a_54 (by first | exact hi.1 | exact hi.2.2.1 | exact hi.2.2.2.2.1 | exact hi.2.2.2.2.2 | exact hi.2.1 | exact vin_lit (by decide)) ((gJ_rJn rfl).trans gJ_rJs) dX11_pays_153 ?_
      refine x_lsub (pc := 154) G dX11_pays_154 ?_
      refine y_last (pc := 155) G hM a_2 vk9_2 dX11_pays_155 ?_
      refine x_aload0 (pc := 156) G dX11_pays_156 ?_
      refine y_gA (pc := 157) G g_7 mG_2 dX11_pays_157 ?_
      refine x_iconst (pc := 160) (v := 5) G dX11_pays_160 ic_5 ?_
      refine x_dup2 (pc := 161) G dX11_pays_161 rfl rfl ?_
      refine y_lald (pc := 162) (v := (gJ M 2 5)) G hM a_2 vk9_5 ((gJ_rJc (by decide)).trans ((gJ_rJc (by decide)).trans ((gJ_rJn rfl).trans (gJ_rJn rfl)))) dX11_pays_162 ?_
      refine x_aload0 (pc := 163) G dX11_pays_163 ?_
      refine y_gA (pc := 164) G g_157 mG_55 dX11_pays_164 ?_
      refine x_iload1 (pc := 167) G dX11_pays_167 ?_
      refine y_lald (pc := 168) (v := ((((((((gI M 41 p1).toInt64) * ((gI M 42 p1).toInt64)) + 0) * ((gI M 36 (gI M 32 (gI M 21 ((gI M 40 p1) / 4)))).toInt64)) / 1000) * ((gI M 34 (gI M 21 ((gI M 40 p1) / 4))).toInt64)) / 100)) G hM a_55 (by first | exact hi.1 | exact hi.2.2.1 | exact hi.2.2.2.2.1 | exact hi.2.2.2.2.2 | exact hi.2.1 | exact vin_lit (by decide)) ((gJ_rJn rfl).trans ((gJ_rJn rfl).trans ((gJ_rJn rfl).trans gJ_rJs))) dX11_pays_168 ?_
      refine x_lsub (pc := 169) G dX11_pays_169 ?_
      refine y_last (pc := 170) G hM a_2 vk9_5 dX11_pays_170 ?_
      refine x_aload0 (pc := 171) G dX11_pays_171 ?_
      refine y_gA (pc := 172) G g_7 mG_2 dX11_pays_172 ?_
      refine x_iconst (pc := 175) (v := 4) G dX11_pays_175 ic_4 ?_
      refine x_dup2 (pc := 176) G dX11_pays_176 rfl rfl ?_
      refine y_lald (pc := 177) (v := (gJ M 2 4)) G hM a_2 vk9_4 ((gJ_rJc (by decide)).trans ((gJ_rJc (by decide)).trans ((gJ_rJc (by decide)).trans ((gJ_rJn rfl).trans (gJ_rJn rfl))))) dX11_pays_177 ?_
      refine x_aload0 (pc := 178) G dX11_pays_178 ?_
      refine y_gA (pc := 179) G g_136 mG_48 dX11_pays_179 ?_
      refine x_iload1 (pc := 182) G dX11_pays_182 ?_
      refine y_lald (pc := 183) (v := (gJ M 48 p1)) G hM a_48 (by first | exact hi.1 | exact hi.2.2.1 | exact hi.2.2.2.2.1 | exact hi.2.2.2.2.2 | exact hi.2.1 | exact vin_lit (by decide)) ((gJ_rJn rfl).trans ((gJ_rJn rfl).trans ((gJ_rJn rfl).trans ((gJ_rJn rfl).trans (gJ_rJn rfl))))) dX11_pays_183 ?_
      refine x_aload0 (pc := 184) G dX11_pays_184 ?_
      refine y_gA (pc := 185) G g_154 mG_54 dX11_pays_185 ?_
      refine x_iload1 (pc := 188) G dX11_pays_188 ?_
      refine y_lald (pc := 189) (v := (((((((gI M 41 p1).toInt64) * ((gI M 42 p1).toInt64)) + 0) * ((gI M 36 (gI M 32 (gI M 21 ((gI M 40 p1) / 4)))).toInt64)) / 1000) - ((((((((gI M 41 p1).toInt64) * ((gI M 42 p1).toInt64)) + 0) * ((gI M 36 (gI M 32 (gI M 21 ((gI M 40 p1) / 4)))).toInt64)) / 1000) * ((gI M 34 (gI M 21 ((gI M 40 p1) / 4))).toInt64)) / 100))) G hM a_54 (by first | exact hi.1 | exact hi.2.2.1 | exact hi.2.2.2.2.1 | exact hi.2.2.2.2.2 | exact hi.2.1 | exact vin_lit (by decide)) ((gJ_rJn rfl).trans ((gJ_rJn rfl).trans ((gJ_rJn rfl).trans gJ_rJs))) dX11_pays_189 ?_
      refine x_lsub (pc := 190) G dX11_pays_190 ?_
      refine x_aload0 (pc := 191) G dX11_pays_191 ?_
      refine y_gA (pc := 192) G g_157 mG_55 dX11_pays_192 ?_
      refine x_iload1 (pc := 195) G dX11_pays_195 ?_
      refine y_lald (pc := 196) (v := ((((((((gI M 41 p1).toInt64) * ((gI M 42 p1).toInt64)) + 0) * ((gI M 36 (gI M 32 (gI M 21 ((gI M 40 p1) / 4)))).toInt64)) / 1000) * ((gI M 34 (gI M 21 ((gI M 40 p1) / 4))).toInt64)) / 100)) G hM a_55 (by first | exact hi.1 | exact hi.2.2.1 | exact hi.2.2.2.2.1 | exact hi.2.2.2.2.2 | exact hi.2.1 | exact vin_lit (by decide)) ((gJ_rJn rfl).trans ((gJ_rJn rfl).trans ((gJ_rJn rfl).trans ((gJ_rJn rfl).trans gJ_rJs)))) dX11_pays_196 ?_
      refine x_lsub (pc := 197) G dX11_pays_197 ?_
      refine x_lsub (pc := 198) G dX11_pays_198 ?_
      refine y_last (pc := 199) G hM a_2 vk9_4 dX11_pays_199 ?_
      refine x_aload0 (pc := 200) G dX11_pays_200 ?_
      refine y_gA (pc := 201) G g_124 mG_44 dX11_pays_201 ?_
      refine x_iload1 (pc := 204) G dX11_pays_204 ?_
      refine x_iconst (pc := 205) (v := 2) G dX11_pays_205 ic_2 ?_
      refine y_iast (pc := 206) G hM a_44 (by first | exact hi.1 | exact hi.2.2.1 | exact hi.2.2.2.2.1 | exact hi.2.2.2.2.2 | exact hi.2.1 | exact vin_lit (by decide)) dX11_pays_206 ?_
      exact x_vret (pc := 207) G B rfl dX11_pays_207 ⟨rfl, by rw [f_pays, if_pos c1, if_pos c2]⟩
    refine x_if_eq (pc := 89) (y := 0) (tgt := 109) G dX11_pays_89 rfl (fun _ => ?_) (fun q => absurd q (by decide))
    refine x_lconst (pc := 109) (v := 0) G dX11_pays_109 lc_0 ?_
    refine y_last (pc := 110) G hM a_55 (by first | exact hi.1 | exact hi.2.2.1 | exact hi.2.2.2.2.1 | exact hi.2.2.2.2.2 | exact hi.2.1 | exact vin_lit (by decide)) dX11_pays_110 ?_
    refine x_aload0 (pc := 111) G dX11_pays_111 ?_
    refine y_gA (pc := 112) G g_154 mG_54 dX11_pays_112 ?_
    refine x_iload1 (pc := 115) G dX11_pays_115 ?_
    refine x_lload5 (pc := 116) G dX11_pays_116 ?_
    refine x_aload0 (pc := 118) G dX11_pays_118 ?_
    refine y_gA (pc := 119) G g_157 mG_55 dX11_pays_119 ?_
    refine x_iload1 (pc := 122) G dX11_pays_122 ?_
    refine y_lald (pc := 123) (v := 0) G hM a_55 (by first | exact hi.1 | exact hi.2.2.1 | exact hi.2.2.2.2.1 | exact hi.2.2.2.2.2 | exact hi.2.1 | exact vin_lit (by decide)) gJ_rJs dX11_pays_123 ?_
    refine x_lsub (pc := 124) G dX11_pays_124 ?_
    refine y_last (pc := 125) G hM a_54 (by first | exact hi.1 | exact hi.2.2.1 | exact hi.2.2.2.2.1 | exact hi.2.2.2.2.2 | exact hi.2.1 | exact vin_lit (by decide)) dX11_pays_125 ?_
    refine x_aload0 (pc := 126) G dX11_pays_126 ?_
    refine y_gA (pc := 127) G g_7 mG_2 dX11_pays_127 ?_
    refine x_iconst (pc := 130) (v := 1) G dX11_pays_130 ic_1 ?_
    refine x_dup2 (pc := 131) G dX11_pays_131 rfl rfl ?_
    refine y_lald (pc := 132) (v := (gJ M 2 1)) G hM a_2 vk9_1 ((gJ_rJn rfl).trans (gJ_rJn rfl)) dX11_pays_132 ?_
    refine x_aload0 (pc := 133) G dX11_pays_133 ?_
    refine y_gA (pc := 134) G g_136 mG_48 dX11_pays_134 ?_
    refine x_iload1 (pc := 137) G dX11_pays_137 ?_
    refine y_lald (pc := 138) (v := (gJ M 48 p1)) G hM a_48 (by first | exact hi.1 | exact hi.2.2.1 | exact hi.2.2.2.2.1 | exact hi.2.2.2.2.2 | exact hi.2.1 | exact vin_lit (by decide)) ((gJ_rJn rfl).trans (gJ_rJn rfl)) dX11_pays_138 ?_
    refine x_ladd (pc := 139) G dX11_pays_139 ?_
    refine y_last (pc := 140) G hM a_2 vk9_1 dX11_pays_140 ?_
    refine x_aload0 (pc := 141) G dX11_pays_141 ?_
    refine y_gA (pc := 142) G g_7 mG_2 dX11_pays_142 ?_
    refine x_iconst (pc := 145) (v := 2) G dX11_pays_145 ic_2 ?_
    refine x_dup2 (pc := 146) G dX11_pays_146 rfl rfl ?_
    refine y_lald (pc := 147) (v := (gJ M 2 2)) G hM a_2 vk9_2 ((gJ_rJc (by decide)).trans ((gJ_rJn rfl).trans (gJ_rJn rfl))) dX11_pays_147 ?_
    refine x_aload0 (pc := 148) G dX11_pays_148 ?_
    refine y_gA (pc := 149) G g_154 mG_54 dX11_pays_149 ?_
    refine x_iload1 (pc := 152) G dX11_pays_152 ?_
    refine y_lald (pc := 153) (v := (((((((gI M 41 p1).toInt64) * ((gI M 42 p1).toInt64)) + 0) * ((gI M 36 (gI M 32 (gI M 21 ((gI M 40 p1) / 4)))).toInt64)) / 1000) - 0)) G hM a_54 (by first | exact hi.1 | exact hi.2.2.1 | exact hi.2.2.2.2.1 | exact hi.2.2.2.2.2 | exact hi.2.1 | exact vin_lit (by decide)) ((gJ_rJn rfl).trans gJ_rJs) dX11_pays_153 ?_
    refine x_lsub (pc := 154) G dX11_pays_154 ?_
    refine y_last (pc := 155) G hM a_2 vk9_2 dX11_pays_155 ?_
    refine x_aload0 (pc := 156) G dX11_pays_156 ?_
    refine y_gA (pc := 157) G g_7 mG_2 dX11_pays_157 ?_
    refine x_iconst (pc := 160) (v := 5) G dX11_pays_160 ic_5 ?_
    refine x_dup2 (pc := 161) G dX11_pays_161 rfl rfl ?_
    refine y_lald (pc := 162) (v := (gJ M 2 5)) G hM a_2 vk9_5 ((gJ_rJc (by decide)).trans ((gJ_rJc (by decide)).trans ((gJ_rJn rfl).trans (gJ_rJn rfl)))) dX11_pays_162 ?_
    refine x_aload0 (pc := 163) G dX11_pays_163 ?_
    refine y_gA (pc := 164) G g_157 mG_55 dX11_pays_164 ?_
    refine x_iload1 (pc := 167) G dX11_pays_167 ?_
    refine y_lald (pc := 168) (v := 0) G hM a_55 (by first | exact hi.1 | exact hi.2.2.1 | exact hi.2.2.2.2.1 | exact hi.2.2.2.2.2 | exact hi.2.1 | exact vin_lit (by decide)) ((gJ_rJn rfl).trans ((gJ_rJn rfl).trans ((gJ_rJn rfl).trans gJ_rJs))) dX11_pays_168 ?_
    refine x_lsub (pc := 169) G dX11_pays_169 ?_
    refine y_last (pc := 170) G hM a_2 vk9_5 dX11_pays_170 ?_
    refine x_aload0 (pc := 171) G dX11_pays_171 ?_
    refine y_gA (pc := 172) G g_7 mG_2 dX11_pays_172 ?_
    refine x_iconst (pc := 175) (v := 4) G dX11_pays_175 ic_4 ?_
    refine x_dup2 (pc := 176) G dX11_pays_176 rfl rfl ?_
    refine y_lald (pc := 177) (v := (gJ M 2 4)) G hM a_2 vk9_4 ((gJ_rJc (by decide)).trans ((gJ_rJc (by decide)).trans ((gJ_rJc (by decide)).trans ((gJ_rJn rfl).trans (gJ_rJn rfl))))) dX11_pays_177 ?_
    refine x_aload0 (pc := 178) G dX11_pays_178 ?_
    refine y_gA (pc := 179) G g_136 mG_48 dX11_pays_179 ?_
    refine x_iload1 (pc := 182) G dX11_pays_182 ?_
    refine y_lald (pc := 183) (v := (gJ M 48 p1)) G hM a_48 (by first | exact hi.1 | exact hi.2.2.1 | exact hi.2.2.2.2.1 | exact hi.2.2.2.2.2 | exact hi.2.1 | exact vin_lit (by decide)) ((gJ_rJn rfl).trans ((gJ_rJn rfl).trans ((gJ_rJn rfl).trans ((gJ_rJn rfl).trans (gJ_rJn rfl))))) dX11_pays_183 ?_
    refine x_aload0 (pc := 184) G dX11_pays_184 ?_
    refine y_gA (pc := 185) G g_154 mG_54 dX11_pays_185 ?_
    refine x_iload1 (pc := 188) G dX11_pays_188 ?_
    refine y_lald (pc := 189) (v := (((((((gI M 41 p1).toInt64) * ((gI M 42 p1).toInt64)) + 0) * ((gI M 36 (gI M 32 (gI M 21 ((gI M 40 p1) / 4)))).toInt64)) / 1000) - 0)) G hM a_54 (by first | exact hi.1 | exact hi.2.2.1 | exact hi.2.2.2.2.1 | exact hi.2.2.2.2.2 | exact hi.2.1 | exact vin_lit (by decide)) ((gJ_rJn rfl).trans ((gJ_rJn rfl).trans ((gJ_rJn rfl).trans gJ_rJs))) dX11_pays_189 ?_
    refine x_lsub (pc := 190) G dX11_pays_190 ?_
    refine x_aload0 (pc := 191) G dX11_pays_191 ?_
    refine y_gA (pc := 192) G g_157 mG_55 dX11_pays_192 ?_
    refine x_iload1 (pc := 195) G dX11_pays_195 ?_
    refine y_lald (pc := 196) (v := 0) G hM a_55 (by first | exact hi.1 | exact hi.2.2.1 | exact hi.2.2.2.2.1 | exact hi.2.2.2.2.2 | exact hi.2.1 | exact vin_lit (by decide)) ((gJ_rJn rfl).trans ((gJ_rJn rfl).trans ((gJ_rJn rfl).trans ((gJ_rJn rfl).trans gJ_rJs)))) dX11_pays_196 ?_
    refine x_lsub (pc := 197) G dX11_pays_197 ?_
    refine x_lsub (pc := 198) G dX11_pays_198 ?_
    refine y_last (pc := 199) G hM a_2 vk9_4 dX11_pays_199 ?_
    refine x_aload0 (pc := 200) G dX11_pays_200 ?_
    refine y_gA (pc := 201) G g_124 mG_44 dX11_pays_201 ?_
    refine x_iload1 (pc := 204) G dX11_pays_204 ?_
    refine x_iconst (pc := 205) (v := 2) G dX11_pays_205 ic_2 ?_
    refine y_iast (pc := 206) G hM a_44 (by first | exact hi.1 | exact hi.2.2.1 | exact hi.2.2.2.2.1 | exact hi.2.2.2.2.2 | exact hi.2.1 | exact vin_lit (by decide)) dX11_pays_206 ?_
    exact x_vret (pc := 207) G B rfl dX11_pays_207 ⟨rfl, by rw [f_pays, if_pos c1, if_neg c2]⟩
  refine x_lload3 (pc := 40) G dX11_pays_40 ?_
  refine x_aload0 (pc := 41) G dX11_pays_41 ?_
  refine y_gA (pc := 42) G g_145 mG_51 dX11_pays_42 ?_
  refine x_iload1 (pc := 45) G dX11_pays_45 ?_
  refine y_iald (pc := 46) (v := (gI M 51 p1)) G hM a_51 (by first | exact hi.1 | exact hi.2.2.1 | exact hi.2.2.2.2.1 | exact hi.2.2.2.2.2 | exact hi.2.1 | exact vin_lit (by decide)) rfl dX11_pays_46 ?_
  refine x_i2l (pc := 47) G dX11_pays_47 ?_
  refine x_lmul (pc := 48) G dX11_pays_48 ?_
  refine x_ldc2 (pc := 49) G q_cL_X11_234 dX11_pays_49 ?_
  refine x_ldiv (pc := 52) G dX11_pays_52 (by decide) ?_
  refine x_goto (pc := 53) (tgt := 57) G dX11_pays_53 rfl ?_
  refine x_ladd (pc := 57) G dX11_pays_57 ?_
  refine x_lstore3 (pc := 58) G dX11_pays_58 (Nat.le_of_ble_eq_true rfl) rfl ?_
  refine x_lload3 (pc := 59) G dX11_pays_59 ?_
  refine x_aload0 (pc := 60) G dX11_pays_60 ?_
  refine y_gA (pc := 61) G g_102 mG_36 dX11_pays_61 ?_
  refine x_aload0 (pc := 64) G dX11_pays_64 ?_
  refine y_gA (pc := 65) G g_90 mG_32 dX11_pays_65 ?_
  refine x_iload2 (pc := 68) G dX11_pays_68 ?_
  refine y_iald (pc := 69) (v := (gI M 32 (gI M 21 ((gI M 40 p1) / 4)))) G hM a_32 (by first | exact hi.1 | exact hi.2.2.1 | exact hi.2.2.2.2.1 | exact hi.2.2.2.2.2 | exact hi.2.1 | exact vin_lit (by decide)) rfl dX11_pays_69 ?_
  refine y_iald (pc := 70) (v := (gI M 36 (gI M 32 (gI M 21 ((gI M 40 p1) / 4))))) G hM a_36 (by first | exact hi.1 | exact hi.2.2.1 | exact hi.2.2.2.2.1 | exact hi.2.2.2.2.2 | exact hi.2.1 | exact vin_lit (by decide)) rfl dX11_pays_70 ?_
  refine x_i2l (pc := 71) G dX11_pays_71 ?_
  refine x_lmul (pc := 72) G dX11_pays_72 ?_
  refine x_ldc2 (pc := 73) G q_cL_X11_301 dX11_pays_73 ?_
  refine x_ldiv (pc := 76) G dX11_pays_76 (by decide) ?_
  refine x_lstore5 (pc := 77) G dX11_pays_77 (Nat.le_of_ble_eq_true rfl) rfl ?_
  refine x_aload0 (pc := 79) G dX11_pays_79 ?_
  refine y_gA (pc := 80) G g_157 mG_55 dX11_pays_80 ?_
  refine x_iload1 (pc := 83) G dX11_pays_83 ?_
  refine x_aload0 (pc := 84) G dX11_pays_84 ?_
  refine x_iload1 (pc := 85) G dX11_pays_85 ?_
  refine y_cb1 (pc := 86) G (b_isEarly hl hM hi) q_ml_X11_306 h_X11_isEarly rfl ⟨Nat.le_of_ble_eq_true rfl, Nat.le_of_ble_eq_true rfl⟩ (Nat.le_of_ble_eq_true rfl) (Nat.le_refl _) (Nat.le_refl _) dX11_pays_86 (fun c3 => ?_) (fun c3 => ?_)
  · refine x_if_eq (pc := 89) (y := 0) (tgt := 109) G dX11_pays_89 rfl (fun q => absurd q (by decide)) (fun _ => ?_)
    refine x_lload5 (pc := 92) G dX11_pays_92 ?_
    refine x_aload0 (pc := 94) G dX11_pays_94 ?_
    refine y_gA (pc := 95) G g_96 mG_34 dX11_pays_95 ?_
    refine x_iload2 (pc := 98) G dX11_pays_98 ?_
    refine y_iald (pc := 99) (v := (gI M 34 (gI M 21 ((gI M 40 p1) / 4)))) G hM a_34 (by first | exact hi.1 | exact hi.2.2.1 | exact hi.2.2.2.2.1 | exact hi.2.2.2.2.2 | exact hi.2.1 | exact vin_lit (by decide)) rfl dX11_pays_99 ?_
    refine x_i2l (pc := 100) G dX11_pays_100 ?_
    refine x_lmul (pc := 101) G dX11_pays_101 ?_
    refine x_ldc2 (pc := 102) G q_cL_X11_234 dX11_pays_102 ?_
    refine x_ldiv (pc := 105) G dX11_pays_105 (by decide) ?_
    refine x_goto (pc := 106) (tgt := 110) G dX11_pays_106 rfl ?_
    refine y_last (pc := 110) G hM a_55 (by first | exact hi.1 | exact hi.2.2.1 | exact hi.2.2.2.2.1 | exact hi.2.2.2.2.2 | exact hi.2.1 | exact vin_lit (by decide)) dX11_pays_110 ?_
    refine x_aload0 (pc := 111) G dX11_pays_111 ?_
    refine y_gA (pc := 112) G g_154 mG_54 dX11_pays_112 ?_
    refine x_iload1 (pc := 115) G dX11_pays_115 ?_
    refine x_lload5 (pc := 116) G dX11_pays_116 ?_
    refine x_aload0 (pc := 118) G dX11_pays_118 ?_
    refine y_gA (pc := 119) G g_157 mG_55 dX11_pays_119 ?_
    refine x_iload1 (pc := 122) G dX11_pays_122 ?_
    refine y_lald (pc := 123) (v := ((((((((gI M 41 p1).toInt64) * ((gI M 42 p1).toInt64)) + (((((gI M 41 p1).toInt64) * ((gI M 42 p1).toInt64)) * ((gI M 51 p1).toInt64)) / 100)) * ((gI M 36 (gI M 32 (gI M 21 ((gI M 40 p1) / 4)))).toInt64)) / 1000) * ((gI M 34 (gI M 21 ((gI M 40 p1) / 4))).toInt64)) / 100)) G hM a_55 (by first | exact hi.1 | exact hi.2.2.1 | exact hi.2.2.2.2.1 | exact hi.2.2.2.2.2 | exact hi.2.1 | exact vin_lit (by decide)) gJ_rJs dX11_pays_123 ?_
    refine x_lsub (pc := 124) G dX11_pays_124 ?_
    refine y_last (pc := 125) G hM a_54 (by first | exact hi.1 | exact hi.2.2.1 | exact hi.2.2.2.2.1 | exact hi.2.2.2.2.2 | exact hi.2.1 | exact vin_lit (by decide)) dX11_pays_125 ?_
    refine x_aload0 (pc := 126) G dX11_pays_126 ?_
    refine y_gA (pc := 127) G g_7 mG_2 dX11_pays_127 ?_
    refine x_iconst (pc := 130) (v := 1) G dX11_pays_130 ic_1 ?_
    refine x_dup2 (pc := 131) G dX11_pays_131 rfl rfl ?_
    refine y_lald (pc := 132) (v := (gJ M 2 1)) G hM a_2 vk9_1 ((gJ_rJn rfl).trans (gJ_rJn rfl)) dX11_pays_132 ?_
    refine x_aload0 (pc := 133) G dX11_pays_133 ?_
    refine y_gA (pc := 134) G g_136 mG_48 dX11_pays_134 ?_
    refine x_iload1 (pc := 137) G dX11_pays_137 ?_
    refine y_lald (pc := 138) (v := (gJ M 48 p1)) G hM a_48 (by first | exact hi.1 | exact hi.2.2.1 | exact hi.2.2.2.2.1 | exact hi.2.2.2.2.2 | exact hi.2.1 | exact vin_lit (by decide)) ((gJ_rJn rfl).trans (gJ_rJn rfl)) dX11_pays_138 ?_
    refine x_ladd (pc := 139) G dX11_pays_139 ?_
    refine y_last (pc := 140) G hM a_2 vk9_1 dX11_pays_140 ?_
    refine x_aload0 (pc := 141) G dX11_pays_141 ?_
    refine y_gA (pc := 142) G g_7 mG_2 dX11_pays_142 ?_
    refine x_iconst (pc := 145) (v := 2) G dX11_pays_145 ic_2 ?_
    refine x_dup2 (pc := 146) G dX11_pays_146 rfl rfl ?_
    refine y_lald (pc := 147) (v := (gJ M 2 2)) G hM a_2 vk9_2 ((gJ_rJc (by decide)).trans ((gJ_rJn rfl).trans (gJ_rJn rfl))) dX11_pays_147 ?_
    refine x_aload0 (pc := 148) G dX11_pays_148 ?_
    refine y_gA (pc := 149) G g_154 mG_54 dX11_pays_149 ?_
    refine x_iload1 (pc := 152) G dX11_pays_152 ?_
    refine y_lald (pc := 153) (v := (((((((gI M 41 p1).toInt64) * ((gI M 42 p1).toInt64)) + (((((gI M 41 p1).toInt64) * ((gI M 42 p1).toInt64)) * ((gI M 51 p1).toInt64)) / 100)) * ((gI M 36 (gI M 32 (gI M 21 ((gI M 40 p1) / 4)))).toInt64)) / 1000) - ((((((((gI M 41 p1).toInt64) * ((gI M 42 p1).toInt64)) + (((((gI M 41 p1).toInt64) * ((gI M 42 p1).toInt64)) * ((gI M 51 p1).toInt64)) / 100)) * ((gI M 36 (gI M 32 (gI M 21 ((gI M 40 p1) / 4)))).toInt64)) / 1000) * ((gI M 34 (gI M 21 ((gI M 40 p1) / 4))).toInt64)) / 100))) G hM a_54 (by first | exact hi.1 | exact hi.2.2.1 | exact hi.2.2.2.2.1 | exact hi.2.2.2.2.2 | exact hi.2.1 | exact vin_lit (by decide)) ((gJ_rJn rfl).trans gJ_rJs) dX11_pays_153 ?_
    refine x_lsub (pc := 154) G dX11_pays_154 ?_
    refine y_last (pc := 155) G hM a_2 vk9_2 dX11_pays_155 ?_
    refine x_aload0 (pc := 156) G dX11_pays_156 ?_
    refine y_gA (pc := 157) G g_7 mG_2 dX11_pays_157 ?_
    refine x_iconst (pc := 160) (v := 5) G dX11_pays_160 ic_5 ?_
    refine x_dup2 (pc := 161) G dX11_pays_161 rfl rfl ?_
    refine y_lald (pc := 162) (v := (gJ M 2 5)) G hM a_2 vk9_5 ((gJ_rJc (by decide)).trans ((gJ_rJc (by decide)).trans ((gJ_rJn rfl).trans (gJ_rJn rfl)))) dX11_pays_162 ?_
    refine x_aload0 (pc := 163) G dX11_pays_163 ?_
    refine y_gA (pc := 164) G g_157 mG_55 dX11_pays_164 ?_
    refine x_iload1 (pc := 167) G dX11_pays_167 ?_
    refine y_lald (pc := 168) (v := ((((((((gI M 41 p1).toInt64) * ((gI M 42 p1).toInt64)) + (((((gI M 41 p1).toInt64) * ((gI M 42 p1).toInt64)) * ((gI M 51 p1).toInt64)) / 100)) * ((gI M 36 (gI M 32 (gI M 21 ((gI M 40 p1) / 4)))).toInt64)) / 1000) * ((gI M 34 (gI M 21 ((gI M 40 p1) / 4))).toInt64)) / 100)) G hM a_55 (by first | exact hi.1 | exact hi.2.2.1 | exact hi.2.2.2.2.1 | exact hi.2.2.2.2.2 | exact hi.2.1 | exact vin_lit (by decide)) ((gJ_rJn rfl).trans ((gJ_rJn rfl).trans ((gJ_rJn rfl).trans gJ_rJs))) dX11_pays_168 ?_
    refine x_lsub (pc := 169) G dX11_pays_169 ?_
    refine y_last (pc := 170) G hM a_2 vk9_5 dX11_pays_170 ?_
    refine x_aload0 (pc := 171) G dX11_pays_171 ?_
    refine y_gA (pc := 172) G g_7 mG_2 dX11_pays_172 ?_
    refine x_iconst (pc := 175) (v := 4) G dX11_pays_175 ic_4 ?_
    refine x_dup2 (pc := 176) G dX11_pays_176 rfl rfl ?_
    refine y_lald (pc := 177) (v := (gJ M 2 4)) G hM a_2 vk9_4 ((gJ_rJc (by decide)).trans ((gJ_rJc (by decide)).trans ((gJ_rJc (by decide)).trans ((gJ_rJn rfl).trans (gJ_rJn rfl))))) dX11_pays_177 ?_
    refine x_aload0 (pc := 178) G dX11_pays_178 ?_
    refine y_gA (pc := 179) G g_136 mG_48 dX11_pays_179 ?_
    refine x_iload1 (pc := 182) G dX11_pays_182 ?_
    refine y_lald (pc := 183) (v := (gJ M 48 p1)) G hM a_48 (by first | exact hi.1 | exact hi.2.2.1 | exact hi.2.2.2.2.1 | exact hi.2.2.2.2.2 | exact hi.2.1 | exact vin_lit (by decide)) ((gJ_rJn rfl).trans ((gJ_rJn rfl).trans ((gJ_rJn rfl).trans ((gJ_rJn rfl).trans (gJ_rJn rfl))))) dX11_pays_183 ?_
    refine x_aload0 (pc := 184) G dX11_pays_184 ?_
    refine y_gA (pc := 185) G g_154 mG_54 dX11_pays_185 ?_
    refine x_iload1 (pc := 188) G dX11_pays_188 ?_
    refine y_lald (pc := 189) (v := (((((((gI M 41 p1).toInt64) * ((gI M 42 p1).toInt64)) + (((((gI M 41 p1).toInt64) * ((gI M 42 p1).toInt64)) * ((gI M 51 p1).toInt64)) / 100)) * ((gI M 36 (gI M 32 (gI M 21 ((gI M 40 p1) / 4)))).toInt64)) / 1000) - ((((((((gI M 41 p1).toInt64) * ((gI M 42 p1).toInt64)) + (((((gI M 41 p1).toInt64) * ((gI M 42 p1).toInt64)) * ((gI M 51 p1).toInt64)) / 100)) * ((gI M 36 (gI M 32 (gI M 21 ((gI M 40 p1) / 4)))).toInt64)) / 1000) * ((gI M 34 (gI M 21 ((gI M 40 p1) / 4))).toInt64)) / 100))) G hM a_54 (by first | exact hi.1 | exact hi.2.2.1 | exact hi.2.2.2.2.1 | exact hi.2.2.2.2.2 | exact hi.2.1 | exact vin_lit (by decide)) ((gJ_rJn rfl).trans ((gJ_rJn rfl).trans ((gJ_rJn rfl).trans gJ_rJs))) dX11_pays_189 ?_
    refine x_lsub (pc := 190) G dX11_pays_190 ?_
    refine x_aload0 (pc := 191) G dX11_pays_191 ?_
    refine y_gA (pc := 192) G g_157 mG_55 dX11_pays_192 ?_
    refine x_iload1 (pc := 195) G dX11_pays_195 ?_
    refine y_lald (pc := 196) (v := ((((((((gI M 41 p1).toInt64) * ((gI M 42 p1).toInt64)) + (((((gI M 41 p1).toInt64) * ((gI M 42 p1).toInt64)) * ((gI M 51 p1).toInt64)) / 100)) * ((gI M 36 (gI M 32 (gI M 21 ((gI M 40 p1) / 4)))).toInt64)) / 1000) * ((gI M 34 (gI M 21 ((gI M 40 p1) / 4))).toInt64)) / 100)) G hM a_55 (by first | exact hi.1 | exact hi.2.2.1 | exact hi.2.2.2.2.1 | exact hi.2.2.2.2.2 | exact hi.2.1 | exact vin_lit (by decide)) ((gJ_rJn rfl).trans ((gJ_rJn rfl).trans ((gJ_rJn rfl).trans ((gJ_rJn rfl).trans gJ_rJs)))) dX11_pays_196 ?_
    refine x_lsub (pc := 197) G dX11_pays_197 ?_
    refine x_lsub (pc := 198) G dX11_pays_198 ?_
    refine y_last (pc := 199) G hM a_2 vk9_4 dX11_pays_199 ?_
    refine x_aload0 (pc := 200) G dX11_pays_200 ?_
    refine y_gA (pc := 201) G g_124 mG_44 dX11_pays_201 ?_
    refine x_iload1 (pc := 204) G dX11_pays_204 ?_
    refine x_iconst (pc := 205) (v := 2) G dX11_pays_205 ic_2 ?_
    refine y_iast (pc := 206) G hM a_44 (by first | exact hi.1 | exact hi.2.2.1 | exact hi.2.2.2.2.1 | exact hi.2.2.2.2.2 | exact hi.2.1 | exact vin_lit (by decide)) dX11_pays_206 ?_
    exact x_vret (pc := 207) G B rfl dX11_pays_207 ⟨rfl, by rw [f_pays, if_neg c1, if_pos c3]⟩
  refine x_if_eq (pc := 89) (y := 0) (tgt := 109) G dX11_pays_89 rfl (fun _ => ?_) (fun q => absurd q (by decide))
  refine x_lconst (pc := 109) (v := 0) G dX11_pays_109 lc_0 ?_
  refine y_last (pc := 110) G hM a_55 (by first | exact hi.1 | exact hi.2.2.1 | exact hi.2.2.2.2.1 | exact hi.2.2.2.2.2 | exact hi.2.1 | exact vin_lit (by decide)) dX11_pays_110 ?_
  refine x_aload0 (pc := 111) G dX11_pays_111 ?_
  refine y_gA (pc := 112) G g_154 mG_54 dX11_pays_112 ?_
  refine x_iload1 (pc := 115) G dX11_pays_115 ?_
  refine x_lload5 (pc := 116) G dX11_pays_116 ?_
  refine x_aload0 (pc := 118) G dX11_pays_118 ?_
  refine y_gA (pc := 119) G g_157 mG_55 dX11_pays_119 ?_
  refine x_iload1 (pc := 122) G dX11_pays_122 ?_
  refine y_lald (pc := 123) (v := 0) G hM a_55 (by first | exact hi.1 | exact hi.2.2.1 | exact hi.2.2.2.2.1 | exact hi.2.2.2.2.2 | exact hi.2.1 | exact vin_lit (by decide)) gJ_rJs dX11_pays_123 ?_
  refine x_lsub (pc := 124) G dX11_pays_124 ?_
  refine y_last (pc := 125) G hM a_54 (by first | exact hi.1 | exact hi.2.2.1 | exact hi.2.2.2.2.1 | exact hi.2.2.2.2.2 | exact hi.2.1 | exact vin_lit (by decide)) dX11_pays_125 ?_
  refine x_aload0 (pc := 126) G dX11_pays_126 ?_
  refine y_gA (pc := 127) G g_7 mG_2 dX11_pays_127 ?_
  refine x_iconst (pc := 130) (v := 1) G dX11_pays_130 ic_1 ?_
  refine x_dup2 (pc := 131) G dX11_pays_131 rfl rfl ?_
  refine y_lald (pc := 132) (v := (gJ M 2 1)) G hM a_2 vk9_1 ((gJ_rJn rfl).trans (gJ_rJn rfl)) dX11_pays_132 ?_
  refine x_aload0 (pc := 133) G dX11_pays_133 ?_
  refine y_gA (pc := 134) G g_136 mG_48 dX11_pays_134 ?_
  refine x_iload1 (pc := 137) G dX11_pays_137 ?_
  refine y_lald (pc := 138) (v := (gJ M 48 p1)) G hM a_48 (by first | exact hi.1 | exact hi.2.2.1 | exact hi.2.2.2.2.1 | exact hi.2.2.2.2.2 | exact hi.2.1 | exact vin_lit (by decide)) ((gJ_rJn rfl).trans (gJ_rJn rfl)) dX11_pays_138 ?_
  refine x_ladd (pc := 139) G dX11_pays_139 ?_
  refine y_last (pc := 140) G hM a_2 vk9_1 dX11_pays_140 ?_
  refine x_aload0 (pc := 141) G dX11_pays_141 ?_
  refine y_gA (pc := 142) G g_7 mG_2 dX11_pays_142 ?_
  refine x_iconst (pc := 145) (v := 2) G dX11_pays_145 ic_2 ?_
  refine x_dup2 (pc := 146) G dX11_pays_146 rfl rfl ?_
  refine y_lald (pc := 147) (v := (gJ M 2 2)) G hM a_2 vk9_2 ((gJ_rJc (by decide)).trans ((gJ_rJn rfl).trans (gJ_rJn rfl))) dX11_pays_147 ?_
  refine x_aload0 (pc := 148) G dX11_pays_148 ?_
  refine y_gA (pc := 149) G g_154 mG_54 dX11_pays_149 ?_
  refine x_iload1 (pc := 152) G dX11_pays_152 ?_
  refine y_lald (pc := 153) (v := (((((((gI M 41 p1).toInt64) * ((gI M 42 p1).toInt64)) + (((((gI M 41 p1).toInt64) * ((gI M 42 p1).toInt64)) * ((gI M 51 p1).toInt64)) / 100)) * ((gI M 36 (gI M 32 (gI M 21 ((gI M 40 p1) / 4)))).toInt64)) / 1000) - 0)) G hM a_54 (by first | exact hi.1 | exact hi.2.2.1 | exact hi.2.2.2.2.1 | exact hi.2.2.2.2.2 | exact hi.2.1 | exact vin_lit (by decide)) ((gJ_rJn rfl).trans gJ_rJs) dX11_pays_153 ?_
  refine x_lsub (pc := 154) G dX11_pays_154 ?_
  refine y_last (pc := 155) G hM a_2 vk9_2 dX11_pays_155 ?_
  refine x_aload0 (pc := 156) G dX11_pays_156 ?_
  refine y_gA (pc := 157) G g_7 mG_2 dX11_pays_157 ?_
  refine x_iconst (pc := 160) (v := 5) G dX11_pays_160 ic_5 ?_
  refine x_dup2 (pc := 161) G dX11_pays_161 rfl rfl ?_
  refine y_lald (pc := 162) (v := (gJ M 2 5)) G hM a_2 vk9_5 ((gJ_rJc (by decide)).trans ((gJ_rJc (by decide)).trans ((gJ_rJn rfl).trans (gJ_rJn rfl)))) dX11_pays_162 ?_
  refine x_aload0 (pc := 163) G dX11_pays_163 ?_
  refine y_gA (pc := 164) G g_157 mG_55 dX11_pays_164 ?_
  refine x_iload1 (pc := 167) G dX11_pays_167 ?_
  refine y_lald (pc := 168) (v := 0) G hM a_55 (by first | exact hi.1 | exact hi.2.2.1 | exact hi.2.2.2.2.1 | exact hi.2.2.2.2.2 | exact hi.2.1 | exact vin_lit (by decide)) ((gJ_rJn rfl).trans ((gJ_rJn rfl).trans ((gJ_rJn rfl).trans gJ_rJs))) dX11_pays_168 ?_
  refine x_lsub (pc := 169) G dX11_pays_169 ?_
  refine y_last (pc := 170) G hM a_2 vk9_5 dX11_pays_170 ?_
  refine x_aload0 (pc := 171) G dX11_pays_171 ?_
  refine y_gA (pc := 172) G g_7 mG_2 dX11_pays_172 ?_
  refine x_iconst (pc := 175) (v := 4) G dX11_pays_175 ic_4 ?_
  refine x_dup2 (pc := 176) G dX11_pays_176 rfl rfl ?_
  refine y_lald (pc := 177) (v := (gJ M 2 4)) G hM a_2 vk9_4 ((gJ_rJc (by decide)).trans ((gJ_rJc (by decide)).trans ((gJ_rJc (by decide)).trans ((gJ_rJn rfl).trans (gJ_rJn rfl))))) dX11_pays_177 ?_
  refine x_aload0 (pc := 178) G dX11_pays_178 ?_
  refine y_gA (pc := 179) G g_136 mG_48 dX11_pays_179 ?_
  refine x_iload1 (pc := 182) G dX11_pays_182 ?_
  refine y_lald (pc := 183) (v := (gJ M 48 p1)) G hM a_48 (by first | exact hi.1 | exact hi.2.2.1 | exact hi.2.2.2.2.1 | exact hi.2.2.2.2.2 | exact hi.2.1 | exact vin_lit (by decide)) ((gJ_rJn rfl).trans ((gJ_rJn rfl).trans ((gJ_rJn rfl).trans ((gJ_rJn rfl).trans (gJ_rJn rfl))))) dX11_pays_183 ?_
  refine x_aload0 (pc := 184) G dX11_pays_184 ?_
  refine y_gA (pc := 185) G g_154 mG_54 dX11_pays_185 ?_
  refine x_iload1 (pc := 188) G dX11_pays_188 ?_
  refine y_lald (pc := 189) (v := (((((((gI M 41 p1).toInt64) * ((gI M 42 p1).toInt64)) + (((((gI M 41 p1).toInt64) * ((gI M 42 p1).toInt64)) * ((gI M 51 p1).toInt64)) / 100)) * ((gI M 36 (gI M 32 (gI M 21 ((gI M 40 p1) / 4)))).toInt64)) / 1000) - 0)) G hM a_54 (by first | exact hi.1 | exact hi.2.2.1 | exact hi.2.2.2.2.1 | exact hi.2.2.2.2.2 | exact hi.2.1 | exact vin_lit (by decide)) ((gJ_rJn rfl).trans ((gJ_rJn rfl).trans ((gJ_rJn rfl).trans gJ_rJs))) dX11_pays_189 ?_
  refine x_lsub (pc := 190) G dX11_pays_190 ?_
  refine x_aload0 (pc := 191) G dX11_pays_191 ?_
  refine y_gA (pc := 192) G g_157 mG_55 dX11_pays_192 ?_
  refine x_iload1 (pc := 195) G dX11_pays_195 ?_
  refine y_lald (pc := 196) (v := 0) G hM a_55 (by first | exact hi.1 | exact hi.2.2.1 | exact hi.2.2.2.2.1 | exact hi.2.2.2.2.2 | exact hi.2.1 | exact vin_lit (by decide)) ((gJ_rJn rfl).trans ((gJ_rJn rfl).trans ((gJ_rJn rfl).trans ((gJ_rJn rfl).trans gJ_rJs)))) dX11_pays_196 ?_
  refine x_lsub (pc := 197) G dX11_pays_197 ?_
  refine x_lsub (pc := 198) G dX11_pays_198 ?_
  refine y_last (pc := 199) G hM a_2 vk9_4 dX11_pays_199 ?_
  refine x_aload0 (pc := 200) G dX11_pays_200 ?_
  refine y_gA (pc := 201) G g_124 mG_44 dX11_pays_201 ?_
  refine x_iload1 (pc := 204) G dX11_pays_204 ?_
  refine x_iconst (pc := 205) (v := 2) G dX11_pays_205 ic_2 ?_
  refine y_iast (pc := 206) G hM a_44 (by first | exact hi.1 | exact hi.2.2.1 | exact hi.2.2.2.2.1 | exact hi.2.2.2.2.2 | exact hi.2.1 | exact vin_lit (by decide)) dX11_pays_206 ?_
  exact x_vret (pc := 207) G B rfl dX11_pays_207 ⟨rfl, by rw [f_pays, if_neg c1, if_neg c3]⟩
theorem dX11_bounce_0 : decode cX11_bounce 0 = .ok (.aload_n 0, 1) := by decide +kernel
theorem dX11_bounce_1 : decode cX11_bounce 1 = .ok (.iload_n 1, 1) := by decide +kernel
theorem dX11_bounce_2 : decode cX11_bounce 2 = .ok (.invokevirtual 303, 3) := by decide +kernel
theorem dX11_bounce_5 : decode cX11_bounce 5 = .ok (.istore_n 2, 1) := by decide +kernel
theorem dX11_bounce_6 : decode cX11_bounce 6 = .ok (.aload_n 0, 1) := by decide +kernel
theorem dX11_bounce_7 : decode cX11_bounce 7 = .ok (.iload_n 2, 1) := by decide +kernel
theorem dX11_bounce_8 : decode cX11_bounce 8 = .ok (.ifCond .ne 7, 3) := by decide +kernel
theorem dX11_bounce_11 : decode cX11_bounce 11 = .ok (.iconst 1, 1) := by decide +kernel
theorem dX11_bounce_12 : decode cX11_bounce 12 = .ok (.goto 18, 3) := by decide +kernel
theorem dX11_bounce_15 : decode cX11_bounce 15 = .ok (.aload_n 0, 1) := by decide +kernel
theorem dX11_bounce_16 : decode cX11_bounce 16 = .ok (.getfield 124, 3) := by decide +kernel
theorem dX11_bounce_19 : decode cX11_bounce 19 = .ok (.iload_n 1, 1) := by decide +kernel
theorem dX11_bounce_20 : decode cX11_bounce 20 = .ok (.iaload, 1) := by decide +kernel
theorem dX11_bounce_21 : decode cX11_bounce 21 = .ok (.iconst 2, 1) := by decide +kernel
theorem dX11_bounce_22 : decode cX11_bounce 22 = .ok (.if_icmp .eq 7, 3) := by decide +kernel
theorem dX11_bounce_25 : decode cX11_bounce 25 = .ok (.iconst 2, 1) := by decide +kernel
theorem dX11_bounce_26 : decode cX11_bounce 26 = .ok (.goto 4, 3) := by decide +kernel
theorem dX11_bounce_29 : decode cX11_bounce 29 = .ok (.iconst 0, 1) := by decide +kernel
theorem dX11_bounce_30 : decode cX11_bounce 30 = .ok (.invokevirtual 210, 3) := by decide +kernel
theorem dX11_bounce_33 : decode cX11_bounce 33 = .ok (.ifCond .ne 5, 3) := by decide +kernel
theorem dX11_bounce_36 : decode cX11_bounce 36 = .ok (.lconst 0, 1) := by decide +kernel
theorem dX11_bounce_37 : decode cX11_bounce 37 = .ok (.lreturn, 1) := by decide +kernel
theorem dX11_bounce_38 : decode cX11_bounce 38 = .ok (.aload_n 0, 1) := by decide +kernel
theorem dX11_bounce_39 : decode cX11_bounce 39 = .ok (.getfield 136, 3) := by decide +kernel
theorem dX11_bounce_42 : decode cX11_bounce 42 = .ok (.iload_n 1, 1) := by decide +kernel
theorem dX11_bounce_43 : decode cX11_bounce 43 = .ok (.aload_n 0, 1) := by decide +kernel
theorem dX11_bounce_44 : decode cX11_bounce 44 = .ok (.getfield 154, 3) := by decide +kernel
theorem dX11_bounce_47 : decode cX11_bounce 47 = .ok (.iload_n 1, 1) := by decide +kernel
theorem dX11_bounce_48 : decode cX11_bounce 48 = .ok (.laload, 1) := by decide +kernel
theorem dX11_bounce_49 : decode cX11_bounce 49 = .ok (.aload_n 0, 1) := by decide +kernel
theorem dX11_bounce_50 : decode cX11_bounce 50 = .ok (.getfield 157, 3) := by decide +kernel
theorem dX11_bounce_53 : decode cX11_bounce 53 = .ok (.iload_n 1, 1) := by decide +kernel
theorem dX11_bounce_54 : decode cX11_bounce 54 = .ok (.laload, 1) := by decide +kernel
theorem dX11_bounce_55 : decode cX11_bounce 55 = .ok (.ladd, 1) := by decide +kernel
theorem dX11_bounce_56 : decode cX11_bounce 56 = .ok (.lastore, 1) := by decide +kernel
theorem dX11_bounce_57 : decode cX11_bounce 57 = .ok (.aload_n 0, 1) := by decide +kernel
theorem dX11_bounce_58 : decode cX11_bounce 58 = .ok (.getfield 151, 3) := by decide +kernel
theorem dX11_bounce_61 : decode cX11_bounce 61 = .ok (.iload_n 1, 1) := by decide +kernel
theorem dX11_bounce_62 : decode cX11_bounce 62 = .ok (.iconst 1, 1) := by decide +kernel
theorem dX11_bounce_63 : decode cX11_bounce 63 = .ok (.bastore, 1) := by decide +kernel
theorem dX11_bounce_64 : decode cX11_bounce 64 = .ok (.aload_n 0, 1) := by decide +kernel
theorem dX11_bounce_65 : decode cX11_bounce 65 = .ok (.getfield 124, 3) := by decide +kernel
theorem dX11_bounce_68 : decode cX11_bounce 68 = .ok (.iload_n 1, 1) := by decide +kernel
theorem dX11_bounce_69 : decode cX11_bounce 69 = .ok (.iconst 1, 1) := by decide +kernel
theorem dX11_bounce_70 : decode cX11_bounce 70 = .ok (.iastore, 1) := by decide +kernel
theorem dX11_bounce_71 : decode cX11_bounce 71 = .ok (.aload_n 0, 1) := by decide +kernel
theorem dX11_bounce_72 : decode cX11_bounce 72 = .ok (.getfield 7, 3) := by decide +kernel
theorem dX11_bounce_75 : decode cX11_bounce 75 = .ok (.iconst 2, 1) := by decide +kernel
theorem dX11_bounce_76 : decode cX11_bounce 76 = .ok (.dup2, 1) := by decide +kernel
theorem dX11_bounce_77 : decode cX11_bounce 77 = .ok (.laload, 1) := by decide +kernel
theorem dX11_bounce_78 : decode cX11_bounce 78 = .ok (.aload_n 0, 1) := by decide +kernel
theorem dX11_bounce_79 : decode cX11_bounce 79 = .ok (.getfield 154, 3) := by decide +kernel
theorem dX11_bounce_82 : decode cX11_bounce 82 = .ok (.iload_n 1, 1) := by decide +kernel
theorem dX11_bounce_83 : decode cX11_bounce 83 = .ok (.laload, 1) := by decide +kernel
theorem dX11_bounce_84 : decode cX11_bounce 84 = .ok (.ladd, 1) := by decide +kernel
theorem dX11_bounce_85 : decode cX11_bounce 85 = .ok (.lastore, 1) := by decide +kernel
theorem dX11_bounce_86 : decode cX11_bounce 86 = .ok (.aload_n 0, 1) := by decide +kernel
theorem dX11_bounce_87 : decode cX11_bounce 87 = .ok (.getfield 7, 3) := by decide +kernel
theorem dX11_bounce_90 : decode cX11_bounce 90 = .ok (.iconst 5, 1) := by decide +kernel
theorem dX11_bounce_91 : decode cX11_bounce 91 = .ok (.dup2, 1) := by decide +kernel
theorem dX11_bounce_92 : decode cX11_bounce 92 = .ok (.laload, 1) := by decide +kernel
theorem dX11_bounce_93 : decode cX11_bounce 93 = .ok (.aload_n 0, 1) := by decide +kernel
theorem dX11_bounce_94 : decode cX11_bounce 94 = .ok (.getfield 157, 3) := by decide +kernel
theorem dX11_bounce_97 : decode cX11_bounce 97 = .ok (.iload_n 1, 1) := by decide +kernel
theorem dX11_bounce_98 : decode cX11_bounce 98 = .ok (.laload, 1) := by decide +kernel
theorem dX11_bounce_99 : decode cX11_bounce 99 = .ok (.ladd, 1) := by decide +kernel
theorem dX11_bounce_100 : decode cX11_bounce 100 = .ok (.lastore, 1) := by decide +kernel
theorem dX11_bounce_101 : decode cX11_bounce 101 = .ok (.aload_n 0, 1) := by decide +kernel
theorem dX11_bounce_102 : decode cX11_bounce 102 = .ok (.getfield 7, 3) := by decide +kernel
theorem dX11_bounce_105 : decode cX11_bounce 105 = .ok (.iconst 1, 1) := by decide +kernel
theorem dX11_bounce_106 : decode cX11_bounce 106 = .ok (.dup2, 1) := by decide +kernel
theorem dX11_bounce_107 : decode cX11_bounce 107 = .ok (.laload, 1) := by decide +kernel
theorem dX11_bounce_108 : decode cX11_bounce 108 = .ok (.aload_n 0, 1) := by decide +kernel
theorem dX11_bounce_109 : decode cX11_bounce 109 = .ok (.getfield 136, 3) := by decide +kernel
theorem dX11_bounce_112 : decode cX11_bounce 112 = .ok (.iload_n 1, 1) := by decide +kernel
theorem dX11_bounce_113 : decode cX11_bounce 113 = .ok (.laload, 1) := by decide +kernel
theorem dX11_bounce_114 : decode cX11_bounce 114 = .ok (.lsub, 1) := by decide +kernel
theorem dX11_bounce_115 : decode cX11_bounce 115 = .ok (.lastore, 1) := by decide +kernel
theorem dX11_bounce_116 : decode cX11_bounce 116 = .ok (.aload_n 0, 1) := by decide +kernel
theorem dX11_bounce_117 : decode cX11_bounce 117 = .ok (.getfield 154, 3) := by decide +kernel
theorem dX11_bounce_120 : decode cX11_bounce 120 = .ok (.iload_n 1, 1) := by decide +kernel
theorem dX11_bounce_121 : decode cX11_bounce 121 = .ok (.laload, 1) := by decide +kernel
theorem dX11_bounce_122 : decode cX11_bounce 122 = .ok (.lreturn, 1) := by decide +kernel
def f_bounce (p1 : Int32) (M : MS) : Int64 × MS :=
    if P_isInvoice p1 M then
      if (gI M 44 p1) = 2 then
        ((gJ M 54 p1), (rJ (rJ (rJ (rI (rI (rJ (sI M 0 0) 48 p1 ((gJ M 54 p1) + (gJ M 55 p1))) 53 p1 1) 44 p1 1) 2 2 ((gJ M 2 2) + (gJ M 54 p1))) 2 5 ((gJ M 2 5) + (gJ M 55 p1))) 2 1 ((gJ M 2 1) - ((gJ M 54 p1) + (gJ M 55 p1)))))
      else
      (0, (sI M 0 2))
    else
    (0, (sI M 0 1))
abbrev rm_X11_bounce : Room := { frames := 2, cells := 0, slots := 0, locals := 43 }
set_option maxRecDepth 100000 in
set_option maxHeartbeats 4000000 in
theorem c_bounce {l : Launch} {k : KC} {mo : Nat} {ad : Nat → Nat} (hl : l.stackTraces = false) (hM : HM mo ad) {M : MS} {p1 : Int32} (h39 : LE (mI M 39) 60) : CM l k mo ad yX11_bounce (.code yX11_bounce cX11_bounce 3 (some .long)) rm_X11_bounce [.int p1] M (some (.long (f_bounce p1 M).1)) (f_bounce p1 M).2 := by
  refine MC.of 1 hl (by decide) (Nat.le_of_ble_eq_true rfl) ?_
  intro p e s m args below meth c A Q G B _ _
  show Wx p l e rm_X11_bounce s m args below meth c k A 3 Q 0 0 0 [some (.ref mo), some (.int p1), none] [] (mW k mo ad M)
  refine x_aload0 (pc := 0) G dX11_bounce_0 ?_
  refine x_iload1 (pc := 1) G dX11_bounce_1 ?_
  refine y_cb1 (pc := 2) G (b_isInvoice hl hM ) q_ml_X11_303 h_X11_isInvoice rfl ⟨Nat.le_of_ble_eq_true rfl, Nat.le_of_ble_eq_true rfl⟩ (Nat.le_of_ble_eq_true rfl) (Nat.le_refl _) (Nat.le_refl _) dX11_bounce_2 (fun c1 => ?_) (fun c1 => ?_)
  · refine x_istore2 (pc := 5) G dX11_bounce_5 (Nat.le_of_ble_eq_true rfl) rfl ?_
    refine x_aload0 (pc := 6) G dX11_bounce_6 ?_
    refine x_iload2 (pc := 7) G dX11_bounce_7 ?_
    refine x_if_ne (pc := 8) (y := 0) (tgt := 15) G dX11_bounce_8 rfl (fun _ => ?_) (fun q => absurd q (by decide))
    refine x_aload0 (pc := 15) G dX11_bounce_15 ?_
    refine y_gA (pc := 16) G g_124 mG_44 dX11_bounce_16 ?_
    refine x_iload1 (pc := 19) G dX11_bounce_19 ?_
    refine y_iald (pc := 20) (v := (gI M 44 p1)) G hM a_44 (by first | exact vin_lt h39 (by decide) (by assumption) | exact vin_lit (by decide)) rfl dX11_bounce_20 ?_
    refine x_iconst (pc := 21) (v := 2) G dX11_bounce_21 ic_2 ?_
    refine x_icmp_eq (pc := 22) (tgt := 29) G dX11_bounce_22 rfl (fun c2 => ?_) (fun c2 => ?_)
    · refine x_iconst (pc := 29) (v := 0) G dX11_bounce_29 ic_0 ?_
      refine y_c1 (pc := 30) G (c_holds0 hl hM) q_ml_X11_210 h_X11_holds rfl ⟨Nat.le_of_ble_eq_true rfl, Nat.le_of_ble_eq_true rfl⟩ (Nat.le_of_ble_eq_true rfl) (Nat.le_refl _) (Nat.le_refl _) dX11_bounce_30 ?_
      refine x_if_ne (pc := 33) (y := 0) (tgt := 38) G dX11_bounce_33 rfl (fun _ => ?_) (fun q => absurd q (by decide))
      refine x_aload0 (pc := 38) G dX11_bounce_38 ?_
      refine y_gA (pc := 39) G g_136 mG_48 dX11_bounce_39 ?_
      refine x_iload1 (pc := 42) G dX11_bounce_42 ?_
      refine x_aload0 (pc := 43) G dX11_bounce_43 ?_
      refine y_gA (pc := 44) G g_154 mG_54 dX11_bounce_44 ?_
      refine x_iload1 (pc := 47) G dX11_bounce_47 ?_
      refine y_lald (pc := 48) (v := (gJ M 54 p1)) G hM a_54 (by first | exact vin_lt h39 (by decide) (by assumption) | exact vin_lit (by decide)) gJ_sI dX11_bounce_48 ?_
      refine x_aload0 (pc := 49) G dX11_bounce_49 ?_
      refine y_gA (pc := 50) G g_157 mG_55 dX11_bounce_50 ?_
      refine x_iload1 (pc := 53) G dX11_bounce_53 ?_
      refine y_lald (pc := 54) (v := (gJ M 55 p1)) G hM a_55 (by first | exact vin_lt h39 (by decide) (by assumption) | exact vin_lit (by decide)) gJ_sI dX11_bounce_54 ?_
      refine x_ladd (pc := 55) G dX11_bounce_55 ?_
      refine y_last (pc := 56) G hM a_48 (by first | exact vin_lt h39 (by decide) (by assumption) | exact vin_lit (by decide)) dX11_bounce_56 ?_
      refine x_aload0 (pc := 57) G dX11_bounce_57 ?_
      refine y_gA (pc := 58) G g_151 mG_53 dX11_bounce_58 ?_
      refine x_iload1 (pc := 61) G dX11_bounce_61 ?_
      refine x_iconst (pc := 62) (v := 1) G dX11_bounce_62 ic_1 ?_
      refine y_zast (pc := 63) G hM a_53 (by first | exact vin_lt h39 (by decide) (by assumption) | exact vin_lit (by decide)) (by first | decide | assumption) dX11_bounce_63 ?_
      refine x_aload0 (pc := 64) G dX11_bounce_64 ?_
      refine y_gA (pc := 65) G g_124 mG_44 dX11_bounce_65 ?_
      refine x_iload1 (pc := 68) G dX11_bounce_68 ?_
      refine x_iconst (pc := 69) (v := 1) G dX11_bounce_69 ic_1 ?_
      refine y_iast (pc := 70) G hM a_44 (by first | exact vin_lt h39 (by decide) (by assumption) | exact vin_lit (by decide)) dX11_bounce_70 ?_
      refine x_aload0 (pc := 71) G dX11_bounce_71 ?_
      refine y_gA (pc := 72) G g_7 mG_2 dX11_bounce_72 ?_
      refine x_iconst (pc := 75) (v := 2) G dX11_bounce_75 ic_2 ?_
      refine x_dup2 (pc := 76) G dX11_bounce_76 rfl rfl ?_
      refine y_lald (pc := 77) (v := (gJ M 2 2)) G hM a_2 vk9_2 (gJ_rI.trans (gJ_rI.trans ((gJ_rJn rfl).trans gJ_sI))) dX11_bounce_77 ?_
      refine x_aload0 (pc := 78) G dX11_bounce_78 ?_
      refine y_gA (pc := 79) G g_154 mG_54 dX11_bounce_79 ?_
      refine x_iload1 (pc := 82) G dX11_bounce_82 ?_
      refine y_lald (pc := 83) (v := (gJ M 54 p1)) G hM a_54 (by first | exact vin_lt h39 (by decide) (by assumption) | exact vin_lit (by decide)) (gJ_rI.trans (gJ_rI.trans ((gJ_rJn rfl).trans gJ_sI))) dX11_bounce_83 ?_
      refine x_ladd (pc := 84) G dX11_bounce_84 ?_
      refine y_last (pc := 85) G hM a_2 vk9_2 dX11_bounce_85 ?_
      refine x_aload0 (pc := 86) G dX11_bounce_86 ?_
      refine y_gA (pc := 87) G g_7 mG_2 dX11_bounce_87 ?_
      refine x_iconst (pc := 90) (v := 5) G dX11_bounce_90 ic_5 ?_
      refine x_dup2 (pc := 91) G dX11_bounce_91 rfl rfl ?_
      refine y_lald (pc := 92) (v := (gJ M 2 5)) G hM a_2 vk9_5 ((gJ_rJc (by decide)).trans (gJ_rI.trans (gJ_rI.trans ((gJ_rJn rfl).trans gJ_sI)))) dX11_bounce_92 ?_
      refine x_aload0 (pc := 93) G dX11_bounce_93 ?_
      refine y_gA (pc := 94) G g_157 mG_55 dX11_bounce_94 ?_
      refine x_iload1 (pc := 97) G dX11_bounce_97 ?_
      refine y_lald (pc := 98) (v := (gJ M 55 p1)) G hM a_55 (by first | exact vin_lt h39 (by decide) (by assumption) | exact vin_lit (by decide)) ((gJ_rJn rfl).trans (gJ_rI.trans (gJ_rI.trans ((gJ_rJn rfl).trans gJ_sI)))) dX11_bounce_98 ?_
      refine x_ladd (pc := 99) G dX11_bounce_99 ?_
      refine y_last (pc := 100) G hM a_2 vk9_5 dX11_bounce_100 ?_
      refine x_aload0 (pc := 101) G dX11_bounce_101 ?_
      refine y_gA (pc := 102) G g_7 mG_2 dX11_bounce_102 ?_
      refine x_iconst (pc := 105) (v := 1) G dX11_bounce_105 ic_1 ?_
      refine x_dup2 (pc := 106) G dX11_bounce_106 rfl rfl ?_
      refine y_lald (pc := 107) (v := (gJ M 2 1)) G hM a_2 vk9_1 ((gJ_rJc (by decide)).trans ((gJ_rJc (by decide)).trans (gJ_rI.trans (gJ_rI.trans ((gJ_rJn rfl).trans gJ_sI))))) dX11_bounce_107 ?_
      refine x_aload0 (pc := 108) G dX11_bounce_108 ?_
      refine y_gA (pc := 109) G g_136 mG_48 dX11_bounce_109 ?_
      refine x_iload1 (pc := 112) G dX11_bounce_112 ?_
      refine y_lald (pc := 113) (v := ((gJ M 54 p1) + (gJ M 55 p1))) G hM a_48 (by first | exact vin_lt h39 (by decide) (by assumption) | exact vin_lit (by decide)) ((gJ_rJn rfl).trans ((gJ_rJn rfl).trans (gJ_rI.trans (gJ_rI.trans gJ_rJs)))) dX11_bounce_113 ?_
      refine x_lsub (pc := 114) G dX11_bounce_114 ?_
      refine y_last (pc := 115) G hM a_2 vk9_1 dX11_bounce_115 ?_
      refine x_aload0 (pc := 116) G dX11_bounce_116 ?_
      refine y_gA (pc := 117) G g_154 mG_54 dX11_bounce_117 ?_
      refine x_iload1 (pc := 120) G dX11_bounce_120 ?_
      refine y_lald (pc := 121) (v := (gJ M 54 p1)) G hM a_54 (by first | exact vin_lt h39 (by decide) (by assumption) | exact vin_lit (by decide)) ((gJ_rJn rfl).trans ((gJ_rJn rfl).trans ((gJ_rJn rfl).trans (gJ_rI.trans (gJ_rI.trans ((gJ_rJn rfl).trans gJ_sI)))))) dX11_bounce_121 ?_
      exact x_lret (pc := 122) G B rfl dX11_bounce_122 ⟨by rw [f_bounce, if_pos c1, if_pos c2], by rw [f_bounce, if_pos c1, if_pos c2]⟩
    refine x_iconst (pc := 25) (v := 2) G dX11_bounce_25 ic_2 ?_
    refine x_goto (pc := 26) (tgt := 30) G dX11_bounce_26 rfl ?_
    refine y_c1 (pc := 30) G (c_holdsN hl hM (by decide)) q_ml_X11_210 h_X11_holds rfl ⟨Nat.le_of_ble_eq_true rfl, Nat.le_of_ble_eq_true rfl⟩ (Nat.le_of_ble_eq_true rfl) (Nat.le_refl _) (Nat.le_refl _) dX11_bounce_30 ?_
    refine x_if_ne (pc := 33) (y := 0) (tgt := 38) G dX11_bounce_33 rfl (fun q => absurd q (by decide)) (fun _ => ?_)
    refine x_lconst (pc := 36) (v := 0) G dX11_bounce_36 lc_0 ?_
    exact x_lret (pc := 37) G B rfl dX11_bounce_37 ⟨by rw [f_bounce, if_pos c1, if_neg c2], by rw [f_bounce, if_pos c1, if_neg c2]⟩
  refine x_istore2 (pc := 5) G dX11_bounce_5 (Nat.le_of_ble_eq_true rfl) rfl ?_
  refine x_aload0 (pc := 6) G dX11_bounce_6 ?_
  refine x_iload2 (pc := 7) G dX11_bounce_7 ?_
  refine x_if_ne (pc := 8) (y := 0) (tgt := 15) G dX11_bounce_8 rfl (fun q => absurd q (by decide)) (fun _ => ?_)
  refine x_iconst (pc := 11) (v := 1) G dX11_bounce_11 ic_1 ?_
  refine x_goto (pc := 12) (tgt := 30) G dX11_bounce_12 rfl ?_
  refine y_c1 (pc := 30) G (c_holdsN hl hM (by decide)) q_ml_X11_210 h_X11_holds rfl ⟨Nat.le_of_ble_eq_true rfl, Nat.le_of_ble_eq_true rfl⟩ (Nat.le_of_ble_eq_true rfl) (Nat.le_refl _) (Nat.le_refl _) dX11_bounce_30 ?_
  refine x_if_ne (pc := 33) (y := 0) (tgt := 38) G dX11_bounce_33 rfl (fun q => absurd q (by decide)) (fun _ => ?_)
  refine x_lconst (pc := 36) (v := 0) G dX11_bounce_36 lc_0 ?_
  exact x_lret (pc := 37) G B rfl dX11_bounce_37 ⟨by rw [f_bounce, if_neg c1], by rw [f_bounce, if_neg c1]⟩
theorem dX11_goOn_0 : decode cX11_goOn 0 = .ok (.aload_n 0, 1) := by decide +kernel
theorem dX11_goOn_1 : decode cX11_goOn 1 = .ok (.iload_n 1, 1) := by decide +kernel
theorem dX11_goOn_2 : decode cX11_goOn 2 = .ok (.invokevirtual 303, 3) := by decide +kernel
theorem dX11_goOn_5 : decode cX11_goOn 5 = .ok (.istore_n 2, 1) := by decide +kernel
theorem dX11_goOn_6 : decode cX11_goOn 6 = .ok (.aload_n 0, 1) := by decide +kernel
theorem dX11_goOn_7 : decode cX11_goOn 7 = .ok (.iload_n 2, 1) := by decide +kernel
theorem dX11_goOn_8 : decode cX11_goOn 8 = .ok (.ifCond .ne 7, 3) := by decide +kernel
theorem dX11_goOn_11 : decode cX11_goOn 11 = .ok (.iconst 1, 1) := by decide +kernel
theorem dX11_goOn_12 : decode cX11_goOn 12 = .ok (.goto 17, 3) := by decide +kernel
theorem dX11_goOn_15 : decode cX11_goOn 15 = .ok (.aload_n 0, 1) := by decide +kernel
theorem dX11_goOn_16 : decode cX11_goOn 16 = .ok (.getfield 151, 3) := by decide +kernel
theorem dX11_goOn_19 : decode cX11_goOn 19 = .ok (.iload_n 1, 1) := by decide +kernel
theorem dX11_goOn_20 : decode cX11_goOn 20 = .ok (.baload, 1) := by decide +kernel
theorem dX11_goOn_21 : decode cX11_goOn 21 = .ok (.ifCond .eq 7, 3) := by decide +kernel
theorem dX11_goOn_24 : decode cX11_goOn 24 = .ok (.iconst 0, 1) := by decide +kernel
theorem dX11_goOn_25 : decode cX11_goOn 25 = .ok (.goto 4, 3) := by decide +kernel
theorem dX11_goOn_28 : decode cX11_goOn 28 = .ok (.iconst 2, 1) := by decide +kernel
theorem dX11_goOn_29 : decode cX11_goOn 29 = .ok (.invokevirtual 210, 3) := by decide +kernel
theorem dX11_goOn_32 : decode cX11_goOn 32 = .ok (.ifCond .eq 10, 3) := by decide +kernel
theorem dX11_goOn_35 : decode cX11_goOn 35 = .ok (.aload_n 0, 1) := by decide +kernel
theorem dX11_goOn_36 : decode cX11_goOn 36 = .ok (.getfield 151, 3) := by decide +kernel
theorem dX11_goOn_39 : decode cX11_goOn 39 = .ok (.iload_n 1, 1) := by decide +kernel
theorem dX11_goOn_40 : decode cX11_goOn 40 = .ok (.iconst 0, 1) := by decide +kernel
theorem dX11_goOn_41 : decode cX11_goOn 41 = .ok (.bastore, 1) := by decide +kernel
theorem dX11_goOn_42 : decode cX11_goOn 42 = .ok (.return_, 1) := by decide +kernel
def f_goOn (p1 : Int32) (M : MS) : MS :=
    if P_isInvoice p1 M then
      if (gI M 53 p1) = 0 then
        (sI M 0 2)
      else
      (rI (sI M 0 0) 53 p1 0)
    else
    (sI M 0 1)
abbrev rm_X11_goOn : Room := { frames := 2, cells := 0, slots := 0, locals := 43 }
set_option maxRecDepth 100000 in
set_option maxHeartbeats 4000000 in
theorem c_goOn {l : Launch} {k : KC} {mo : Nat} {ad : Nat → Nat} (hl : l.stackTraces = false) (hM : HM mo ad) {M : MS} {p1 : Int32} (h39 : LE (mI M 39) 60) : CM l k mo ad yX11_goOn (.code yX11_goOn cX11_goOn 3 none) rm_X11_goOn [.int p1] M none (f_goOn p1 M) := by
  refine MC.of 1 hl (by decide) (Nat.le_of_ble_eq_true rfl) ?_
  intro p e s m args below meth c A Q G B _ _
  show Wx p l e rm_X11_goOn s m args below meth c k A 3 Q 0 0 0 [some (.ref mo), some (.int p1), none] [] (mW k mo ad M)
  refine x_aload0 (pc := 0) G dX11_goOn_0 ?_
  refine x_iload1 (pc := 1) G dX11_goOn_1 ?_
  refine y_cb1 (pc := 2) G (b_isInvoice hl hM ) q_ml_X11_303 h_X11_isInvoice rfl ⟨Nat.le_of_ble_eq_true rfl, Nat.le_of_ble_eq_true rfl⟩ (Nat.le_of_ble_eq_true rfl) (Nat.le_refl _) (Nat.le_refl _) dX11_goOn_2 (fun c1 => ?_) (fun c1 => ?_)
  · refine x_istore2 (pc := 5) G dX11_goOn_5 (Nat.le_of_ble_eq_true rfl) rfl ?_
    refine x_aload0 (pc := 6) G dX11_goOn_6 ?_
    refine x_iload2 (pc := 7) G dX11_goOn_7 ?_
    refine x_if_ne (pc := 8) (y := 0) (tgt := 15) G dX11_goOn_8 rfl (fun _ => ?_) (fun q => absurd q (by decide))
    refine x_aload0 (pc := 15) G dX11_goOn_15 ?_
    refine y_gA (pc := 16) G g_151 mG_53 dX11_goOn_16 ?_
    refine x_iload1 (pc := 19) G dX11_goOn_19 ?_
    refine y_zald (pc := 20) (v := (gI M 53 p1)) G hM a_53 (by exact vin_lt h39 (by decide) (by assumption)) rfl dX11_goOn_20 ?_
    refine x_if_eq (pc := 21) (y := 0) (tgt := 28) G dX11_goOn_21 rfl (fun c2 => ?_) (fun c2 => ?_)
    · refine x_iconst (pc := 28) (v := 2) G dX11_goOn_28 ic_2 ?_
      refine y_c1 (pc := 29) G (c_holdsN hl hM (by decide)) q_ml_X11_210 h_X11_holds rfl ⟨Nat.le_of_ble_eq_true rfl, Nat.le_of_ble_eq_true rfl⟩ (Nat.le_of_ble_eq_true rfl) (Nat.le_refl _) (Nat.le_refl _) dX11_goOn_29 ?_
      refine x_if_eq (pc := 32) (y := 0) (tgt := 42) G dX11_goOn_32 rfl (fun _ => ?_) (fun q => absurd q (by decide))
      exact x_vret (pc := 42) G B rfl dX11_goOn_42 ⟨rfl, by rw [f_goOn, if_pos c1, if_pos c2]⟩
    refine x_iconst (pc := 24) (v := 0) G dX11_goOn_24 ic_0 ?_
    refine x_goto (pc := 25) (tgt := 29) G dX11_goOn_25 rfl ?_
    refine y_c1 (pc := 29) G (c_holds0 hl hM) q_ml_X11_210 h_X11_holds rfl ⟨Nat.le_of_ble_eq_true rfl, Nat.le_of_ble_eq_true rfl⟩ (Nat.le_of_ble_eq_true rfl) (Nat.le_refl _) (Nat.le_refl _) dX11_goOn_29 ?_
    refine x_if_eq (pc := 32) (y := 0) (tgt := 42) G dX11_goOn_32 rfl (fun q => absurd q (by decide)) (fun _ => ?_)
    refine x_aload0 (pc := 35) G dX11_goOn_35 ?_
    refine y_gA (pc := 36) G g_151 mG_53 dX11_goOn_36 ?_
    refine x_iload1 (pc := 39) G dX11_goOn_39 ?_
    refine x_iconst (pc := 40) (v := 0) G dX11_goOn_40 ic_0 ?_
    refine y_zast (pc := 41) G hM a_53 (by exact vin_lt h39 (by decide) (by assumption)) (by decide) dX11_goOn_41 ?_
    exact x_vret (pc := 42) G B rfl dX11_goOn_42 ⟨rfl, by rw [f_goOn, if_pos c1, if_neg c2]⟩
  refine x_istore2 (pc := 5) G dX11_goOn_5 (Nat.le_of_ble_eq_true rfl) rfl ?_
  refine x_aload0 (pc := 6) G dX11_goOn_6 ?_
  refine x_iload2 (pc := 7) G dX11_goOn_7 ?_
  refine x_if_ne (pc := 8) (y := 0) (tgt := 15) G dX11_goOn_8 rfl (fun q => absurd q (by decide)) (fun _ => ?_)
  refine x_iconst (pc := 11) (v := 1) G dX11_goOn_11 ic_1 ?_
  refine x_goto (pc := 12) (tgt := 29) G dX11_goOn_12 rfl ?_
  refine y_c1 (pc := 29) G (c_holdsN hl hM (by decide)) q_ml_X11_210 h_X11_holds rfl ⟨Nat.le_of_ble_eq_true rfl, Nat.le_of_ble_eq_true rfl⟩ (Nat.le_of_ble_eq_true rfl) (Nat.le_refl _) (Nat.le_refl _) dX11_goOn_29 ?_
  refine x_if_eq (pc := 32) (y := 0) (tgt := 42) G dX11_goOn_32 rfl (fun _ => ?_) (fun q => absurd q (by decide))
  exact x_vret (pc := 42) G B rfl dX11_goOn_42 ⟨rfl, by rw [f_goOn, if_neg c1]⟩
theorem dX11_place_0 : decode cX11_place 0 = .ok (.aload_n 0, 1) := by decide +kernel
theorem dX11_place_1 : decode cX11_place 1 = .ok (.iload_n 1, 1) := by decide +kernel
theorem dX11_place_2 : decode cX11_place 2 = .ok (.iconst 0, 1) := by decide +kernel
theorem dX11_place_3 : decode cX11_place 3 = .ok (.iconst 3, 1) := by decide +kernel
theorem dX11_place_4 : decode cX11_place 4 = .ok (.invokestatic 181, 3) := by decide +kernel
theorem dX11_place_7 : decode cX11_place 7 = .ok (.ifCond .ne 7, 3) := by decide +kernel
theorem dX11_place_10 : decode cX11_place 10 = .ok (.iconst 1, 1) := by decide +kernel
theorem dX11_place_11 : decode cX11_place 11 = .ok (.goto 19, 3) := by decide +kernel
theorem dX11_place_14 : decode cX11_place 14 = .ok (.iload_n 2, 1) := by decide +kernel
theorem dX11_place_15 : decode cX11_place 15 = .ok (.iconst 0, 1) := by decide +kernel
theorem dX11_place_16 : decode cX11_place 16 = .ok (.ldc_w 312, 3) := by decide +kernel
theorem dX11_place_19 : decode cX11_place 19 = .ok (.invokestatic 181, 3) := by decide +kernel
theorem dX11_place_22 : decode cX11_place 22 = .ok (.ifCond .eq 7, 3) := by decide +kernel
theorem dX11_place_25 : decode cX11_place 25 = .ok (.iconst 0, 1) := by decide +kernel
theorem dX11_place_26 : decode cX11_place 26 = .ok (.goto 4, 3) := by decide +kernel
theorem dX11_place_29 : decode cX11_place 29 = .ok (.iconst 2, 1) := by decide +kernel
theorem dX11_place_30 : decode cX11_place 30 = .ok (.invokevirtual 210, 3) := by decide +kernel
theorem dX11_place_33 : decode cX11_place 33 = .ok (.ifCond .ne 5, 3) := by decide +kernel
theorem dX11_place_36 : decode cX11_place 36 = .ok (.iconst 0, 1) := by decide +kernel
theorem dX11_place_37 : decode cX11_place 37 = .ok (.ireturn, 1) := by decide +kernel
theorem dX11_place_38 : decode cX11_place 38 = .ok (.aload_n 0, 1) := by decide +kernel
theorem dX11_place_39 : decode cX11_place 39 = .ok (.getfield 160, 3) := by decide +kernel
theorem dX11_place_42 : decode cX11_place 42 = .ok (.iload_n 1, 1) := by decide +kernel
theorem dX11_place_43 : decode cX11_place 43 = .ok (.iaload, 1) := by decide +kernel
theorem dX11_place_44 : decode cX11_place 44 = .ok (.istore_n 3, 1) := by decide +kernel
theorem dX11_place_45 : decode cX11_place 45 = .ok (.aload_n 0, 1) := by decide +kernel
theorem dX11_place_46 : decode cX11_place 46 = .ok (.getfield 160, 3) := by decide +kernel
theorem dX11_place_49 : decode cX11_place 49 = .ok (.iload_n 1, 1) := by decide +kernel
theorem dX11_place_50 : decode cX11_place 50 = .ok (.iload_n 2, 1) := by decide +kernel
theorem dX11_place_51 : decode cX11_place 51 = .ok (.iastore, 1) := by decide +kernel
theorem dX11_place_52 : decode cX11_place 52 = .ok (.iload_n 3, 1) := by decide +kernel
theorem dX11_place_53 : decode cX11_place 53 = .ok (.ireturn, 1) := by decide +kernel
def f_place (p1 : Int32) (p2 : Int32) (M : MS) : Int32 × MS :=
    if P_in p1 0 3 then
      if P_in p2 0 50000 then
        ((gI M 56 p1), (rI (sI M 0 0) 56 p1 p2))
      else
      (0, (sI M 0 2))
    else
    (0, (sI M 0 1))
abbrev rm_X11_place : Room := { frames := 1, cells := 0, slots := 0, locals := 22 }
set_option maxRecDepth 100000 in
set_option maxHeartbeats 4000000 in
theorem c_place {l : Launch} {k : KC} {mo : Nat} {ad : Nat → Nat} (hl : l.stackTraces = false) (hM : HM mo ad) {M : MS} {p1 : Int32} {p2 : Int32}  : CM l k mo ad yX11_place (.code yX11_place cX11_place 4 (some .int)) rm_X11_place [.int p1, .int p2] M (some (.int (f_place p1 p2 M).1)) (f_place p1 p2 M).2 := by
  refine MC.of 1 hl (by decide) (Nat.le_of_ble_eq_true rfl) ?_
  intro p e s m args below meth c A Q G B _ _
  show Wx p l e rm_X11_place s m args below meth c k A 4 Q 0 0 0 [some (.ref mo), some (.int p1), some (.int p2), none] [] (mW k mo ad M)
  refine x_aload0 (pc := 0) G dX11_place_0 ?_
  refine x_iload1 (pc := 1) G dX11_place_1 ?_
  refine x_iconst (pc := 2) (v := 0) G dX11_place_2 ic_0 ?_
  refine x_iconst (pc := 3) (v := 3) G dX11_place_3 ic_3 ?_
  refine x_cSb3 (pc := 4) G (b_in hl hM _) q_ml_X11_181 h_X11_in ⟨Nat.le_of_ble_eq_true rfl, Nat.le_of_ble_eq_true rfl⟩ (Nat.le_of_ble_eq_true rfl) (Nat.le_refl _) (Nat.le_refl _) dX11_place_4 (fun c1 => ?_) (fun c1 => ?_)
  · refine x_if_ne (pc := 7) (y := 0) (tgt := 14) G dX11_place_7 rfl (fun _ => ?_) (fun q => absurd q (by decide))
    refine x_iload2 (pc := 14) G dX11_place_14 ?_
    refine x_iconst (pc := 15) (v := 0) G dX11_place_15 ic_0 ?_
    refine x_ldcw (pc := 16) G q_cs_X11_312 dX11_place_16 ?_
    refine x_cSb3 (pc := 19) G (b_in hl hM _) q_ml_X11_181 h_X11_in ⟨Nat.le_of_ble_eq_true rfl, Nat.le_of_ble_eq_true rfl⟩ (Nat.le_of_ble_eq_true rfl) (Nat.le_refl _) (Nat.le_refl _) dX11_place_19 (fun c2 => ?_) (fun c2 => ?_)
    · refine x_if_eq (pc := 22) (y := 0) (tgt := 29) G dX11_place_22 rfl (fun q => absurd q (by decide)) (fun _ => ?_)
      refine x_iconst (pc := 25) (v := 0) G dX11_place_25 ic_0 ?_
      refine x_goto (pc := 26) (tgt := 30) G dX11_place_26 rfl ?_
      refine y_c1 (pc := 30) G (c_holds0 hl hM) q_ml_X11_210 h_X11_holds rfl ⟨Nat.le_of_ble_eq_true rfl, Nat.le_of_ble_eq_true rfl⟩ (Nat.le_of_ble_eq_true rfl) (Nat.le_refl _) (Nat.le_refl _) dX11_place_30 ?_
      refine x_if_ne (pc := 33) (y := 0) (tgt := 38) G dX11_place_33 rfl (fun _ => ?_) (fun q => absurd q (by decide))
      refine x_aload0 (pc := 38) G dX11_place_38 ?_
      refine y_gA (pc := 39) G g_160 mG_56 dX11_place_39 ?_
      refine x_iload1 (pc := 42) G dX11_place_42 ?_
      refine y_iald (pc := 43) (v := (gI M 56 p1)) G hM a_56 (by exact vin_c (c := 3) (N := 3) (by decide) (by decide) (by assumption)) gI_sI dX11_place_43 ?_
      refine x_istore3 (pc := 44) G dX11_place_44 (Nat.le_of_ble_eq_true rfl) rfl ?_
      refine x_aload0 (pc := 45) G dX11_place_45 ?_
      refine y_gA (pc := 46) G g_160 mG_56 dX11_place_46 ?_
      refine x_iload1 (pc := 49) G dX11_place_49 ?_
      refine x_iload2 (pc := 50) G dX11_place_50 ?_
      refine y_iast (pc := 51) G hM a_56 (by exact vin_c (c := 3) (N := 3) (by decide) (by decide) (by assumption)) dX11_place_51 ?_
      refine x_iload3 (pc := 52) G dX11_place_52 ?_
      exact x_iret (pc := 53) G B rfl dX11_place_53 ⟨by rw [f_place, if_pos c1, if_pos c2], by rw [f_place, if_pos c1, if_pos c2]⟩
    refine x_if_eq (pc := 22) (y := 0) (tgt := 29) G dX11_place_22 rfl (fun _ => ?_) (fun q => absurd q (by decide))
    refine x_iconst (pc := 29) (v := 2) G dX11_place_29 ic_2 ?_
    refine y_c1 (pc := 30) G (c_holdsN hl hM (by decide)) q_ml_X11_210 h_X11_holds rfl ⟨Nat.le_of_ble_eq_true rfl, Nat.le_of_ble_eq_true rfl⟩ (Nat.le_of_ble_eq_true rfl) (Nat.le_refl _) (Nat.le_refl _) dX11_place_30 ?_
    refine x_if_ne (pc := 33) (y := 0) (tgt := 38) G dX11_place_33 rfl (fun q => absurd q (by decide)) (fun _ => ?_)
    refine x_iconst (pc := 36) (v := 0) G dX11_place_36 ic_0 ?_
    exact x_iret (pc := 37) G B rfl dX11_place_37 ⟨by rw [f_place, if_pos c1, if_neg c2], by rw [f_place, if_pos c1, if_neg c2]⟩
  refine x_if_ne (pc := 7) (y := 0) (tgt := 14) G dX11_place_7 rfl (fun q => absurd q (by decide)) (fun _ => ?_)
  refine x_iconst (pc := 10) (v := 1) G dX11_place_10 ic_1 ?_
  refine x_goto (pc := 11) (tgt := 30) G dX11_place_11 rfl ?_
  refine y_c1 (pc := 30) G (c_holdsN hl hM (by decide)) q_ml_X11_210 h_X11_holds rfl ⟨Nat.le_of_ble_eq_true rfl, Nat.le_of_ble_eq_true rfl⟩ (Nat.le_of_ble_eq_true rfl) (Nat.le_refl _) (Nat.le_refl _) dX11_place_30 ?_
  refine x_if_ne (pc := 33) (y := 0) (tgt := 38) G dX11_place_33 rfl (fun q => absurd q (by decide)) (fun _ => ?_)
  refine x_iconst (pc := 36) (v := 0) G dX11_place_36 ic_0 ?_
  exact x_iret (pc := 37) G B rfl dX11_place_37 ⟨by rw [f_place, if_neg c1], by rw [f_place, if_neg c1]⟩
theorem dX11_costOf_0 : decode cX11_costOf 0 = .ok (.iload_n 1, 1) := by decide +kernel
theorem dX11_costOf_1 : decode cX11_costOf 1 = .ok (.iconst 1, 1) := by decide +kernel
theorem dX11_costOf_2 : decode cX11_costOf 2 = .ok (.if_icmp .ne 10, 3) := by decide +kernel
theorem dX11_costOf_5 : decode cX11_costOf 5 = .ok (.iload_n 0, 1) := by decide +kernel
theorem dX11_costOf_6 : decode cX11_costOf 6 = .ok (.iconst 2, 1) := by decide +kernel
theorem dX11_costOf_7 : decode cX11_costOf 7 = .ok (.idiv, 1) := by decide +kernel
theorem dX11_costOf_8 : decode cX11_costOf 8 = .ok (.i2l, 1) := by decide +kernel
theorem dX11_costOf_9 : decode cX11_costOf 9 = .ok (.goto 17, 3) := by decide +kernel
theorem dX11_costOf_12 : decode cX11_costOf 12 = .ok (.iload_n 1, 1) := by decide +kernel
theorem dX11_costOf_13 : decode cX11_costOf 13 = .ok (.iconst 2, 1) := by decide +kernel
theorem dX11_costOf_14 : decode cX11_costOf 14 = .ok (.isub, 1) := by decide +kernel
theorem dX11_costOf_15 : decode cX11_costOf 15 = .ok (.i2l, 1) := by decide +kernel
theorem dX11_costOf_16 : decode cX11_costOf 16 = .ok (.iload_n 0, 1) := by decide +kernel
theorem dX11_costOf_17 : decode cX11_costOf 17 = .ok (.i2l, 1) := by decide +kernel
theorem dX11_costOf_18 : decode cX11_costOf 18 = .ok (.lmul, 1) := by decide +kernel
theorem dX11_costOf_19 : decode cX11_costOf 19 = .ok (.iconst 2, 1) := by decide +kernel
theorem dX11_costOf_20 : decode cX11_costOf 20 = .ok (.iload_n 0, 1) := by decide +kernel
theorem dX11_costOf_21 : decode cX11_costOf 21 = .ok (.iconst 2, 1) := by decide +kernel
theorem dX11_costOf_22 : decode cX11_costOf 22 = .ok (.idiv, 1) := by decide +kernel
theorem dX11_costOf_23 : decode cX11_costOf 23 = .ok (.imul, 1) := by decide +kernel
theorem dX11_costOf_24 : decode cX11_costOf 24 = .ok (.i2l, 1) := by decide +kernel
theorem dX11_costOf_25 : decode cX11_costOf 25 = .ok (.ladd, 1) := by decide +kernel
theorem dX11_costOf_26 : decode cX11_costOf 26 = .ok (.lstore 5, 2) := by decide +kernel
theorem dX11_costOf_28 : decode cX11_costOf 28 = .ok (.lload 5, 2) := by decide +kernel
theorem dX11_costOf_30 : decode cX11_costOf 30 = .ok (.iload_n 2, 1) := by decide +kernel
theorem dX11_costOf_31 : decode cX11_costOf 31 = .ok (.i2l, 1) := by decide +kernel
theorem dX11_costOf_32 : decode cX11_costOf 32 = .ok (.iload_n 0, 1) := by decide +kernel
theorem dX11_costOf_33 : decode cX11_costOf 33 = .ok (.bipush 20, 2) := by decide +kernel
theorem dX11_costOf_35 : decode cX11_costOf 35 = .ok (.imul, 1) := by decide +kernel
theorem dX11_costOf_36 : decode cX11_costOf 36 = .ok (.bipush 100, 2) := by decide +kernel
theorem dX11_costOf_38 : decode cX11_costOf 38 = .ok (.idiv, 1) := by decide +kernel
theorem dX11_costOf_39 : decode cX11_costOf 39 = .ok (.i2l, 1) := by decide +kernel
theorem dX11_costOf_40 : decode cX11_costOf 40 = .ok (.lmul, 1) := by decide +kernel
theorem dX11_costOf_41 : decode cX11_costOf 41 = .ok (.iload_n 3, 1) := by decide +kernel
theorem dX11_costOf_42 : decode cX11_costOf 42 = .ok (.i2l, 1) := by decide +kernel
theorem dX11_costOf_43 : decode cX11_costOf 43 = .ok (.iload_n 0, 1) := by decide +kernel
theorem dX11_costOf_44 : decode cX11_costOf 44 = .ok (.bipush 40, 2) := by decide +kernel
theorem dX11_costOf_46 : decode cX11_costOf 46 = .ok (.imul, 1) := by decide +kernel
theorem dX11_costOf_47 : decode cX11_costOf 47 = .ok (.bipush 100, 2) := by decide +kernel
theorem dX11_costOf_49 : decode cX11_costOf 49 = .ok (.idiv, 1) := by decide +kernel
theorem dX11_costOf_50 : decode cX11_costOf 50 = .ok (.i2l, 1) := by decide +kernel
theorem dX11_costOf_51 : decode cX11_costOf 51 = .ok (.lmul, 1) := by decide +kernel
theorem dX11_costOf_52 : decode cX11_costOf 52 = .ok (.ladd, 1) := by decide +kernel
theorem dX11_costOf_53 : decode cX11_costOf 53 = .ok (.lsub, 1) := by decide +kernel
theorem dX11_costOf_54 : decode cX11_costOf 54 = .ok (.lstore 5, 2) := by decide +kernel
theorem dX11_costOf_56 : decode cX11_costOf 56 = .ok (.lload 5, 2) := by decide +kernel
theorem dX11_costOf_58 : decode cX11_costOf 58 = .ok (.lconst 0, 1) := by decide +kernel
theorem dX11_costOf_59 : decode cX11_costOf 59 = .ok (.lcmp, 1) := by decide +kernel
theorem dX11_costOf_60 : decode cX11_costOf 60 = .ok (.ifCond .ge 7, 3) := by decide +kernel
theorem dX11_costOf_63 : decode cX11_costOf 63 = .ok (.lconst 0, 1) := by decide +kernel
theorem dX11_costOf_64 : decode cX11_costOf 64 = .ok (.goto 5, 3) := by decide +kernel
theorem dX11_costOf_67 : decode cX11_costOf 67 = .ok (.lload 5, 2) := by decide +kernel
theorem dX11_costOf_69 : decode cX11_costOf 69 = .ok (.ldc2_w 313, 3) := by decide +kernel
theorem dX11_costOf_72 : decode cX11_costOf 72 = .ok (.iload 4, 2) := by decide +kernel
theorem dX11_costOf_74 : decode cX11_costOf 74 = .ok (.i2l, 1) := by decide +kernel
theorem dX11_costOf_75 : decode cX11_costOf 75 = .ok (.lmul, 1) := by decide +kernel
theorem dX11_costOf_76 : decode cX11_costOf 76 = .ok (.ladd, 1) := by decide +kernel
theorem dX11_costOf_77 : decode cX11_costOf 77 = .ok (.lreturn, 1) := by decide +kernel
def f_costOf (p1 : Int32) (p2 : Int32) (p3 : Int32) (p4 : Int32) (p5 : Int32) : Int64 :=
    if p2 = 1 then
      if 0 ≤ (lg_cmp (((p1 / 2).toInt64) - (((p3.toInt64) * (((p1 * 20) / 100).toInt64)) + ((p4.toInt64) * (((p1 * 40) / 100).toInt64)))) 0) then
        ((((p1 / 2).toInt64) - (((p3.toInt64) * (((p1 * 20) / 100).toInt64)) + ((p4.toInt64) * (((p1 * 40) / 100).toInt64)))) + (30 * (p5.toInt64)))
      else
      (0 + (30 * (p5.toInt64)))
    else
    if 0 ≤ (lg_cmp (((((p2 - 2).toInt64) * (p1.toInt64)) + ((2 * (p1 / 2)).toInt64)) - (((p3.toInt64) * (((p1 * 20) / 100).toInt64)) + ((p4.toInt64) * (((p1 * 40) / 100).toInt64)))) 0) then
      ((((((p2 - 2).toInt64) * (p1.toInt64)) + ((2 * (p1 / 2)).toInt64)) - (((p3.toInt64) * (((p1 * 20) / 100).toInt64)) + ((p4.toInt64) * (((p1 * 40) / 100).toInt64)))) + (30 * (p5.toInt64)))
    else
    (0 + (30 * (p5.toInt64)))
abbrev rm_X11_costOf : Room := { frames := 0, cells := 0, slots := 0, locals := 0 }
set_option maxRecDepth 100000 in
set_option maxHeartbeats 4000000 in
theorem c_costOf {l : Launch} {k : KC} {mo : Nat} {ad : Nat → Nat} (hl : l.stackTraces = false) (hM : HM mo ad) {p1 : Int32} {p2 : Int32} {p3 : Int32} {p4 : Int32} {p5 : Int32}  : CS l k yX11_costOf (.code yX11_costOf cX11_costOf 7 (some .long)) rm_X11_costOf [.int p1, .int p2, .int p3, .int p4, .int p5] (.long (f_costOf p1 p2 p3 p4 p5)) := by
  intro h
  refine MC.of 2 hl (by decide) (Nat.le_of_ble_eq_true rfl) ?_
  intro p e s m args below meth c A Q G B _ _
  show Wx p l e rm_X11_costOf s m args below meth c k A 7 Q 0 0 0 [some (.int p1), some (.int p2), some (.int p3), some (.int p4), some (.int p5), none, none] [] h
  refine x_iload1 (pc := 0) G dX11_costOf_0 ?_
  refine x_iconst (pc := 1) (v := 1) G dX11_costOf_1 ic_1 ?_
  refine x_icmp_ne (pc := 2) (tgt := 12) G dX11_costOf_2 rfl (fun c1 => ?_) (fun c1 => ?_)
  · refine x_iload1 (pc := 12) G dX11_costOf_12 ?_
    refine x_iconst (pc := 13) (v := 2) G dX11_costOf_13 ic_2 ?_
    refine x_isub (pc := 14) G dX11_costOf_14 ?_
    refine x_i2l (pc := 15) G dX11_costOf_15 ?_
    refine x_iload0 (pc := 16) G dX11_costOf_16 ?_
    refine x_i2l (pc := 17) G dX11_costOf_17 ?_
    refine x_lmul (pc := 18) G dX11_costOf_18 ?_
    refine x_iconst (pc := 19) (v := 2) G dX11_costOf_19 ic_2 ?_
    refine x_iload0 (pc := 20) G dX11_costOf_20 ?_
    refine x_iconst (pc := 21) (v := 2) G dX11_costOf_21 ic_2 ?_
    refine x_idiv (pc := 22) G dX11_costOf_22 (by decide) ?_
    refine x_imul (pc := 23) G dX11_costOf_23 ?_
    refine x_i2l (pc := 24) G dX11_costOf_24 ?_
    refine x_ladd (pc := 25) G dX11_costOf_25 ?_
    refine x_lstore5 (pc := 26) G dX11_costOf_26 (Nat.le_of_ble_eq_true rfl) rfl ?_
    refine x_lload5 (pc := 28) G dX11_costOf_28 ?_
    refine x_iload2 (pc := 30) G dX11_costOf_30 ?_
    refine x_i2l (pc := 31) G dX11_costOf_31 ?_
    refine x_iload0 (pc := 32) G dX11_costOf_32 ?_
    refine x_bipush (pc := 33) (v := 20) G dX11_costOf_33 bp_20 ?_
    refine x_imul (pc := 35) G dX11_costOf_35 ?_
    refine x_bipush (pc := 36) (v := 100) G dX11_costOf_36 bp_100 ?_
    refine x_idiv (pc := 38) G dX11_costOf_38 (by decide) ?_
    refine x_i2l (pc := 39) G dX11_costOf_39 ?_
    refine x_lmul (pc := 40) G dX11_costOf_40 ?_
    refine x_iload3 (pc := 41) G dX11_costOf_41 ?_
    refine x_i2l (pc := 42) G dX11_costOf_42 ?_
    refine x_iload0 (pc := 43) G dX11_costOf_43 ?_
    refine x_bipush (pc := 44) (v := 40) G dX11_costOf_44 bp_40 ?_
    refine x_imul (pc := 46) G dX11_costOf_46 ?_
    refine x_bipush (pc := 47) (v := 100) G dX11_costOf_47 bp_100 ?_
    refine x_idiv (pc := 49) G dX11_costOf_49 (by decide) ?_
    refine x_i2l (pc := 50) G dX11_costOf_50 ?_
    refine x_lmul (pc := 51) G dX11_costOf_51 ?_
    refine x_ladd (pc := 52) G dX11_costOf_52 ?_
    refine x_lsub (pc := 53) G dX11_costOf_53 ?_
    refine x_lstore5 (pc := 54) G dX11_costOf_54 (Nat.le_of_ble_eq_true rfl) rfl ?_
    refine x_lload5 (pc := 56) G dX11_costOf_56 ?_
    refine x_lconst (pc := 58) (v := 0) G dX11_costOf_58 lc_0 ?_
    refine x_lcmp (pc := 59) G dX11_costOf_59 ?_
    refine x_if_ge (pc := 60) (y := 0) (tgt := 67) G dX11_costOf_60 rfl (fun c2 => ?_) (fun c2 => ?_)
    · refine x_lload5 (pc := 67) G dX11_costOf_67 ?_
      refine x_ldc2 (pc := 69) G q_cL_X11_313 dX11_costOf_69 ?_
      refine x_iload4 (pc := 72) G dX11_costOf_72 ?_
      refine x_i2l (pc := 74) G dX11_costOf_74 ?_
      refine x_lmul (pc := 75) G dX11_costOf_75 ?_
      refine x_ladd (pc := 76) G dX11_costOf_76 ?_
      exact x_lret (pc := 77) G B rfl dX11_costOf_77 ⟨by rw [f_costOf, if_neg c1, if_pos c2], rfl⟩
    refine x_lconst (pc := 63) (v := 0) G dX11_costOf_63 lc_0 ?_
    refine x_goto (pc := 64) (tgt := 69) G dX11_costOf_64 rfl ?_
    refine x_ldc2 (pc := 69) G q_cL_X11_313 dX11_costOf_69 ?_
    refine x_iload4 (pc := 72) G dX11_costOf_72 ?_
    refine x_i2l (pc := 74) G dX11_costOf_74 ?_
    refine x_lmul (pc := 75) G dX11_costOf_75 ?_
    refine x_ladd (pc := 76) G dX11_costOf_76 ?_
    exact x_lret (pc := 77) G B rfl dX11_costOf_77 ⟨by rw [f_costOf, if_neg c1, if_neg c2], rfl⟩
  refine x_iload0 (pc := 5) G dX11_costOf_5 ?_
  refine x_iconst (pc := 6) (v := 2) G dX11_costOf_6 ic_2 ?_
  refine x_idiv (pc := 7) G dX11_costOf_7 (by decide) ?_
  refine x_i2l (pc := 8) G dX11_costOf_8 ?_
  refine x_goto (pc := 9) (tgt := 26) G dX11_costOf_9 rfl ?_
  refine x_lstore5 (pc := 26) G dX11_costOf_26 (Nat.le_of_ble_eq_true rfl) rfl ?_
  refine x_lload5 (pc := 28) G dX11_costOf_28 ?_
  refine x_iload2 (pc := 30) G dX11_costOf_30 ?_
  refine x_i2l (pc := 31) G dX11_costOf_31 ?_
  refine x_iload0 (pc := 32) G dX11_costOf_32 ?_
  refine x_bipush (pc := 33) (v := 20) G dX11_costOf_33 bp_20 ?_
  refine x_imul (pc := 35) G dX11_costOf_35 ?_
  refine x_bipush (pc := 36) (v := 100) G dX11_costOf_36 bp_100 ?_
  refine x_idiv (pc := 38) G dX11_costOf_38 (by decide) ?_
  refine x_i2l (pc := 39) G dX11_costOf_39 ?_
  refine x_lmul (pc := 40) G dX11_costOf_40 ?_
  refine x_iload3 (pc := 41) G dX11_costOf_41 ?_
  refine x_i2l (pc := 42) G dX11_costOf_42 ?_
  refine x_iload0 (pc := 43) G dX11_costOf_43 ?_
  refine x_bipush (pc := 44) (v := 40) G dX11_costOf_44 bp_40 ?_
  refine x_imul (pc := 46) G dX11_costOf_46 ?_
  refine x_bipush (pc := 47) (v := 100) G dX11_costOf_47 bp_100 ?_
  refine x_idiv (pc := 49) G dX11_costOf_49 (by decide) ?_
  refine x_i2l (pc := 50) G dX11_costOf_50 ?_
  refine x_lmul (pc := 51) G dX11_costOf_51 ?_
  refine x_ladd (pc := 52) G dX11_costOf_52 ?_
  refine x_lsub (pc := 53) G dX11_costOf_53 ?_
  refine x_lstore5 (pc := 54) G dX11_costOf_54 (Nat.le_of_ble_eq_true rfl) rfl ?_
  refine x_lload5 (pc := 56) G dX11_costOf_56 ?_
  refine x_lconst (pc := 58) (v := 0) G dX11_costOf_58 lc_0 ?_
  refine x_lcmp (pc := 59) G dX11_costOf_59 ?_
  refine x_if_ge (pc := 60) (y := 0) (tgt := 67) G dX11_costOf_60 rfl (fun c3 => ?_) (fun c3 => ?_)
  · refine x_lload5 (pc := 67) G dX11_costOf_67 ?_
    refine x_ldc2 (pc := 69) G q_cL_X11_313 dX11_costOf_69 ?_
    refine x_iload4 (pc := 72) G dX11_costOf_72 ?_
    refine x_i2l (pc := 74) G dX11_costOf_74 ?_
    refine x_lmul (pc := 75) G dX11_costOf_75 ?_
    refine x_ladd (pc := 76) G dX11_costOf_76 ?_
    exact x_lret (pc := 77) G B rfl dX11_costOf_77 ⟨by rw [f_costOf, if_pos c1, if_pos c3], rfl⟩
  refine x_lconst (pc := 63) (v := 0) G dX11_costOf_63 lc_0 ?_
  refine x_goto (pc := 64) (tgt := 69) G dX11_costOf_64 rfl ?_
  refine x_ldc2 (pc := 69) G q_cL_X11_313 dX11_costOf_69 ?_
  refine x_iload4 (pc := 72) G dX11_costOf_72 ?_
  refine x_i2l (pc := 74) G dX11_costOf_74 ?_
  refine x_lmul (pc := 75) G dX11_costOf_75 ?_
  refine x_ladd (pc := 76) G dX11_costOf_76 ?_
  exact x_lret (pc := 77) G B rfl dX11_costOf_77 ⟨by rw [f_costOf, if_pos c1, if_neg c3], rfl⟩
theorem dX11_trip_0 : decode cX11_trip 0 = .ok (.aload_n 0, 1) := by decide +kernel
theorem dX11_trip_1 : decode cX11_trip 1 = .ok (.iload_n 1, 1) := by decide +kernel
theorem dX11_trip_2 : decode cX11_trip 2 = .ok (.invokevirtual 206, 3) := by decide +kernel
theorem dX11_trip_5 : decode cX11_trip 5 = .ok (.ifCond .eq 23, 3) := by decide +kernel
theorem dX11_trip_8 : decode cX11_trip 8 = .ok (.iload_n 2, 1) := by decide +kernel
theorem dX11_trip_9 : decode cX11_trip 9 = .ok (.invokestatic 216, 3) := by decide +kernel
theorem dX11_trip_12 : decode cX11_trip 12 = .ok (.ifCond .eq 16, 3) := by decide +kernel
theorem dX11_trip_15 : decode cX11_trip 15 = .ok (.iload_n 3, 1) := by decide +kernel
theorem dX11_trip_16 : decode cX11_trip 16 = .ok (.iconst 0, 1) := by decide +kernel
theorem dX11_trip_17 : decode cX11_trip 17 = .ok (.iconst 3, 1) := by decide +kernel
theorem dX11_trip_18 : decode cX11_trip 18 = .ok (.invokestatic 181, 3) := by decide +kernel
theorem dX11_trip_21 : decode cX11_trip 21 = .ok (.ifCond .eq 7, 3) := by decide +kernel
theorem dX11_trip_24 : decode cX11_trip 24 = .ok (.iconst 1, 1) := by decide +kernel
theorem dX11_trip_25 : decode cX11_trip 25 = .ok (.goto 4, 3) := by decide +kernel
theorem dX11_trip_28 : decode cX11_trip 28 = .ok (.iconst 0, 1) := by decide +kernel
theorem dX11_trip_29 : decode cX11_trip 29 = .ok (.istore 8, 2) := by decide +kernel
theorem dX11_trip_31 : decode cX11_trip 31 = .ok (.iload 8, 2) := by decide +kernel
theorem dX11_trip_33 : decode cX11_trip 33 = .ok (.ifCond .eq 54, 3) := by decide +kernel
theorem dX11_trip_36 : decode cX11_trip 36 = .ok (.iload 4, 2) := by decide +kernel
theorem dX11_trip_38 : decode cX11_trip 38 = .ok (.iconst 1, 1) := by decide +kernel
theorem dX11_trip_39 : decode cX11_trip 39 = .ok (.bipush 30, 2) := by decide +kernel
theorem dX11_trip_41 : decode cX11_trip 41 = .ok (.invokestatic 181, 3) := by decide +kernel
theorem dX11_trip_44 : decode cX11_trip 44 = .ok (.ifCond .eq 43, 3) := by decide +kernel
theorem dX11_trip_47 : decode cX11_trip 47 = .ok (.iload 5, 2) := by decide +kernel
theorem dX11_trip_49 : decode cX11_trip 49 = .ok (.iconst 0, 1) := by decide +kernel
theorem dX11_trip_50 : decode cX11_trip 50 = .ok (.iload 4, 2) := by decide +kernel
theorem dX11_trip_52 : decode cX11_trip 52 = .ok (.invokestatic 181, 3) := by decide +kernel
theorem dX11_trip_55 : decode cX11_trip 55 = .ok (.ifCond .eq 32, 3) := by decide +kernel
theorem dX11_trip_58 : decode cX11_trip 58 = .ok (.iload 6, 2) := by decide +kernel
theorem dX11_trip_60 : decode cX11_trip 60 = .ok (.iconst 0, 1) := by decide +kernel
theorem dX11_trip_61 : decode cX11_trip 61 = .ok (.iconst 2, 1) := by decide +kernel
theorem dX11_trip_62 : decode cX11_trip 62 = .ok (.iload 4, 2) := by decide +kernel
theorem dX11_trip_64 : decode cX11_trip 64 = .ok (.imul, 1) := by decide +kernel
theorem dX11_trip_65 : decode cX11_trip 65 = .ok (.invokestatic 181, 3) := by decide +kernel
theorem dX11_trip_68 : decode cX11_trip 68 = .ok (.ifCond .eq 19, 3) := by decide +kernel
theorem dX11_trip_71 : decode cX11_trip 71 = .ok (.iload 7, 2) := by decide +kernel
theorem dX11_trip_73 : decode cX11_trip 73 = .ok (.iconst 0, 1) := by decide +kernel
theorem dX11_trip_74 : decode cX11_trip 74 = .ok (.sipush 5000, 3) := by decide +kernel
theorem dX11_trip_77 : decode cX11_trip 77 = .ok (.invokestatic 181, 3) := by decide +kernel
theorem dX11_trip_80 : decode cX11_trip 80 = .ok (.ifCond .eq 7, 3) := by decide +kernel
theorem dX11_trip_83 : decode cX11_trip 83 = .ok (.iconst 1, 1) := by decide +kernel
theorem dX11_trip_84 : decode cX11_trip 84 = .ok (.goto 4, 3) := by decide +kernel
theorem dX11_trip_87 : decode cX11_trip 87 = .ok (.iconst 0, 1) := by decide +kernel
theorem dX11_trip_88 : decode cX11_trip 88 = .ok (.istore 9, 2) := by decide +kernel
theorem dX11_trip_90 : decode cX11_trip 90 = .ok (.iload 9, 2) := by decide +kernel
theorem dX11_trip_92 : decode cX11_trip 92 = .ok (.ifCond .eq 23, 3) := by decide +kernel
theorem dX11_trip_95 : decode cX11_trip 95 = .ok (.aload_n 0, 1) := by decide +kernel
theorem dX11_trip_96 : decode cX11_trip 96 = .ok (.getfield 160, 3) := by decide +kernel
theorem dX11_trip_99 : decode cX11_trip 99 = .ok (.iload_n 3, 1) := by decide +kernel
theorem dX11_trip_100 : decode cX11_trip 100 = .ok (.iaload, 1) := by decide +kernel
theorem dX11_trip_101 : decode cX11_trip 101 = .ok (.iload 4, 2) := by decide +kernel
theorem dX11_trip_103 : decode cX11_trip 103 = .ok (.iload 5, 2) := by decide +kernel
theorem dX11_trip_105 : decode cX11_trip 105 = .ok (.iload 6, 2) := by decide +kernel
theorem dX11_trip_107 : decode cX11_trip 107 = .ok (.iload 7, 2) := by decide +kernel
theorem dX11_trip_109 : decode cX11_trip 109 = .ok (.invokestatic 315, 3) := by decide +kernel
theorem dX11_trip_112 : decode cX11_trip 112 = .ok (.goto 4, 3) := by decide +kernel
theorem dX11_trip_115 : decode cX11_trip 115 = .ok (.lconst 0, 1) := by decide +kernel
theorem dX11_trip_116 : decode cX11_trip 116 = .ok (.lstore 10, 2) := by decide +kernel
theorem dX11_trip_118 : decode cX11_trip 118 = .ok (.aload_n 0, 1) := by decide +kernel
theorem dX11_trip_119 : decode cX11_trip 119 = .ok (.iload 8, 2) := by decide +kernel
theorem dX11_trip_121 : decode cX11_trip 121 = .ok (.ifCond .ne 7, 3) := by decide +kernel
theorem dX11_trip_124 : decode cX11_trip 124 = .ok (.iconst 1, 1) := by decide +kernel
theorem dX11_trip_125 : decode cX11_trip 125 = .ok (.goto 40, 3) := by decide +kernel
theorem dX11_trip_128 : decode cX11_trip 128 = .ok (.iload 9, 2) := by decide +kernel
theorem dX11_trip_130 : decode cX11_trip 130 = .ok (.ifCond .ne 7, 3) := by decide +kernel
theorem dX11_trip_133 : decode cX11_trip 133 = .ok (.iconst 2, 1) := by decide +kernel
theorem dX11_trip_134 : decode cX11_trip 134 = .ok (.goto 31, 3) := by decide +kernel
theorem dX11_trip_137 : decode cX11_trip 137 = .ok (.aload_n 0, 1) := by decide +kernel
theorem dX11_trip_138 : decode cX11_trip 138 = .ok (.getfield 319, 3) := by decide +kernel
theorem dX11_trip_141 : decode cX11_trip 141 = .ok (.bipush 30, 2) := by decide +kernel
theorem dX11_trip_143 : decode cX11_trip 143 = .ok (.if_icmp .eq 17, 3) := by decide +kernel
theorem dX11_trip_146 : decode cX11_trip 146 = .ok (.aload_n 0, 1) := by decide +kernel
theorem dX11_trip_147 : decode cX11_trip 147 = .ok (.iload_n 2, 1) := by decide +kernel
theorem dX11_trip_148 : decode cX11_trip 148 = .ok (.aload_n 0, 1) := by decide +kernel
theorem dX11_trip_149 : decode cX11_trip 149 = .ok (.invokevirtual 226, 3) := by decide +kernel
theorem dX11_trip_152 : decode cX11_trip 152 = .ok (.lload 10, 2) := by decide +kernel
theorem dX11_trip_154 : decode cX11_trip 154 = .ok (.invokevirtual 250, 3) := by decide +kernel
theorem dX11_trip_157 : decode cX11_trip 157 = .ok (.ifCond .ne 7, 3) := by decide +kernel
theorem dX11_trip_160 : decode cX11_trip 160 = .ok (.iconst 3, 1) := by decide +kernel
theorem dX11_trip_161 : decode cX11_trip 161 = .ok (.goto 4, 3) := by decide +kernel
theorem dX11_trip_164 : decode cX11_trip 164 = .ok (.iconst 0, 1) := by decide +kernel
theorem dX11_trip_165 : decode cX11_trip 165 = .ok (.invokevirtual 210, 3) := by decide +kernel
theorem dX11_trip_168 : decode cX11_trip 168 = .ok (.ifCond .ne 5, 3) := by decide +kernel
theorem dX11_trip_171 : decode cX11_trip 171 = .ok (.iconst 0, 1) := by decide +kernel
theorem dX11_trip_172 : decode cX11_trip 172 = .ok (.ireturn, 1) := by decide +kernel
theorem dX11_trip_173 : decode cX11_trip 173 = .ok (.aload_n 0, 1) := by decide +kernel
theorem dX11_trip_174 : decode cX11_trip 174 = .ok (.getfield 163, 3) := by decide +kernel
theorem dX11_trip_177 : decode cX11_trip 177 = .ok (.aload_n 0, 1) := by decide +kernel
theorem dX11_trip_178 : decode cX11_trip 178 = .ok (.getfield 319, 3) := by decide +kernel
theorem dX11_trip_181 : decode cX11_trip 181 = .ok (.lload 10, 2) := by decide +kernel
theorem dX11_trip_183 : decode cX11_trip 183 = .ok (.lastore, 1) := by decide +kernel
theorem dX11_trip_184 : decode cX11_trip 184 = .ok (.aload_n 0, 1) := by decide +kernel
theorem dX11_trip_185 : decode cX11_trip 185 = .ok (.dup, 1) := by decide +kernel
theorem dX11_trip_186 : decode cX11_trip 186 = .ok (.getfield 319, 3) := by decide +kernel
theorem dX11_trip_189 : decode cX11_trip 189 = .ok (.iconst 1, 1) := by decide +kernel
theorem dX11_trip_190 : decode cX11_trip 190 = .ok (.iadd, 1) := by decide +kernel
theorem dX11_trip_191 : decode cX11_trip 191 = .ok (.putfield 319, 3) := by decide +kernel
theorem dX11_trip_194 : decode cX11_trip 194 = .ok (.aload_n 0, 1) := by decide +kernel
theorem dX11_trip_195 : decode cX11_trip 195 = .ok (.getfield 32, 3) := by decide +kernel
theorem dX11_trip_198 : decode cX11_trip 198 = .ok (.iload_n 2, 1) := by decide +kernel
theorem dX11_trip_199 : decode cX11_trip 199 = .ok (.aload_n 0, 1) := by decide +kernel
theorem dX11_trip_200 : decode cX11_trip 200 = .ok (.invokevirtual 226, 3) := by decide +kernel
theorem dX11_trip_203 : decode cX11_trip 203 = .ok (.iconst 2, 1) := by decide +kernel
theorem dX11_trip_204 : decode cX11_trip 204 = .ok (.invokestatic 198, 3) := by decide +kernel
theorem dX11_trip_207 : decode cX11_trip 207 = .ok (.dup2, 1) := by decide +kernel
theorem dX11_trip_208 : decode cX11_trip 208 = .ok (.laload, 1) := by decide +kernel
theorem dX11_trip_209 : decode cX11_trip 209 = .ok (.lload 10, 2) := by decide +kernel
theorem dX11_trip_211 : decode cX11_trip 211 = .ok (.ladd, 1) := by decide +kernel
theorem dX11_trip_212 : decode cX11_trip 212 = .ok (.lastore, 1) := by decide +kernel
theorem dX11_trip_213 : decode cX11_trip 213 = .ok (.aload_n 0, 1) := by decide +kernel
theorem dX11_trip_214 : decode cX11_trip 214 = .ok (.getfield 26, 3) := by decide +kernel
theorem dX11_trip_217 : decode cX11_trip 217 = .ok (.iload_n 1, 1) := by decide +kernel
theorem dX11_trip_218 : decode cX11_trip 218 = .ok (.dup2, 1) := by decide +kernel
theorem dX11_trip_219 : decode cX11_trip 219 = .ok (.laload, 1) := by decide +kernel
theorem dX11_trip_220 : decode cX11_trip 220 = .ok (.lload 10, 2) := by decide +kernel
theorem dX11_trip_222 : decode cX11_trip 222 = .ok (.ladd, 1) := by decide +kernel
theorem dX11_trip_223 : decode cX11_trip 223 = .ok (.lastore, 1) := by decide +kernel
theorem dX11_trip_224 : decode cX11_trip 224 = .ok (.aload_n 0, 1) := by decide +kernel
theorem dX11_trip_225 : decode cX11_trip 225 = .ok (.getfield 7, 3) := by decide +kernel
theorem dX11_trip_228 : decode cX11_trip 228 = .ok (.iconst 0, 1) := by decide +kernel
theorem dX11_trip_229 : decode cX11_trip 229 = .ok (.dup2, 1) := by decide +kernel
theorem dX11_trip_230 : decode cX11_trip 230 = .ok (.laload, 1) := by decide +kernel
theorem dX11_trip_231 : decode cX11_trip 231 = .ok (.lload 10, 2) := by decide +kernel
theorem dX11_trip_233 : decode cX11_trip 233 = .ok (.ladd, 1) := by decide +kernel
theorem dX11_trip_234 : decode cX11_trip 234 = .ok (.lastore, 1) := by decide +kernel
theorem dX11_trip_235 : decode cX11_trip 235 = .ok (.aload_n 0, 1) := by decide +kernel
theorem dX11_trip_236 : decode cX11_trip 236 = .ok (.getfield 7, 3) := by decide +kernel
theorem dX11_trip_239 : decode cX11_trip 239 = .ok (.bipush 8, 2) := by decide +kernel
theorem dX11_trip_241 : decode cX11_trip 241 = .ok (.dup2, 1) := by decide +kernel
theorem dX11_trip_242 : decode cX11_trip 242 = .ok (.laload, 1) := by decide +kernel
theorem dX11_trip_243 : decode cX11_trip 243 = .ok (.lload 10, 2) := by decide +kernel
theorem dX11_trip_245 : decode cX11_trip 245 = .ok (.lsub, 1) := by decide +kernel
theorem dX11_trip_246 : decode cX11_trip 246 = .ok (.lastore, 1) := by decide +kernel
theorem dX11_trip_247 : decode cX11_trip 247 = .ok (.aload_n 0, 1) := by decide +kernel
theorem dX11_trip_248 : decode cX11_trip 248 = .ok (.getfield 319, 3) := by decide +kernel
theorem dX11_trip_251 : decode cX11_trip 251 = .ok (.iconst 1, 1) := by decide +kernel
theorem dX11_trip_252 : decode cX11_trip 252 = .ok (.isub, 1) := by decide +kernel
theorem dX11_trip_253 : decode cX11_trip 253 = .ok (.ireturn, 1) := by decide +kernel
def f_trip (p1 : Int32) (p2 : Int32) (p3 : Int32) (p4 : Int32) (p5 : Int32) (p6 : Int32) (p7 : Int32) (M : MS) : Int32 × MS :=
    if P_isPerson p1 M then
      if P_isCentre p2 then
        if P_in p3 0 3 then
          if P_in p4 1 30 then
            if P_in p5 0 p4 then
              if P_in p6 0 (2 * p4) then
                if P_in p7 0 5000 then
                  if (mI M 57) = 30 then
                    (0, (sI M 0 3))
                  else
                  if P_may p2 (f_yearNow M) (f_costOf (gI M 56 p3) p4 p5 p6 p7) M then
                    ((((mI M 57) + 1) - 1), (rJ (rJ (rJ (rJ (sI (rJ (sI M 0 0) 58 (mI M 57) (f_costOf (gI M 56 p3) p4 p5 p6 p7)) 57 ((mI M 57) + 1)) 11 (f_at p2 (f_yearNow (sI (rJ (sI M 0 0) 58 (mI M 57) (f_costOf (gI M 56 p3) p4 p5 p6 p7)) 57 ((mI M 57) + 1))) 2) ((gJ M 11 (f_at p2 (f_yearNow (sI (rJ (sI M 0 0) 58 (mI M 57) (f_costOf (gI M 56 p3) p4 p5 p6 p7)) 57 ((mI M 57) + 1))) 2)) + (f_costOf (gI M 56 p3) p4 p5 p6 p7))) 8 p1 ((gJ M 8 p1) + (f_costOf (gI M 56 p3) p4 p5 p6 p7))) 2 0 ((gJ M 2 0) + (f_costOf (gI M 56 p3) p4 p5 p6 p7))) 2 8 ((gJ M 2 8) - (f_costOf (gI M 56 p3) p4 p5 p6 p7))))
                  else
                  (0, (sI M 0 3))
                else
                (0, (sI M 0 2))
              else
              (0, (sI M 0 2))
            else
            (0, (sI M 0 2))
          else
          (0, (sI M 0 2))
        else
        (0, (sI M 0 1))
      else
      (0, (sI M 0 1))
    else
    (0, (sI M 0 1))
abbrev rm_X11_trip : Room := { frames := 3, cells := 0, slots := 0, locals := 68 }
set_option maxRecDepth 100000 in
set_option maxHeartbeats 4000000 in
theorem c_trip {l : Launch} {k : KC} {mo : Nat} {ad : Nat → Nat} (hl : l.stackTraces = false) (hM : HM mo ad) {M : MS} {p1 : Int32} {p2 : Int32} {p3 : Int32} {p4 : Int32} {p5 : Int32} {p6 : Int32} {p7 : Int32} (h3 : LE (mI M 3) 12) (h57 : LE (mI M 57) 30) (hy : P_isYear (f_yearNow M)) : CM l k mo ad yX11_trip (.code yX11_trip cX11_trip 12 (some .int)) rm_X11_trip [.int p1, .int p2, .int p3, .int p4, .int p5, .int p6, .int p7] M (some (.int (f_trip p1 p2 p3 p4 p5 p6 p7 M).1)) (f_trip p1 p2 p3 p4 p5 p6 p7 M).2 := by
  refine MC.of 4 hl (by decide) (Nat.le_of_ble_eq_true rfl) ?_
  intro p e s m args below meth c A Q G B _ _
  show Wx p l e rm_X11_trip s m args below meth c k A 12 Q 0 0 0 [some (.ref mo), some (.int p1), some (.int p2), some (.int p3), some (.int p4), some (.int p5), some (.int p6), some (.int p7), none, none, none, none] [] (mW k mo ad M)
  refine x_aload0 (pc := 0) G dX11_trip_0 ?_
  refine x_iload1 (pc := 1) G dX11_trip_1 ?_
  refine y_cb1 (pc := 2) G (b_isPerson hl hM ) q_ml_X11_206 h_X11_isPerson rfl ⟨Nat.le_of_ble_eq_true rfl, Nat.le_of_ble_eq_true rfl⟩ (Nat.le_of_ble_eq_true rfl) (Nat.le_refl _) (Nat.le_refl _) dX11_trip_2 (fun c1 => ?_) (fun c1 => ?_)
  · refine x_if_eq (pc := 5) (y := 0) (tgt := 28) G dX11_trip_5 rfl (fun q => absurd q (by decide)) (fun _ => ?_)
    refine x_iload2 (pc := 8) G dX11_trip_8 ?_
    refine x_cSb1 (pc := 9) G (b_isCentre hl hM _) q_ml_X11_216 h_X11_isCentre ⟨Nat.le_of_ble_eq_true rfl, Nat.le_of_ble_eq_true rfl⟩ (Nat.le_of_ble_eq_true rfl) (Nat.le_refl _) (Nat.le_refl _) dX11_trip_9 (fun c2 => ?_) (fun c2 => ?_)
    · refine x_if_eq (pc := 12) (y := 0) (tgt := 28) G dX11_trip_12 rfl (fun q => absurd q (by decide)) (fun _ => ?_)
      refine x_iload3 (pc := 15) G dX11_trip_15 ?_
      refine x_iconst (pc := 16) (v := 0) G dX11_trip_16 ic_0 ?_
      refine x_iconst (pc := 17) (v := 3) G dX11_trip_17 ic_3 ?_
      refine x_cSb3 (pc := 18) G (b_in hl hM _) q_ml_X11_181 h_X11_in ⟨Nat.le_of_ble_eq_true rfl, Nat.le_of_ble_eq_true rfl⟩ (Nat.le_of_ble_eq_true rfl) (Nat.le_refl _) (Nat.le_refl _) dX11_trip_18 (fun c3 => ?_) (fun c3 => ?_)
      · refine x_if_eq (pc := 21) (y := 0) (tgt := 28) G dX11_trip_21 rfl (fun q => absurd q (by decide)) (fun _ => ?_)
        refine x_iconst (pc := 24) (v := 1) G dX11_trip_24 ic_1 ?_
        refine x_goto (pc := 25) (tgt := 29) G dX11_trip_25 rfl ?_
        refine x_istore8 (pc := 29) G dX11_trip_29 (Nat.le_of_ble_eq_true rfl) rfl ?_
        refine x_iload8 (pc := 31) G dX11_trip_31 ?_
        refine x_if_eq (pc := 33) (y := 0) (tgt := 87) G dX11_trip_33 rfl (fun q => absurd q (by decide)) (fun _ => ?_)
        refine x_iload4 (pc := 36) G dX11_trip_36 ?_
        refine x_iconst (pc := 38) (v := 1) G dX11_trip_38 ic_1 ?_
        refine x_bipush (pc := 39) (v := 30) G dX11_trip_39 bp_30 ?_
        refine x_cSb3 (pc := 41) G (b_in hl hM _) q_ml_X11_181 h_X11_in ⟨Nat.le_of_ble_eq_true rfl, Nat.le_of_ble_eq_true rfl⟩ (Nat.le_of_ble_eq_true rfl) (Nat.le_refl _) (Nat.le_refl _) dX11_trip_41 (fun c4 => ?_) (fun c4 => ?_)
        · refine x_if_eq (pc := 44) (y := 0) (tgt := 87) G dX11_trip_44 rfl (fun q => absurd q (by decide)) (fun _ => ?_)
          refine x_iload5 (pc := 47) G dX11_trip_47 ?_
          refine x_iconst (pc := 49) (v := 0) G dX11_trip_49 ic_0 ?_
          refine x_iload4 (pc := 50) G dX11_trip_50 ?_
          refine x_cSb3 (pc := 52) G (b_in hl hM _) q_ml_X11_181 h_X11_in ⟨Nat.le_of_ble_eq_true rfl, Nat.le_of_ble_eq_true rfl⟩ (Nat.le_of_ble_eq_true rfl) (Nat.le_refl _) (Nat.le_refl _) dX11_trip_52 (fun c5 => ?_) (fun c5 => ?_)
          · refine x_if_eq (pc := 55) (y := 0) (tgt := 87) G dX11_trip_55 rfl (fun q => absurd q (by decide)) (fun _ => ?_)
            refine x_iload6 (pc := 58) G dX11_trip_58 ?_
            refine x_iconst (pc := 60) (v := 0) G dX11_trip_60 ic_0 ?_
            refine x_iconst (pc := 61) (v := 2) G dX11_trip_61 ic_2 ?_
            refine x_iload4 (pc := 62) G dX11_trip_62 ?_
            refine x_imul (pc := 64) G dX11_trip_64 ?_
            refine x_cSb3 (pc := 65) G (b_in hl hM _) q_ml_X11_181 h_X11_in ⟨Nat.le_of_ble_eq_true rfl, Nat.le_of_ble_eq_true rfl⟩ (Nat.le_of_ble_eq_true rfl) (Nat.le_refl _) (Nat.le_refl _) dX11_trip_65 (fun c6 => ?_) (fun c6 => ?_)
            · refine x_if_eq (pc := 68) (y := 0) (tgt := 87) G dX11_trip_68 rfl (fun q => absurd q (by decide)) (fun _ => ?_)
              refine x_iload7 (pc := 71) G dX11_trip_71 ?_
              refine x_iconst (pc := 73) (v := 0) G dX11_trip_73 ic_0 ?_
              refine x_sipush (pc := 74) (v := 5000) G dX11_trip_74 sp_5000 ?_
              refine x_cSb3 (pc := 77) G (b_in hl hM _) q_ml_X11_181 h_X11_in ⟨Nat.le_of_ble_eq_true rfl, Nat.le_of_ble_eq_true rfl⟩ (Nat.le_of_ble_eq_true rfl) (Nat.le_refl _) (Nat.le_refl _) dX11_trip_77 (fun c7 => ?_) (fun c7 => ?_)
              · refine x_if_eq (pc := 80) (y := 0) (tgt := 87) G dX11_trip_80 rfl (fun q => absurd q (by decide)) (fun _ => ?_)
                refine x_iconst (pc := 83) (v := 1) G dX11_trip_83 ic_1 ?_
                refine x_goto (pc := 84) (tgt := 88) G dX11_trip_84 rfl ?_
                refine x_istore9 (pc := 88) G dX11_trip_88 (Nat.le_of_ble_eq_true rfl) rfl ?_
                refine x_iload9 (pc := 90) G dX11_trip_90 ?_
                refine x_if_eq (pc := 92) (y := 0) (tgt := 115) G dX11_trip_92 rfl (fun q => absurd q (by decide)) (fun _ => ?_)
                refine x_aload0 (pc := 95) G dX11_trip_95 ?_
                refine y_gA (pc := 96) G g_160 mG_56 dX11_trip_96 ?_
                refine x_iload3 (pc := 99) G dX11_trip_99 ?_
                refine y_iald (pc := 100) (v := (gI M 56 p3)) G hM a_56 (vin_c (c := 3) (N := 3) (by decide) (by decide) c3) rfl dX11_trip_100 ?_
                refine x_iload4 (pc := 101) G dX11_trip_101 ?_
                refine x_iload5 (pc := 103) G dX11_trip_103 ?_
                refine x_iload6 (pc := 105) G dX11_trip_105 ?_
                refine x_iload7 (pc := 107) G dX11_trip_107 ?_
                refine x_cS5 (pc := 109) G (c_costOf hl hM _) q_ml_X11_315 h_X11_costOf ⟨Nat.le_of_ble_eq_true rfl, Nat.le_of_ble_eq_true rfl⟩ (Nat.le_of_ble_eq_true rfl) (Nat.le_refl _) (Nat.le_refl _) dX11_trip_109 ?_
                refine x_goto (pc := 112) (tgt := 116) G dX11_trip_112 rfl ?_
                refine x_lstore10 (pc := 116) G dX11_trip_116 (Nat.le_of_ble_eq_true rfl) rfl ?_
                refine x_aload0 (pc := 118) G dX11_trip_118 ?_
                refine x_iload8 (pc := 119) G dX11_trip_119 ?_
                refine x_if_ne (pc := 121) (y := 0) (tgt := 128) G dX11_trip_121 rfl (fun _ => ?_) (fun q => absurd q (by decide))
                refine x_iload9 (pc := 128) G dX11_trip_128 ?_
                refine x_if_ne (pc := 130) (y := 0) (tgt := 137) G dX11_trip_130 rfl (fun _ => ?_) (fun q => absurd q (by decide))
                refine x_aload0 (pc := 137) G dX11_trip_137 ?_
                refine y_gI (pc := 138) (v := (mI M 57)) G g_319 mG_57 rfl dX11_trip_138 ?_
                refine x_bipush (pc := 141) (v := 30) G dX11_trip_141 bp_30 ?_
                refine x_icmp_eq (pc := 143) (tgt := 160) G dX11_trip_143 rfl (fun c8 => ?_) (fun c8 => ?_)
                · refine x_iconst (pc := 160) (v := 3) G dX11_trip_160 ic_3 ?_
                  refine x_goto (pc := 161) (tgt := 165) G dX11_trip_161 rfl ?_
                  refine y_c1 (pc := 165) G (c_holdsN hl hM (by decide)) q_ml_X11_210 h_X11_holds rfl ⟨Nat.le_of_ble_eq_true rfl, Nat.le_of_ble_eq_true rfl⟩ (Nat.le_of_ble_eq_true rfl) (Nat.le_refl _) (Nat.le_refl _) dX11_trip_165 ?_
                  refine x_if_ne (pc := 168) (y := 0) (tgt := 173) G dX11_trip_168 rfl (fun q => absurd q (by decide)) (fun _ => ?_)
                  refine x_iconst (pc := 171) (v := 0) G dX11_trip_171 ic_0 ?_
                  exact x_iret (pc := 172) G B rfl dX11_trip_172 ⟨by rw [f_trip, if_pos c1, if_pos c2, if_pos c3, if_pos c4, if_pos c5, if_pos c6, if_pos c7, if_pos c8], by rw [f_trip, if_pos c1, if_pos c2, if_pos c3, if_pos c4, if_pos c5, if_pos c6, if_pos c7, if_pos c8]⟩
                refine x_aload0 (pc := 146) G dX11_trip_146 ?_
                refine x_iload2 (pc := 147) G dX11_trip_147 ?_
                refine x_aload0 (pc := 148) G dX11_trip_148 ?_
                refine y_c0 (pc := 149) G (c_yearNow hl hM ) q_ml_X11_226 h_X11_yearNow rfl ⟨Nat.le_of_ble_eq_true rfl, Nat.le_of_ble_eq_true rfl⟩ (Nat.le_of_ble_eq_true rfl) (Nat.le_refl _) (Nat.le_refl _) dX11_trip_149 ?_
                refine x_lload10 (pc := 152) G dX11_trip_152 ?_
                refine y_cb3 (pc := 154) G (b_may hl hM c2 hy) q_ml_X11_250 h_X11_may rfl ⟨Nat.le_of_ble_eq_true rfl, Nat.le_of_ble_eq_true rfl⟩ (Nat.le_of_ble_eq_true rfl) (Nat.le_refl _) (Nat.le_refl _) dX11_trip_154 (fun c9 => ?_) (fun c9 => ?_)
                · refine x_if_ne (pc := 157) (y := 0) (tgt := 164) G dX11_trip_157 rfl (fun _ => ?_) (fun q => absurd q (by decide))
                  refine x_iconst (pc := 164) (v := 0) G dX11_trip_164 ic_0 ?_
                  refine y_c1 (pc := 165) G (c_holds0 hl hM) q_ml_X11_210 h_X11_holds rfl ⟨Nat.le_of_ble_eq_true rfl, Nat.le_of_ble_eq_true rfl⟩ (Nat.le_of_ble_eq_true rfl) (Nat.le_refl _) (Nat.le_refl _) dX11_trip_165 ?_
                  refine x_if_ne (pc := 168) (y := 0) (tgt := 173) G dX11_trip_168 rfl (fun _ => ?_) (fun q => absurd q (by decide))
                  refine x_aload0 (pc := 173) G dX11_trip_173 ?_
                  refine y_gA (pc := 174) G g_163 mG_58 dX11_trip_174 ?_
                  refine x_aload0 (pc := 177) G dX11_trip_177 ?_
                  refine y_gI (pc := 178) (v := (mI M 57)) G g_319 mG_57 (mI_sIn rfl) dX11_trip_178 ?_
                  refine x_lload10 (pc := 181) G dX11_trip_181 ?_
                  refine y_last (pc := 183) G hM a_58 (vin_new h57 (c := 30) rfl (by decide) c8) dX11_trip_183 ?_
                  refine x_aload0 (pc := 184) G dX11_trip_184 ?_
                  refine x_dup (pc := 185) G dX11_trip_185 rfl ?_
                  refine y_gI (pc := 186) (v := (mI M 57)) G g_319 mG_57 (mI_rJ.trans (mI_sIn rfl)) dX11_trip_186 ?_
                  refine x_iconst (pc := 189) (v := 1) G dX11_trip_189 ic_1 ?_
                  refine x_iadd (pc := 190) G dX11_trip_190 ?_
                  refine y_pI (pc := 191) G p_319 mS_57 dX11_trip_191 ?_
                  refine x_aload0 (pc := 194) G dX11_trip_194 ?_
                  refine y_gA (pc := 195) G g_32 mG_11 dX11_trip_195 ?_
                  refine x_iload2 (pc := 198) G dX11_trip_198 ?_
                  refine x_aload0 (pc := 199) G dX11_trip_199 ?_
                  refine y_c0 (pc := 200) G (c_yearNow hl hM ) q_ml_X11_226 h_X11_yearNow rfl ⟨Nat.le_of_ble_eq_true rfl, Nat.le_of_ble_eq_true rfl⟩ (Nat.le_of_ble_eq_true rfl) (Nat.le_refl _) (Nat.le_refl _) dX11_trip_200 ?_
                  refine x_iconst (pc := 203) (v := 2) G dX11_trip_203 ic_2 ?_
                  refine x_cS3 (pc := 204) G (c_at hl hM _) q_ml_X11_198 h_X11_at ⟨Nat.le_of_ble_eq_true rfl, Nat.le_of_ble_eq_true rfl⟩ (Nat.le_of_ble_eq_true rfl) (Nat.le_refl _) (Nat.le_refl _) dX11_trip_204 ?_
                  refine x_dup2 (pc := 207) G dX11_trip_207 rfl rfl ?_
                  refine y_lald (pc := 208) (v := (gJ M 11 (f_at p2 (f_yearNow (sI (rJ (sI M 0 0) 58 (mI M 57) (f_costOf (gI M 56 p3) p4 p5 p6 p7)) 57 ((mI M 57) + 1))) 2))) G hM a_11 (vin_at c2 (show P_isYear (f_yearNow (sI (rJ (sI M 0 0) 58 (mI M 57) (f_costOf (gI M 56 p3) p4 p5 p6 p7)) 57 ((mI M 57) + 1))) from hy) (by decide)) (gJ_sI.trans ((gJ_rJn rfl).trans gJ_sI)) dX11_trip_208 ?_
                  refine x_lload10 (pc := 209) G dX11_trip_209 ?_
                  refine x_ladd (pc := 211) G dX11_trip_211 ?_
                  refine y_last (pc := 212) G hM a_11 (vin_at c2 (show P_isYear (f_yearNow (sI (rJ (sI M 0 0) 58 (mI M 57) (f_costOf (gI M 56 p3) p4 p5 p6 p7)) 57 ((mI M 57) + 1))) from hy) (by decide)) dX11_trip_212 ?_
                  refine x_aload0 (pc := 213) G dX11_trip_213 ?_
                  refine y_gA (pc := 214) G g_26 mG_8 dX11_trip_214 ?_
                  refine x_iload1 (pc := 217) G dX11_trip_217 ?_
                  refine x_dup2 (pc := 218) G dX11_trip_218 rfl rfl ?_
                  refine y_lald (pc := 219) (v := (gJ M 8 p1)) G hM a_8 (vin_lt h3 (by decide) c1) ((gJ_rJn rfl).trans (gJ_sI.trans ((gJ_rJn rfl).trans gJ_sI))) dX11_trip_219 ?_
                  refine x_lload10 (pc := 220) G dX11_trip_220 ?_
                  refine x_ladd (pc := 222) G dX11_trip_222 ?_
                  refine y_last (pc := 223) G hM a_8 (vin_lt h3 (by decide) c1) dX11_trip_223 ?_
                  refine x_aload0 (pc := 224) G dX11_trip_224 ?_
                  refine y_gA (pc := 225) G g_7 mG_2 dX11_trip_225 ?_
                  refine x_iconst (pc := 228) (v := 0) G dX11_trip_228 ic_0 ?_
                  refine x_dup2 (pc := 229) G dX11_trip_229 rfl rfl ?_
                  refine y_lald (pc := 230) (v := (gJ M 2 0)) G hM a_2 vk9_0 ((gJ_rJn rfl).trans ((gJ_rJn rfl).trans (gJ_sI.trans ((gJ_rJn rfl).trans gJ_sI)))) dX11_trip_230 ?_
                  refine x_lload10 (pc := 231) G dX11_trip_231 ?_
                  refine x_ladd (pc := 233) G dX11_trip_233 ?_
                  refine y_last (pc := 234) G hM a_2 vk9_0 dX11_trip_234 ?_
                  refine x_aload0 (pc := 235) G dX11_trip_235 ?_
                  refine y_gA (pc := 236) G g_7 mG_2 dX11_trip_236 ?_
                  refine x_bipush (pc := 239) (v := 8) G dX11_trip_239 bp_8 ?_
                  refine x_dup2 (pc := 241) G dX11_trip_241 rfl rfl ?_
                  refine y_lald (pc := 242) (v := (gJ M 2 8)) G hM a_2 vk9_8 ((gJ_rJc (by decide)).trans ((gJ_rJn rfl).trans ((gJ_rJn rfl).trans (gJ_sI.trans ((gJ_rJn rfl).trans gJ_sI))))) dX11_trip_242 ?_
                  refine x_lload10 (pc := 243) G dX11_trip_243 ?_
                  refine x_lsub (pc := 245) G dX11_trip_245 ?_
                  refine y_last (pc := 246) G hM a_2 vk9_8 dX11_trip_246 ?_
                  refine x_aload0 (pc := 247) G dX11_trip_247 ?_
                  refine y_gI (pc := 248) (v := ((mI M 57) + 1)) G g_319 mG_57 (mI_rJ.trans (mI_rJ.trans (mI_rJ.trans (mI_rJ.trans mI_sIs)))) dX11_trip_248 ?_
                  refine x_iconst (pc := 251) (v := 1) G dX11_trip_251 ic_1 ?_
                  refine x_isub (pc := 252) G dX11_trip_252 ?_
                  exact x_iret (pc := 253) G B rfl dX11_trip_253 ⟨by rw [f_trip, if_pos c1, if_pos c2, if_pos c3, if_pos c4, if_pos c5, if_pos c6, if_pos c7, if_neg c8, if_pos c9], by rw [f_trip, if_pos c1, if_pos c2, if_pos c3, if_pos c4, if_pos c5, if_pos c6, if_pos c7, if_neg c8, if_pos c9]⟩
                refine x_if_ne (pc := 157) (y := 0) (tgt := 164) G dX11_trip_157 rfl (fun q => absurd q (by decide)) (fun _ => ?_)
                refine x_iconst (pc := 160) (v := 3) G dX11_trip_160 ic_3 ?_
                refine x_goto (pc := 161) (tgt := 165) G dX11_trip_161 rfl ?_
                refine y_c1 (pc := 165) G (c_holdsN hl hM (by decide)) q_ml_X11_210 h_X11_holds rfl ⟨Nat.le_of_ble_eq_true rfl, Nat.le_of_ble_eq_true rfl⟩ (Nat.le_of_ble_eq_true rfl) (Nat.le_refl _) (Nat.le_refl _) dX11_trip_165 ?_
                refine x_if_ne (pc := 168) (y := 0) (tgt := 173) G dX11_trip_168 rfl (fun q => absurd q (by decide)) (fun _ => ?_)
                refine x_iconst (pc := 171) (v := 0) G dX11_trip_171 ic_0 ?_
                exact x_iret (pc := 172) G B rfl dX11_trip_172 ⟨by rw [f_trip, if_pos c1, if_pos c2, if_pos c3, if_pos c4, if_pos c5, if_pos c6, if_pos c7, if_neg c8, if_neg c9], by rw [f_trip, if_pos c1, if_pos c2, if_pos c3, if_pos c4, if_pos c5, if_pos c6, if_pos c7, if_neg c8, if_neg c9]⟩
              refine x_if_eq (pc := 80) (y := 0) (tgt := 87) G dX11_trip_80 rfl (fun _ => ?_) (fun q => absurd q (by decide))
              refine x_iconst (pc := 87) (v := 0) G dX11_trip_87 ic_0 ?_
              refine x_istore9 (pc := 88) G dX11_trip_88 (Nat.le_of_ble_eq_true rfl) rfl ?_
              refine x_iload9 (pc := 90) G dX11_trip_90 ?_
              refine x_if_eq (pc := 92) (y := 0) (tgt := 115) G dX11_trip_92 rfl (fun _ => ?_) (fun q => absurd q (by decide))
              refine x_lconst (pc := 115) (v := 0) G dX11_trip_115 lc_0 ?_
              refine x_lstore10 (pc := 116) G dX11_trip_116 (Nat.le_of_ble_eq_true rfl) rfl ?_
              refine x_aload0 (pc := 118) G dX11_trip_118 ?_
              refine x_iload8 (pc := 119) G dX11_trip_119 ?_
              refine x_if_ne (pc := 121) (y := 0) (tgt := 128) G dX11_trip_121 rfl (fun _ => ?_) (fun q => absurd q (by decide))
              refine x_iload9 (pc := 128) G dX11_trip_128 ?_
              refine x_if_ne (pc := 130) (y := 0) (tgt := 137) G dX11_trip_130 rfl (fun q => absurd q (by decide)) (fun _ => ?_)
              refine x_iconst (pc := 133) (v := 2) G dX11_trip_133 ic_2 ?_
              refine x_goto (pc := 134) (tgt := 165) G dX11_trip_134 rfl ?_
              refine y_c1 (pc := 165) G (c_holdsN hl hM (by decide)) q_ml_X11_210 h_X11_holds rfl ⟨Nat.le_of_ble_eq_true rfl, Nat.le_of_ble_eq_true rfl⟩ (Nat.le_of_ble_eq_true rfl) (Nat.le_refl _) (Nat.le_refl _) dX11_trip_165 ?_
              refine x_if_ne (pc := 168) (y := 0) (tgt := 173) G dX11_trip_168 rfl (fun q => absurd q (by decide)) (fun _ => ?_)
              refine x_iconst (pc := 171) (v := 0) G dX11_trip_171 ic_0 ?_
              exact x_iret (pc := 172) G B rfl dX11_trip_172 ⟨by rw [f_trip, if_pos c1, if_pos c2, if_pos c3, if_pos c4, if_pos c5, if_pos c6, if_neg c7], by rw [f_trip, if_pos c1, if_pos c2, if_pos c3, if_pos c4, if_pos c5, if_pos c6, if_neg c7]⟩
            refine x_if_eq (pc := 68) (y := 0) (tgt := 87) G dX11_trip_68 rfl (fun _ => ?_) (fun q => absurd q (by decide))
            refine x_iconst (pc := 87) (v := 0) G dX11_trip_87 ic_0 ?_
            refine x_istore9 (pc := 88) G dX11_trip_88 (Nat.le_of_ble_eq_true rfl) rfl ?_
            refine x_iload9 (pc := 90) G dX11_trip_90 ?_
            refine x_if_eq (pc := 92) (y := 0) (tgt := 115) G dX11_trip_92 rfl (fun _ => ?_) (fun q => absurd q (by decide))
            refine x_lconst (pc := 115) (v := 0) G dX11_trip_115 lc_0 ?_
            refine x_lstore10 (pc := 116) G dX11_trip_116 (Nat.le_of_ble_eq_true rfl) rfl ?_
            refine x_aload0 (pc := 118) G dX11_trip_118 ?_
            refine x_iload8 (pc := 119) G dX11_trip_119 ?_
            refine x_if_ne (pc := 121) (y := 0) (tgt := 128) G dX11_trip_121 rfl (fun _ => ?_) (fun q => absurd q (by decide))
            refine x_iload9 (pc := 128) G dX11_trip_128 ?_
            refine x_if_ne (pc := 130) (y := 0) (tgt := 137) G dX11_trip_130 rfl (fun q => absurd q (by decide)) (fun _ => ?_)
            refine x_iconst (pc := 133) (v := 2) G dX11_trip_133 ic_2 ?_
            refine x_goto (pc := 134) (tgt := 165) G dX11_trip_134 rfl ?_
            refine y_c1 (pc := 165) G (c_holdsN hl hM (by decide)) q_ml_X11_210 h_X11_holds rfl ⟨Nat.le_of_ble_eq_true rfl, Nat.le_of_ble_eq_true rfl⟩ (Nat.le_of_ble_eq_true rfl) (Nat.le_refl _) (Nat.le_refl _) dX11_trip_165 ?_
            refine x_if_ne (pc := 168) (y := 0) (tgt := 173) G dX11_trip_168 rfl (fun q => absurd q (by decide)) (fun _ => ?_)
            refine x_iconst (pc := 171) (v := 0) G dX11_trip_171 ic_0 ?_
            exact x_iret (pc := 172) G B rfl dX11_trip_172 ⟨by rw [f_trip, if_pos c1, if_pos c2, if_pos c3, if_pos c4, if_pos c5, if_neg c6], by rw [f_trip, if_pos c1, if_pos c2, if_pos c3, if_pos c4, if_pos c5, if_neg c6]⟩
          refine x_if_eq (pc := 55) (y := 0) (tgt := 87) G dX11_trip_55 rfl (fun _ => ?_) (fun q => absurd q (by decide))
          refine x_iconst (pc := 87) (v := 0) G dX11_trip_87 ic_0 ?_
          refine x_istore9 (pc := 88) G dX11_trip_88 (Nat.le_of_ble_eq_true rfl) rfl ?_
          refine x_iload9 (pc := 90) G dX11_trip_90 ?_
          refine x_if_eq (pc := 92) (y := 0) (tgt := 115) G dX11_trip_92 rfl (fun _ => ?_) (fun q => absurd q (by decide))
          refine x_lconst (pc := 115) (v := 0) G dX11_trip_115 lc_0 ?_
          refine x_lstore10 (pc := 116) G dX11_trip_116 (Nat.le_of_ble_eq_true rfl) rfl ?_
          refine x_aload0 (pc := 118) G dX11_trip_118 ?_
          refine x_iload8 (pc := 119) G dX11_trip_119 ?_
          refine x_if_ne (pc := 121) (y := 0) (tgt := 128) G dX11_trip_121 rfl (fun _ => ?_) (fun q => absurd q (by decide))
          refine x_iload9 (pc := 128) G dX11_trip_128 ?_
          refine x_if_ne (pc := 130) (y := 0) (tgt := 137) G dX11_trip_130 rfl (fun q => absurd q (by decide)) (fun _ => ?_)
          refine x_iconst (pc := 133) (v := 2) G dX11_trip_133 ic_2 ?_
          refine x_goto (pc := 134) (tgt := 165) G dX11_trip_134 rfl ?_
          refine y_c1 (pc := 165) G (c_holdsN hl hM (by decide)) q_ml_X11_210 h_X11_holds rfl ⟨Nat.le_of_ble_eq_true rfl, Nat.le_of_ble_eq_true rfl⟩ (Nat.le_of_ble_eq_true rfl) (Nat.le_refl _) (Nat.le_refl _) dX11_trip_165 ?_
          refine x_if_ne (pc := 168) (y := 0) (tgt := 173) G dX11_trip_168 rfl (fun q => absurd q (by decide)) (fun _ => ?_)
          refine x_iconst (pc := 171) (v := 0) G dX11_trip_171 ic_0 ?_
          exact x_iret (pc := 172) G B rfl dX11_trip_172 ⟨by rw [f_trip, if_pos c1, if_pos c2, if_pos c3, if_pos c4, if_neg c5], by rw [f_trip, if_pos c1, if_pos c2, if_pos c3, if_pos c4, if_neg c5]⟩
        refine x_if_eq (pc := 44) (y := 0) (tgt := 87) G dX11_trip_44 rfl (fun _ => ?_) (fun q => absurd q (by decide))
        refine x_iconst (pc := 87) (v := 0) G dX11_trip_87 ic_0 ?_
        refine x_istore9 (pc := 88) G dX11_trip_88 (Nat.le_of_ble_eq_true rfl) rfl ?_
        refine x_iload9 (pc := 90) G dX11_trip_90 ?_
        refine x_if_eq (pc := 92) (y := 0) (tgt := 115) G dX11_trip_92 rfl (fun _ => ?_) (fun q => absurd q (by decide))
        refine x_lconst (pc := 115) (v := 0) G dX11_trip_115 lc_0 ?_
        refine x_lstore10 (pc := 116) G dX11_trip_116 (Nat.le_of_ble_eq_true rfl) rfl ?_
        refine x_aload0 (pc := 118) G dX11_trip_118 ?_
        refine x_iload8 (pc := 119) G dX11_trip_119 ?_
        refine x_if_ne (pc := 121) (y := 0) (tgt := 128) G dX11_trip_121 rfl (fun _ => ?_) (fun q => absurd q (by decide))
        refine x_iload9 (pc := 128) G dX11_trip_128 ?_
        refine x_if_ne (pc := 130) (y := 0) (tgt := 137) G dX11_trip_130 rfl (fun q => absurd q (by decide)) (fun _ => ?_)
        refine x_iconst (pc := 133) (v := 2) G dX11_trip_133 ic_2 ?_
        refine x_goto (pc := 134) (tgt := 165) G dX11_trip_134 rfl ?_
        refine y_c1 (pc := 165) G (c_holdsN hl hM (by decide)) q_ml_X11_210 h_X11_holds rfl ⟨Nat.le_of_ble_eq_true rfl, Nat.le_of_ble_eq_true rfl⟩ (Nat.le_of_ble_eq_true rfl) (Nat.le_refl _) (Nat.le_refl _) dX11_trip_165 ?_
        refine x_if_ne (pc := 168) (y := 0) (tgt := 173) G dX11_trip_168 rfl (fun q => absurd q (by decide)) (fun _ => ?_)
        refine x_iconst (pc := 171) (v := 0) G dX11_trip_171 ic_0 ?_
        exact x_iret (pc := 172) G B rfl dX11_trip_172 ⟨by rw [f_trip, if_pos c1, if_pos c2, if_pos c3, if_neg c4], by rw [f_trip, if_pos c1, if_pos c2, if_pos c3, if_neg c4]⟩
      refine x_if_eq (pc := 21) (y := 0) (tgt := 28) G dX11_trip_21 rfl (fun _ => ?_) (fun q => absurd q (by decide))
      refine x_iconst (pc := 28) (v := 0) G dX11_trip_28 ic_0 ?_
      refine x_istore8 (pc := 29) G dX11_trip_29 (Nat.le_of_ble_eq_true rfl) rfl ?_
      refine x_iload8 (pc := 31) G dX11_trip_31 ?_
      refine x_if_eq (pc := 33) (y := 0) (tgt := 87) G dX11_trip_33 rfl (fun _ => ?_) (fun q => absurd q (by decide))
      refine x_iconst (pc := 87) (v := 0) G dX11_trip_87 ic_0 ?_
      refine x_istore9 (pc := 88) G dX11_trip_88 (Nat.le_of_ble_eq_true rfl) rfl ?_
      refine x_iload9 (pc := 90) G dX11_trip_90 ?_
      refine x_if_eq (pc := 92) (y := 0) (tgt := 115) G dX11_trip_92 rfl (fun _ => ?_) (fun q => absurd q (by decide))
      refine x_lconst (pc := 115) (v := 0) G dX11_trip_115 lc_0 ?_
      refine x_lstore10 (pc := 116) G dX11_trip_116 (Nat.le_of_ble_eq_true rfl) rfl ?_
      refine x_aload0 (pc := 118) G dX11_trip_118 ?_
      refine x_iload8 (pc := 119) G dX11_trip_119 ?_
      refine x_if_ne (pc := 121) (y := 0) (tgt := 128) G dX11_trip_121 rfl (fun q => absurd q (by decide)) (fun _ => ?_)
      refine x_iconst (pc := 124) (v := 1) G dX11_trip_124 ic_1 ?_
      refine x_goto (pc := 125) (tgt := 165) G dX11_trip_125 rfl ?_
      refine y_c1 (pc := 165) G (c_holdsN hl hM (by decide)) q_ml_X11_210 h_X11_holds rfl ⟨Nat.le_of_ble_eq_true rfl, Nat.le_of_ble_eq_true rfl⟩ (Nat.le_of_ble_eq_true rfl) (Nat.le_refl _) (Nat.le_refl _) dX11_trip_165 ?_
      refine x_if_ne (pc := 168) (y := 0) (tgt := 173) G dX11_trip_168 rfl (fun q => absurd q (by decide)) (fun _ => ?_)
      refine x_iconst (pc := 171) (v := 0) G dX11_trip_171 ic_0 ?_
      exact x_iret (pc := 172) G B rfl dX11_trip_172 ⟨by rw [f_trip, if_pos c1, if_pos c2, if_neg c3], by rw [f_trip, if_pos c1, if_pos c2, if_neg c3]⟩
    refine x_if_eq (pc := 12) (y := 0) (tgt := 28) G dX11_trip_12 rfl (fun _ => ?_) (fun q => absurd q (by decide))
    refine x_iconst (pc := 28) (v := 0) G dX11_trip_28 ic_0 ?_
    refine x_istore8 (pc := 29) G dX11_trip_29 (Nat.le_of_ble_eq_true rfl) rfl ?_
    refine x_iload8 (pc := 31) G dX11_trip_31 ?_
    refine x_if_eq (pc := 33) (y := 0) (tgt := 87) G dX11_trip_33 rfl (fun _ => ?_) (fun q => absurd q (by decide))
    refine x_iconst (pc := 87) (v := 0) G dX11_trip_87 ic_0 ?_
    refine x_istore9 (pc := 88) G dX11_trip_88 (Nat.le_of_ble_eq_true rfl) rfl ?_
    refine x_iload9 (pc := 90) G dX11_trip_90 ?_
    refine x_if_eq (pc := 92) (y := 0) (tgt := 115) G dX11_trip_92 rfl (fun _ => ?_) (fun q => absurd q (by decide))
    refine x_lconst (pc := 115) (v := 0) G dX11_trip_115 lc_0 ?_
    refine x_lstore10 (pc := 116) G dX11_trip_116 (Nat.le_of_ble_eq_true rfl) rfl ?_
    refine x_aload0 (pc := 118) G dX11_trip_118 ?_
    refine x_iload8 (pc := 119) G dX11_trip_119 ?_
    refine x_if_ne (pc := 121) (y := 0) (tgt := 128) G dX11_trip_121 rfl (fun q => absurd q (by decide)) (fun _ => ?_)
    refine x_iconst (pc := 124) (v := 1) G dX11_trip_124 ic_1 ?_
    refine x_goto (pc := 125) (tgt := 165) G dX11_trip_125 rfl ?_
    refine y_c1 (pc := 165) G (c_holdsN hl hM (by decide)) q_ml_X11_210 h_X11_holds rfl ⟨Nat.le_of_ble_eq_true rfl, Nat.le_of_ble_eq_true rfl⟩ (Nat.le_of_ble_eq_true rfl) (Nat.le_refl _) (Nat.le_refl _) dX11_trip_165 ?_
    refine x_if_ne (pc := 168) (y := 0) (tgt := 173) G dX11_trip_168 rfl (fun q => absurd q (by decide)) (fun _ => ?_)
    refine x_iconst (pc := 171) (v := 0) G dX11_trip_171 ic_0 ?_
    exact x_iret (pc := 172) G B rfl dX11_trip_172 ⟨by rw [f_trip, if_pos c1, if_neg c2], by rw [f_trip, if_pos c1, if_neg c2]⟩
  refine x_if_eq (pc := 5) (y := 0) (tgt := 28) G dX11_trip_5 rfl (fun _ => ?_) (fun q => absurd q (by decide))
  refine x_iconst (pc := 28) (v := 0) G dX11_trip_28 ic_0 ?_
  refine x_istore8 (pc := 29) G dX11_trip_29 (Nat.le_of_ble_eq_true rfl) rfl ?_
  refine x_iload8 (pc := 31) G dX11_trip_31 ?_
  refine x_if_eq (pc := 33) (y := 0) (tgt := 87) G dX11_trip_33 rfl (fun _ => ?_) (fun q => absurd q (by decide))
  refine x_iconst (pc := 87) (v := 0) G dX11_trip_87 ic_0 ?_
  refine x_istore9 (pc := 88) G dX11_trip_88 (Nat.le_of_ble_eq_true rfl) rfl ?_
  refine x_iload9 (pc := 90) G dX11_trip_90 ?_
  refine x_if_eq (pc := 92) (y := 0) (tgt := 115) G dX11_trip_92 rfl (fun _ => ?_) (fun q => absurd q (by decide))
  refine x_lconst (pc := 115) (v := 0) G dX11_trip_115 lc_0 ?_
  refine x_lstore10 (pc := 116) G dX11_trip_116 (Nat.le_of_ble_eq_true rfl) rfl ?_
  refine x_aload0 (pc := 118) G dX11_trip_118 ?_
  refine x_iload8 (pc := 119) G dX11_trip_119 ?_
  refine x_if_ne (pc := 121) (y := 0) (tgt := 128) G dX11_trip_121 rfl (fun q => absurd q (by decide)) (fun _ => ?_)
  refine x_iconst (pc := 124) (v := 1) G dX11_trip_124 ic_1 ?_
  refine x_goto (pc := 125) (tgt := 165) G dX11_trip_125 rfl ?_
  refine y_c1 (pc := 165) G (c_holdsN hl hM (by decide)) q_ml_X11_210 h_X11_holds rfl ⟨Nat.le_of_ble_eq_true rfl, Nat.le_of_ble_eq_true rfl⟩ (Nat.le_of_ble_eq_true rfl) (Nat.le_refl _) (Nat.le_refl _) dX11_trip_165 ?_
  refine x_if_ne (pc := 168) (y := 0) (tgt := 173) G dX11_trip_168 rfl (fun q => absurd q (by decide)) (fun _ => ?_)
  refine x_iconst (pc := 171) (v := 0) G dX11_trip_171 ic_0 ?_
  exact x_iret (pc := 172) G B rfl dX11_trip_172 ⟨by rw [f_trip, if_neg c1], by rw [f_trip, if_neg c1]⟩
theorem dX11_advance_0 : decode cX11_advance 0 = .ok (.aload_n 0, 1) := by decide +kernel
theorem dX11_advance_1 : decode cX11_advance 1 = .ok (.aload_n 0, 1) := by decide +kernel
theorem dX11_advance_2 : decode cX11_advance 2 = .ok (.iload_n 1, 1) := by decide +kernel
theorem dX11_advance_3 : decode cX11_advance 3 = .ok (.invokevirtual 206, 3) := by decide +kernel
theorem dX11_advance_6 : decode cX11_advance 6 = .ok (.ifCond .ne 7, 3) := by decide +kernel
theorem dX11_advance_9 : decode cX11_advance 9 = .ok (.iconst 1, 1) := by decide +kernel
theorem dX11_advance_10 : decode cX11_advance 10 = .ok (.goto 19, 3) := by decide +kernel
theorem dX11_advance_13 : decode cX11_advance 13 = .ok (.iload_n 2, 1) := by decide +kernel
theorem dX11_advance_14 : decode cX11_advance 14 = .ok (.iconst 1, 1) := by decide +kernel
theorem dX11_advance_15 : decode cX11_advance 15 = .ok (.ldc_w 322, 3) := by decide +kernel
theorem dX11_advance_18 : decode cX11_advance 18 = .ok (.invokestatic 181, 3) := by decide +kernel
theorem dX11_advance_21 : decode cX11_advance 21 = .ok (.ifCond .eq 7, 3) := by decide +kernel
theorem dX11_advance_24 : decode cX11_advance 24 = .ok (.iconst 0, 1) := by decide +kernel
theorem dX11_advance_25 : decode cX11_advance 25 = .ok (.goto 4, 3) := by decide +kernel
theorem dX11_advance_28 : decode cX11_advance 28 = .ok (.iconst 2, 1) := by decide +kernel
theorem dX11_advance_29 : decode cX11_advance 29 = .ok (.invokevirtual 210, 3) := by decide +kernel
theorem dX11_advance_32 : decode cX11_advance 32 = .ok (.ifCond .ne 5, 3) := by decide +kernel
theorem dX11_advance_35 : decode cX11_advance 35 = .ok (.lconst 0, 1) := by decide +kernel
theorem dX11_advance_36 : decode cX11_advance 36 = .ok (.lreturn, 1) := by decide +kernel
theorem dX11_advance_37 : decode cX11_advance 37 = .ok (.aload_n 0, 1) := by decide +kernel
theorem dX11_advance_38 : decode cX11_advance 38 = .ok (.getfield 29, 3) := by decide +kernel
theorem dX11_advance_41 : decode cX11_advance 41 = .ok (.iload_n 1, 1) := by decide +kernel
theorem dX11_advance_42 : decode cX11_advance 42 = .ok (.dup2, 1) := by decide +kernel
theorem dX11_advance_43 : decode cX11_advance 43 = .ok (.laload, 1) := by decide +kernel
theorem dX11_advance_44 : decode cX11_advance 44 = .ok (.iload_n 2, 1) := by decide +kernel
theorem dX11_advance_45 : decode cX11_advance 45 = .ok (.i2l, 1) := by decide +kernel
theorem dX11_advance_46 : decode cX11_advance 46 = .ok (.ladd, 1) := by decide +kernel
theorem dX11_advance_47 : decode cX11_advance 47 = .ok (.lastore, 1) := by decide +kernel
theorem dX11_advance_48 : decode cX11_advance 48 = .ok (.aload_n 0, 1) := by decide +kernel
theorem dX11_advance_49 : decode cX11_advance 49 = .ok (.getfield 7, 3) := by decide +kernel
theorem dX11_advance_52 : decode cX11_advance 52 = .ok (.bipush 6, 2) := by decide +kernel
theorem dX11_advance_54 : decode cX11_advance 54 = .ok (.dup2, 1) := by decide +kernel
theorem dX11_advance_55 : decode cX11_advance 55 = .ok (.laload, 1) := by decide +kernel
theorem dX11_advance_56 : decode cX11_advance 56 = .ok (.iload_n 2, 1) := by decide +kernel
theorem dX11_advance_57 : decode cX11_advance 57 = .ok (.i2l, 1) := by decide +kernel
theorem dX11_advance_58 : decode cX11_advance 58 = .ok (.ladd, 1) := by decide +kernel
theorem dX11_advance_59 : decode cX11_advance 59 = .ok (.lastore, 1) := by decide +kernel
theorem dX11_advance_60 : decode cX11_advance 60 = .ok (.aload_n 0, 1) := by decide +kernel
theorem dX11_advance_61 : decode cX11_advance 61 = .ok (.getfield 7, 3) := by decide +kernel
theorem dX11_advance_64 : decode cX11_advance 64 = .ok (.iconst 2, 1) := by decide +kernel
theorem dX11_advance_65 : decode cX11_advance 65 = .ok (.dup2, 1) := by decide +kernel
theorem dX11_advance_66 : decode cX11_advance 66 = .ok (.laload, 1) := by decide +kernel
theorem dX11_advance_67 : decode cX11_advance 67 = .ok (.iload_n 2, 1) := by decide +kernel
theorem dX11_advance_68 : decode cX11_advance 68 = .ok (.i2l, 1) := by decide +kernel
theorem dX11_advance_69 : decode cX11_advance 69 = .ok (.lsub, 1) := by decide +kernel
theorem dX11_advance_70 : decode cX11_advance 70 = .ok (.lastore, 1) := by decide +kernel
theorem dX11_advance_71 : decode cX11_advance 71 = .ok (.aload_n 0, 1) := by decide +kernel
theorem dX11_advance_72 : decode cX11_advance 72 = .ok (.getfield 29, 3) := by decide +kernel
theorem dX11_advance_75 : decode cX11_advance 75 = .ok (.iload_n 1, 1) := by decide +kernel
theorem dX11_advance_76 : decode cX11_advance 76 = .ok (.laload, 1) := by decide +kernel
theorem dX11_advance_77 : decode cX11_advance 77 = .ok (.lreturn, 1) := by decide +kernel
def f_advance (p1 : Int32) (p2 : Int32) (M : MS) : Int64 × MS :=
    if P_isPerson p1 M then
      if P_in p2 1 1000000 then
        (((gJ M 9 p1) + (p2.toInt64)), (rJ (rJ (rJ (sI M 0 0) 9 p1 ((gJ M 9 p1) + (p2.toInt64))) 2 6 ((gJ M 2 6) + (p2.toInt64))) 2 2 ((gJ M 2 2) - (p2.toInt64))))
      else
      (0, (sI M 0 2))
    else
    (0, (sI M 0 1))
abbrev rm_X11_advance : Room := { frames := 2, cells := 0, slots := 0, locals := 43 }
set_option maxRecDepth 100000 in
set_option maxHeartbeats 4000000 in
theorem c_advance {l : Launch} {k : KC} {mo : Nat} {ad : Nat → Nat} (hl : l.stackTraces = false) (hM : HM mo ad) {M : MS} {p1 : Int32} {p2 : Int32} (h3 : LE (mI M 3) 12) : CM l k mo ad yX11_advance (.code yX11_advance cX11_advance 3 (some .long)) rm_X11_advance [.int p1, .int p2] M (some (.long (f_advance p1 p2 M).1)) (f_advance p1 p2 M).2 := by
  refine MC.of 0 hl (by decide) (Nat.le_of_ble_eq_true rfl) ?_
  intro p e s m args below meth c A Q G B _ _
  show Wx p l e rm_X11_advance s m args below meth c k A 3 Q 0 0 0 [some (.ref mo), some (.int p1), some (.int p2)] [] (mW k mo ad M)
  refine x_aload0 (pc := 0) G dX11_advance_0 ?_
  refine x_aload0 (pc := 1) G dX11_advance_1 ?_
  refine x_iload1 (pc := 2) G dX11_advance_2 ?_
  refine y_cb1 (pc := 3) G (b_isPerson hl hM ) q_ml_X11_206 h_X11_isPerson rfl ⟨Nat.le_of_ble_eq_true rfl, Nat.le_of_ble_eq_true rfl⟩ (Nat.le_of_ble_eq_true rfl) (Nat.le_refl _) (Nat.le_refl _) dX11_advance_3 (fun c1 => ?_) (fun c1 => ?_)
  · refine x_if_ne (pc := 6) (y := 0) (tgt := 13) G dX11_advance_6 rfl (fun _ => ?_) (fun q => absurd q (by decide))
    refine x_iload2 (pc := 13) G dX11_advance_13 ?_
    refine x_iconst (pc := 14) (v := 1) G dX11_advance_14 ic_1 ?_
    refine x_ldcw (pc := 15) G q_cs_X11_322 dX11_advance_15 ?_
    refine x_cSb3 (pc := 18) G (b_in hl hM _) q_ml_X11_181 h_X11_in ⟨Nat.le_of_ble_eq_true rfl, Nat.le_of_ble_eq_true rfl⟩ (Nat.le_of_ble_eq_true rfl) (Nat.le_refl _) (Nat.le_refl _) dX11_advance_18 (fun c2 => ?_) (fun c2 => ?_)
    · refine x_if_eq (pc := 21) (y := 0) (tgt := 28) G dX11_advance_21 rfl (fun q => absurd q (by decide)) (fun _ => ?_)
      refine x_iconst (pc := 24) (v := 0) G dX11_advance_24 ic_0 ?_
      refine x_goto (pc := 25) (tgt := 29) G dX11_advance_25 rfl ?_
      refine y_c1 (pc := 29) G (c_holds0 hl hM) q_ml_X11_210 h_X11_holds rfl ⟨Nat.le_of_ble_eq_true rfl, Nat.le_of_ble_eq_true rfl⟩ (Nat.le_of_ble_eq_true rfl) (Nat.le_refl _) (Nat.le_refl _) dX11_advance_29 ?_
      refine x_if_ne (pc := 32) (y := 0) (tgt := 37) G dX11_advance_32 rfl (fun _ => ?_) (fun q => absurd q (by decide))
      refine x_aload0 (pc := 37) G dX11_advance_37 ?_
      refine y_gA (pc := 38) G g_29 mG_9 dX11_advance_38 ?_
      refine x_iload1 (pc := 41) G dX11_advance_41 ?_
      refine x_dup2 (pc := 42) G dX11_advance_42 rfl rfl ?_
      refine y_lald (pc := 43) (v := (gJ M 9 p1)) G hM a_9 (vin_lt h3 (by decide) c1) gJ_sI dX11_advance_43 ?_
      refine x_iload2 (pc := 44) G dX11_advance_44 ?_
      refine x_i2l (pc := 45) G dX11_advance_45 ?_
      refine x_ladd (pc := 46) G dX11_advance_46 ?_
      refine y_last (pc := 47) G hM a_9 (vin_lt h3 (by decide) c1) dX11_advance_47 ?_
      refine x_aload0 (pc := 48) G dX11_advance_48 ?_
      refine y_gA (pc := 49) G g_7 mG_2 dX11_advance_49 ?_
      refine x_bipush (pc := 52) (v := 6) G dX11_advance_52 bp_6 ?_
      refine x_dup2 (pc := 54) G dX11_advance_54 rfl rfl ?_
      refine y_lald (pc := 55) (v := (gJ M 2 6)) G hM a_2 vk9_6 ((gJ_rJn rfl).trans gJ_sI) dX11_advance_55 ?_
      refine x_iload2 (pc := 56) G dX11_advance_56 ?_
      refine x_i2l (pc := 57) G dX11_advance_57 ?_
      refine x_ladd (pc := 58) G dX11_advance_58 ?_
      refine y_last (pc := 59) G hM a_2 vk9_6 dX11_advance_59 ?_
      refine x_aload0 (pc := 60) G dX11_advance_60 ?_
      refine y_gA (pc := 61) G g_7 mG_2 dX11_advance_61 ?_
      refine x_iconst (pc := 64) (v := 2) G dX11_advance_64 ic_2 ?_
      refine x_dup2 (pc := 65) G dX11_advance_65 rfl rfl ?_
      refine y_lald (pc := 66) (v := (gJ M 2 2)) G hM a_2 vk9_2 ((gJ_rJc (by decide)).trans ((gJ_rJn rfl).trans gJ_sI)) dX11_advance_66 ?_
      refine x_iload2 (pc := 67) G dX11_advance_67 ?_
      refine x_i2l (pc := 68) G dX11_advance_68 ?_
      refine x_lsub (pc := 69) G dX11_advance_69 ?_
      refine y_last (pc := 70) G hM a_2 vk9_2 dX11_advance_70 ?_
      refine x_aload0 (pc := 71) G dX11_advance_71 ?_
      refine y_gA (pc := 72) G g_29 mG_9 dX11_advance_72 ?_
      refine x_iload1 (pc := 75) G dX11_advance_75 ?_
      refine y_lald (pc := 76) (v := ((gJ M 9 p1) + (p2.toInt64))) G hM a_9 (vin_lt h3 (by decide) c1) ((gJ_rJn rfl).trans ((gJ_rJn rfl).trans gJ_rJs)) dX11_advance_76 ?_
      exact x_lret (pc := 77) G B rfl dX11_advance_77 ⟨by rw [f_advance, if_pos c1, if_pos c2], by rw [f_advance, if_pos c1, if_pos c2]⟩
    refine x_if_eq (pc := 21) (y := 0) (tgt := 28) G dX11_advance_21 rfl (fun _ => ?_) (fun q => absurd q (by decide))
    refine x_iconst (pc := 28) (v := 2) G dX11_advance_28 ic_2 ?_
    refine y_c1 (pc := 29) G (c_holdsN hl hM (by decide)) q_ml_X11_210 h_X11_holds rfl ⟨Nat.le_of_ble_eq_true rfl, Nat.le_of_ble_eq_true rfl⟩ (Nat.le_of_ble_eq_true rfl) (Nat.le_refl _) (Nat.le_refl _) dX11_advance_29 ?_
    refine x_if_ne (pc := 32) (y := 0) (tgt := 37) G dX11_advance_32 rfl (fun q => absurd q (by decide)) (fun _ => ?_)
    refine x_lconst (pc := 35) (v := 0) G dX11_advance_35 lc_0 ?_
    exact x_lret (pc := 36) G B rfl dX11_advance_36 ⟨by rw [f_advance, if_pos c1, if_neg c2], by rw [f_advance, if_pos c1, if_neg c2]⟩
  refine x_if_ne (pc := 6) (y := 0) (tgt := 13) G dX11_advance_6 rfl (fun q => absurd q (by decide)) (fun _ => ?_)
  refine x_iconst (pc := 9) (v := 1) G dX11_advance_9 ic_1 ?_
  refine x_goto (pc := 10) (tgt := 29) G dX11_advance_10 rfl ?_
  refine y_c1 (pc := 29) G (c_holdsN hl hM (by decide)) q_ml_X11_210 h_X11_holds rfl ⟨Nat.le_of_ble_eq_true rfl, Nat.le_of_ble_eq_true rfl⟩ (Nat.le_of_ble_eq_true rfl) (Nat.le_refl _) (Nat.le_refl _) dX11_advance_29 ?_
  refine x_if_ne (pc := 32) (y := 0) (tgt := 37) G dX11_advance_32 rfl (fun q => absurd q (by decide)) (fun _ => ?_)
  refine x_lconst (pc := 35) (v := 0) G dX11_advance_35 lc_0 ?_
  exact x_lret (pc := 36) G B rfl dX11_advance_36 ⟨by rw [f_advance, if_neg c1], by rw [f_advance, if_neg c1]⟩
theorem dX11_settle_0 : decode cX11_settle 0 = .ok (.aload_n 0, 1) := by decide +kernel
theorem dX11_settle_1 : decode cX11_settle 1 = .ok (.aload_n 0, 1) := by decide +kernel
theorem dX11_settle_2 : decode cX11_settle 2 = .ok (.iload_n 1, 1) := by decide +kernel
theorem dX11_settle_3 : decode cX11_settle 3 = .ok (.invokevirtual 206, 3) := by decide +kernel
theorem dX11_settle_6 : decode cX11_settle 6 = .ok (.ifCond .eq 7, 3) := by decide +kernel
theorem dX11_settle_9 : decode cX11_settle 9 = .ok (.iconst 0, 1) := by decide +kernel
theorem dX11_settle_10 : decode cX11_settle 10 = .ok (.goto 4, 3) := by decide +kernel
theorem dX11_settle_13 : decode cX11_settle 13 = .ok (.iconst 1, 1) := by decide +kernel
theorem dX11_settle_14 : decode cX11_settle 14 = .ok (.invokevirtual 210, 3) := by decide +kernel
theorem dX11_settle_17 : decode cX11_settle 17 = .ok (.ifCond .ne 5, 3) := by decide +kernel
theorem dX11_settle_20 : decode cX11_settle 20 = .ok (.lconst 0, 1) := by decide +kernel
theorem dX11_settle_21 : decode cX11_settle 21 = .ok (.lreturn, 1) := by decide +kernel
theorem dX11_settle_22 : decode cX11_settle 22 = .ok (.aload_n 0, 1) := by decide +kernel
theorem dX11_settle_23 : decode cX11_settle 23 = .ok (.getfield 26, 3) := by decide +kernel
theorem dX11_settle_26 : decode cX11_settle 26 = .ok (.iload_n 1, 1) := by decide +kernel
theorem dX11_settle_27 : decode cX11_settle 27 = .ok (.laload, 1) := by decide +kernel
theorem dX11_settle_28 : decode cX11_settle 28 = .ok (.aload_n 0, 1) := by decide +kernel
theorem dX11_settle_29 : decode cX11_settle 29 = .ok (.getfield 29, 3) := by decide +kernel
theorem dX11_settle_32 : decode cX11_settle 32 = .ok (.iload_n 1, 1) := by decide +kernel
theorem dX11_settle_33 : decode cX11_settle 33 = .ok (.laload, 1) := by decide +kernel
theorem dX11_settle_34 : decode cX11_settle 34 = .ok (.lsub, 1) := by decide +kernel
theorem dX11_settle_35 : decode cX11_settle 35 = .ok (.lstore_n 2, 1) := by decide +kernel
theorem dX11_settle_36 : decode cX11_settle 36 = .ok (.aload_n 0, 1) := by decide +kernel
theorem dX11_settle_37 : decode cX11_settle 37 = .ok (.getfield 7, 3) := by decide +kernel
theorem dX11_settle_40 : decode cX11_settle 40 = .ok (.bipush 6, 2) := by decide +kernel
theorem dX11_settle_42 : decode cX11_settle 42 = .ok (.dup2, 1) := by decide +kernel
theorem dX11_settle_43 : decode cX11_settle 43 = .ok (.laload, 1) := by decide +kernel
theorem dX11_settle_44 : decode cX11_settle 44 = .ok (.aload_n 0, 1) := by decide +kernel
theorem dX11_settle_45 : decode cX11_settle 45 = .ok (.getfield 29, 3) := by decide +kernel
theorem dX11_settle_48 : decode cX11_settle 48 = .ok (.iload_n 1, 1) := by decide +kernel
theorem dX11_settle_49 : decode cX11_settle 49 = .ok (.laload, 1) := by decide +kernel
theorem dX11_settle_50 : decode cX11_settle 50 = .ok (.lsub, 1) := by decide +kernel
theorem dX11_settle_51 : decode cX11_settle 51 = .ok (.lastore, 1) := by decide +kernel
theorem dX11_settle_52 : decode cX11_settle 52 = .ok (.aload_n 0, 1) := by decide +kernel
theorem dX11_settle_53 : decode cX11_settle 53 = .ok (.getfield 7, 3) := by decide +kernel
theorem dX11_settle_56 : decode cX11_settle 56 = .ok (.bipush 8, 2) := by decide +kernel
theorem dX11_settle_58 : decode cX11_settle 58 = .ok (.dup2, 1) := by decide +kernel
theorem dX11_settle_59 : decode cX11_settle 59 = .ok (.laload, 1) := by decide +kernel
theorem dX11_settle_60 : decode cX11_settle 60 = .ok (.aload_n 0, 1) := by decide +kernel
theorem dX11_settle_61 : decode cX11_settle 61 = .ok (.getfield 26, 3) := by decide +kernel
theorem dX11_settle_64 : decode cX11_settle 64 = .ok (.iload_n 1, 1) := by decide +kernel
theorem dX11_settle_65 : decode cX11_settle 65 = .ok (.laload, 1) := by decide +kernel
theorem dX11_settle_66 : decode cX11_settle 66 = .ok (.ladd, 1) := by decide +kernel
theorem dX11_settle_67 : decode cX11_settle 67 = .ok (.lastore, 1) := by decide +kernel
theorem dX11_settle_68 : decode cX11_settle 68 = .ok (.aload_n 0, 1) := by decide +kernel
theorem dX11_settle_69 : decode cX11_settle 69 = .ok (.getfield 7, 3) := by decide +kernel
theorem dX11_settle_72 : decode cX11_settle 72 = .ok (.iconst 2, 1) := by decide +kernel
theorem dX11_settle_73 : decode cX11_settle 73 = .ok (.dup2, 1) := by decide +kernel
theorem dX11_settle_74 : decode cX11_settle 74 = .ok (.laload, 1) := by decide +kernel
theorem dX11_settle_75 : decode cX11_settle 75 = .ok (.lload_n 2, 1) := by decide +kernel
theorem dX11_settle_76 : decode cX11_settle 76 = .ok (.lsub, 1) := by decide +kernel
theorem dX11_settle_77 : decode cX11_settle 77 = .ok (.lastore, 1) := by decide +kernel
theorem dX11_settle_78 : decode cX11_settle 78 = .ok (.aload_n 0, 1) := by decide +kernel
theorem dX11_settle_79 : decode cX11_settle 79 = .ok (.getfield 26, 3) := by decide +kernel
theorem dX11_settle_82 : decode cX11_settle 82 = .ok (.iload_n 1, 1) := by decide +kernel
theorem dX11_settle_83 : decode cX11_settle 83 = .ok (.lconst 0, 1) := by decide +kernel
theorem dX11_settle_84 : decode cX11_settle 84 = .ok (.lastore, 1) := by decide +kernel
theorem dX11_settle_85 : decode cX11_settle 85 = .ok (.aload_n 0, 1) := by decide +kernel
theorem dX11_settle_86 : decode cX11_settle 86 = .ok (.getfield 29, 3) := by decide +kernel
theorem dX11_settle_89 : decode cX11_settle 89 = .ok (.iload_n 1, 1) := by decide +kernel
theorem dX11_settle_90 : decode cX11_settle 90 = .ok (.lconst 0, 1) := by decide +kernel
theorem dX11_settle_91 : decode cX11_settle 91 = .ok (.lastore, 1) := by decide +kernel
theorem dX11_settle_92 : decode cX11_settle 92 = .ok (.lload_n 2, 1) := by decide +kernel
theorem dX11_settle_93 : decode cX11_settle 93 = .ok (.lreturn, 1) := by decide +kernel
def f_settle (p1 : Int32) (M : MS) : Int64 × MS :=
    if P_isPerson p1 M then
      (((gJ M 8 p1) - (gJ M 9 p1)), (rJ (rJ (rJ (rJ (rJ (sI M 0 0) 2 6 ((gJ M 2 6) - (gJ M 9 p1))) 2 8 ((gJ M 2 8) + (gJ M 8 p1))) 2 2 ((gJ M 2 2) - ((gJ M 8 p1) - (gJ M 9 p1)))) 8 p1 0) 9 p1 0))
    else
    (0, (sI M 0 1))
abbrev rm_X11_settle : Room := { frames := 2, cells := 0, slots := 0, locals := 43 }
set_option maxRecDepth 100000 in
set_option maxHeartbeats 4000000 in
theorem c_settle {l : Launch} {k : KC} {mo : Nat} {ad : Nat → Nat} (hl : l.stackTraces = false) (hM : HM mo ad) {M : MS} {p1 : Int32} (h3 : LE (mI M 3) 12) : CM l k mo ad yX11_settle (.code yX11_settle cX11_settle 4 (some .long)) rm_X11_settle [.int p1] M (some (.long (f_settle p1 M).1)) (f_settle p1 M).2 := by
  refine MC.of 2 hl (by decide) (Nat.le_of_ble_eq_true rfl) ?_
  intro p e s m args below meth c A Q G B _ _
  show Wx p l e rm_X11_settle s m args below meth c k A 4 Q 0 0 0 [some (.ref mo), some (.int p1), none, none] [] (mW k mo ad M)
  refine x_aload0 (pc := 0) G dX11_settle_0 ?_
  refine x_aload0 (pc := 1) G dX11_settle_1 ?_
  refine x_iload1 (pc := 2) G dX11_settle_2 ?_
  refine y_cb1 (pc := 3) G (b_isPerson hl hM ) q_ml_X11_206 h_X11_isPerson rfl ⟨Nat.le_of_ble_eq_true rfl, Nat.le_of_ble_eq_true rfl⟩ (Nat.le_of_ble_eq_true rfl) (Nat.le_refl _) (Nat.le_refl _) dX11_settle_3 (fun c1 => ?_) (fun c1 => ?_)
  · refine x_if_eq (pc := 6) (y := 0) (tgt := 13) G dX11_settle_6 rfl (fun q => absurd q (by decide)) (fun _ => ?_)
    refine x_iconst (pc := 9) (v := 0) G dX11_settle_9 ic_0 ?_
    refine x_goto (pc := 10) (tgt := 14) G dX11_settle_10 rfl ?_
    refine y_c1 (pc := 14) G (c_holds0 hl hM) q_ml_X11_210 h_X11_holds rfl ⟨Nat.le_of_ble_eq_true rfl, Nat.le_of_ble_eq_true rfl⟩ (Nat.le_of_ble_eq_true rfl) (Nat.le_refl _) (Nat.le_refl _) dX11_settle_14 ?_
    refine x_if_ne (pc := 17) (y := 0) (tgt := 22) G dX11_settle_17 rfl (fun _ => ?_) (fun q => absurd q (by decide))
    refine x_aload0 (pc := 22) G dX11_settle_22 ?_
    refine y_gA (pc := 23) G g_26 mG_8 dX11_settle_23 ?_
    refine x_iload1 (pc := 26) G dX11_settle_26 ?_
    refine y_lald (pc := 27) (v := (gJ M 8 p1)) G hM a_8 (vin_lt h3 (by decide) c1) gJ_sI dX11_settle_27 ?_
    refine x_aload0 (pc := 28) G dX11_settle_28 ?_
    refine y_gA (pc := 29) G g_29 mG_9 dX11_settle_29 ?_
    refine x_iload1 (pc := 32) G dX11_settle_32 ?_
    refine y_lald (pc := 33) (v := (gJ M 9 p1)) G hM a_9 (vin_lt h3 (by decide) c1) gJ_sI dX11_settle_33 ?_
    refine x_lsub (pc := 34) G dX11_settle_34 ?_
    refine x_lstore2 (pc := 35) G dX11_settle_35 (Nat.le_of_ble_eq_true rfl) rfl ?_
    refine x_aload0 (pc := 36) G dX11_settle_36 ?_
    refine y_gA (pc := 37) G g_7 mG_2 dX11_settle_37 ?_
    refine x_bipush (pc := 40) (v := 6) G dX11_settle_40 bp_6 ?_
    refine x_dup2 (pc := 42) G dX11_settle_42 rfl rfl ?_
    refine y_lald (pc := 43) (v := (gJ M 2 6)) G hM a_2 vk9_6 gJ_sI dX11_settle_43 ?_
    refine x_aload0 (pc := 44) G dX11_settle_44 ?_
    refine y_gA (pc := 45) G g_29 mG_9 dX11_settle_45 ?_
    refine x_iload1 (pc := 48) G dX11_settle_48 ?_
    refine y_lald (pc := 49) (v := (gJ M 9 p1)) G hM a_9 (vin_lt h3 (by decide) c1) gJ_sI dX11_settle_49 ?_
    refine x_lsub (pc := 50) G dX11_settle_50 ?_
    refine y_last (pc := 51) G hM a_2 vk9_6 dX11_settle_51 ?_
    refine x_aload0 (pc := 52) G dX11_settle_52 ?_
    refine y_gA (pc := 53) G g_7 mG_2 dX11_settle_53 ?_
    refine x_bipush (pc := 56) (v := 8) G dX11_settle_56 bp_8 ?_
    refine x_dup2 (pc := 58) G dX11_settle_58 rfl rfl ?_
    refine y_lald (pc := 59) (v := (gJ M 2 8)) G hM a_2 vk9_8 ((gJ_rJc (by decide)).trans gJ_sI) dX11_settle_59 ?_
    refine x_aload0 (pc := 60) G dX11_settle_60 ?_
    refine y_gA (pc := 61) G g_26 mG_8 dX11_settle_61 ?_
    refine x_iload1 (pc := 64) G dX11_settle_64 ?_
    refine y_lald (pc := 65) (v := (gJ M 8 p1)) G hM a_8 (vin_lt h3 (by decide) c1) ((gJ_rJn rfl).trans gJ_sI) dX11_settle_65 ?_
    refine x_ladd (pc := 66) G dX11_settle_66 ?_
    refine y_last (pc := 67) G hM a_2 vk9_8 dX11_settle_67 ?_
    refine x_aload0 (pc := 68) G dX11_settle_68 ?_
    refine y_gA (pc := 69) G g_7 mG_2 dX11_settle_69 ?_
    refine x_iconst (pc := 72) (v := 2) G dX11_settle_72 ic_2 ?_
    refine x_dup2 (pc := 73) G dX11_settle_73 rfl rfl ?_
    refine y_lald (pc := 74) (v := (gJ M 2 2)) G hM a_2 vk9_2 ((gJ_rJc (by decide)).trans ((gJ_rJc (by decide)).trans gJ_sI)) dX11_settle_74 ?_
    refine x_lload2 (pc := 75) G dX11_settle_75 ?_
    refine x_lsub (pc := 76) G dX11_settle_76 ?_
    refine y_last (pc := 77) G hM a_2 vk9_2 dX11_settle_77 ?_
    refine x_aload0 (pc := 78) G dX11_settle_78 ?_
    refine y_gA (pc := 79) G g_26 mG_8 dX11_settle_79 ?_
    refine x_iload1 (pc := 82) G dX11_settle_82 ?_
    refine x_lconst (pc := 83) (v := 0) G dX11_settle_83 lc_0 ?_
    refine y_last (pc := 84) G hM a_8 (vin_lt h3 (by decide) c1) dX11_settle_84 ?_
    refine x_aload0 (pc := 85) G dX11_settle_85 ?_
    refine y_gA (pc := 86) G g_29 mG_9 dX11_settle_86 ?_
    refine x_iload1 (pc := 89) G dX11_settle_89 ?_
    refine x_lconst (pc := 90) (v := 0) G dX11_settle_90 lc_0 ?_
    refine y_last (pc := 91) G hM a_9 (vin_lt h3 (by decide) c1) dX11_settle_91 ?_
    refine x_lload2 (pc := 92) G dX11_settle_92 ?_
    exact x_lret (pc := 93) G B rfl dX11_settle_93 ⟨by rw [f_settle, if_pos c1], by rw [f_settle, if_pos c1]⟩
  refine x_if_eq (pc := 6) (y := 0) (tgt := 13) G dX11_settle_6 rfl (fun _ => ?_) (fun q => absurd q (by decide))
  refine x_iconst (pc := 13) (v := 1) G dX11_settle_13 ic_1 ?_
  refine y_c1 (pc := 14) G (c_holdsN hl hM (by decide)) q_ml_X11_210 h_X11_holds rfl ⟨Nat.le_of_ble_eq_true rfl, Nat.le_of_ble_eq_true rfl⟩ (Nat.le_of_ble_eq_true rfl) (Nat.le_refl _) (Nat.le_refl _) dX11_settle_14 ?_
  refine x_if_ne (pc := 17) (y := 0) (tgt := 22) G dX11_settle_17 rfl (fun q => absurd q (by decide)) (fun _ => ?_)
  refine x_lconst (pc := 20) (v := 0) G dX11_settle_20 lc_0 ?_
  exact x_lret (pc := 21) G B rfl dX11_settle_21 ⟨by rw [f_settle, if_neg c1], by rw [f_settle, if_neg c1]⟩
theorem dX11_card_0 : decode cX11_card 0 = .ok (.aload_n 0, 1) := by decide +kernel
theorem dX11_card_1 : decode cX11_card 1 = .ok (.aload_n 0, 1) := by decide +kernel
theorem dX11_card_2 : decode cX11_card 2 = .ok (.iload_n 1, 1) := by decide +kernel
theorem dX11_card_3 : decode cX11_card 3 = .ok (.invokevirtual 206, 3) := by decide +kernel
theorem dX11_card_6 : decode cX11_card 6 = .ok (.ifCond .ne 7, 3) := by decide +kernel
theorem dX11_card_9 : decode cX11_card 9 = .ok (.iconst 1, 1) := by decide +kernel
theorem dX11_card_10 : decode cX11_card 10 = .ok (.goto 32, 3) := by decide +kernel
theorem dX11_card_13 : decode cX11_card 13 = .ok (.iload_n 2, 1) := by decide +kernel
theorem dX11_card_14 : decode cX11_card 14 = .ok (.iconst 1, 1) := by decide +kernel
theorem dX11_card_15 : decode cX11_card 15 = .ok (.ldc_w 322, 3) := by decide +kernel
theorem dX11_card_18 : decode cX11_card 18 = .ok (.invokestatic 181, 3) := by decide +kernel
theorem dX11_card_21 : decode cX11_card 21 = .ok (.ifCond .ne 7, 3) := by decide +kernel
theorem dX11_card_24 : decode cX11_card 24 = .ok (.iconst 2, 1) := by decide +kernel
theorem dX11_card_25 : decode cX11_card 25 = .ok (.goto 17, 3) := by decide +kernel
theorem dX11_card_28 : decode cX11_card 28 = .ok (.aload_n 0, 1) := by decide +kernel
theorem dX11_card_29 : decode cX11_card 29 = .ok (.getfield 323, 3) := by decide +kernel
theorem dX11_card_32 : decode cX11_card 32 = .ok (.bipush 40, 2) := by decide +kernel
theorem dX11_card_34 : decode cX11_card 34 = .ok (.if_icmp .ne 7, 3) := by decide +kernel
theorem dX11_card_37 : decode cX11_card 37 = .ok (.iconst 3, 1) := by decide +kernel
theorem dX11_card_38 : decode cX11_card 38 = .ok (.goto 4, 3) := by decide +kernel
theorem dX11_card_41 : decode cX11_card 41 = .ok (.iconst 0, 1) := by decide +kernel
theorem dX11_card_42 : decode cX11_card 42 = .ok (.invokevirtual 210, 3) := by decide +kernel
theorem dX11_card_45 : decode cX11_card 45 = .ok (.ifCond .ne 5, 3) := by decide +kernel
theorem dX11_card_48 : decode cX11_card 48 = .ok (.iconst 0, 1) := by decide +kernel
theorem dX11_card_49 : decode cX11_card 49 = .ok (.ireturn, 1) := by decide +kernel
theorem dX11_card_50 : decode cX11_card 50 = .ok (.aload_n 0, 1) := by decide +kernel
theorem dX11_card_51 : decode cX11_card 51 = .ok (.getfield 166, 3) := by decide +kernel
theorem dX11_card_54 : decode cX11_card 54 = .ok (.aload_n 0, 1) := by decide +kernel
theorem dX11_card_55 : decode cX11_card 55 = .ok (.getfield 323, 3) := by decide +kernel
theorem dX11_card_58 : decode cX11_card 58 = .ok (.iload_n 1, 1) := by decide +kernel
theorem dX11_card_59 : decode cX11_card 59 = .ok (.iastore, 1) := by decide +kernel
theorem dX11_card_60 : decode cX11_card 60 = .ok (.aload_n 0, 1) := by decide +kernel
theorem dX11_card_61 : decode cX11_card 61 = .ok (.getfield 169, 3) := by decide +kernel
theorem dX11_card_64 : decode cX11_card 64 = .ok (.aload_n 0, 1) := by decide +kernel
theorem dX11_card_65 : decode cX11_card 65 = .ok (.getfield 323, 3) := by decide +kernel
theorem dX11_card_68 : decode cX11_card 68 = .ok (.iload_n 2, 1) := by decide +kernel
theorem dX11_card_69 : decode cX11_card 69 = .ok (.iastore, 1) := by decide +kernel
theorem dX11_card_70 : decode cX11_card 70 = .ok (.aload_n 0, 1) := by decide +kernel
theorem dX11_card_71 : decode cX11_card 71 = .ok (.dup, 1) := by decide +kernel
theorem dX11_card_72 : decode cX11_card 72 = .ok (.getfield 323, 3) := by decide +kernel
theorem dX11_card_75 : decode cX11_card 75 = .ok (.iconst 1, 1) := by decide +kernel
theorem dX11_card_76 : decode cX11_card 76 = .ok (.iadd, 1) := by decide +kernel
theorem dX11_card_77 : decode cX11_card 77 = .ok (.putfield 323, 3) := by decide +kernel
theorem dX11_card_80 : decode cX11_card 80 = .ok (.aload_n 0, 1) := by decide +kernel
theorem dX11_card_81 : decode cX11_card 81 = .ok (.getfield 323, 3) := by decide +kernel
theorem dX11_card_84 : decode cX11_card 84 = .ok (.iconst 1, 1) := by decide +kernel
theorem dX11_card_85 : decode cX11_card 85 = .ok (.isub, 1) := by decide +kernel
theorem dX11_card_86 : decode cX11_card 86 = .ok (.ireturn, 1) := by decide +kernel
def f_card (p1 : Int32) (p2 : Int32) (M : MS) : Int32 × MS :=
    if P_isPerson p1 M then
      if P_in p2 1 1000000 then
        if (mI M 59) = 40 then
          (0, (sI M 0 3))
        else
        ((((mI M 59) + 1) - 1), (sI (rI (rI (sI M 0 0) 60 (mI M 59) p1) 61 (mI M 59) p2) 59 ((mI M 59) + 1)))
      else
      (0, (sI M 0 2))
    else
    (0, (sI M 0 1))
abbrev rm_X11_card : Room := { frames := 2, cells := 0, slots := 0, locals := 43 }
set_option maxRecDepth 100000 in
set_option maxHeartbeats 4000000 in
theorem c_card {l : Launch} {k : KC} {mo : Nat} {ad : Nat → Nat} (hl : l.stackTraces = false) (hM : HM mo ad) {M : MS} {p1 : Int32} {p2 : Int32} (h3 : LE (mI M 3) 12) (h59 : LE (mI M 59) 40) : CM l k mo ad yX11_card (.code yX11_card cX11_card 3 (some .int)) rm_X11_card [.int p1, .int p2] M (some (.int (f_card p1 p2 M).1)) (f_card p1 p2 M).2 := by
  refine MC.of 0 hl (by decide) (Nat.le_of_ble_eq_true rfl) ?_
  intro p e s m args below meth c A Q G B _ _
  show Wx p l e rm_X11_card s m args below meth c k A 3 Q 0 0 0 [some (.ref mo), some (.int p1), some (.int p2)] [] (mW k mo ad M)
  refine x_aload0 (pc := 0) G dX11_card_0 ?_
  refine x_aload0 (pc := 1) G dX11_card_1 ?_
  refine x_iload1 (pc := 2) G dX11_card_2 ?_
  refine y_cb1 (pc := 3) G (b_isPerson hl hM ) q_ml_X11_206 h_X11_isPerson rfl ⟨Nat.le_of_ble_eq_true rfl, Nat.le_of_ble_eq_true rfl⟩ (Nat.le_of_ble_eq_true rfl) (Nat.le_refl _) (Nat.le_refl _) dX11_card_3 (fun c1 => ?_) (fun c1 => ?_)
  · refine x_if_ne (pc := 6) (y := 0) (tgt := 13) G dX11_card_6 rfl (fun _ => ?_) (fun q => absurd q (by decide))
    refine x_iload2 (pc := 13) G dX11_card_13 ?_
    refine x_iconst (pc := 14) (v := 1) G dX11_card_14 ic_1 ?_
    refine x_ldcw (pc := 15) G q_cs_X11_322 dX11_card_15 ?_
    refine x_cSb3 (pc := 18) G (b_in hl hM _) q_ml_X11_181 h_X11_in ⟨Nat.le_of_ble_eq_true rfl, Nat.le_of_ble_eq_true rfl⟩ (Nat.le_of_ble_eq_true rfl) (Nat.le_refl _) (Nat.le_refl _) dX11_card_18 (fun c2 => ?_) (fun c2 => ?_)
    · refine x_if_ne (pc := 21) (y := 0) (tgt := 28) G dX11_card_21 rfl (fun _ => ?_) (fun q => absurd q (by decide))
      refine x_aload0 (pc := 28) G dX11_card_28 ?_
      refine y_gI (pc := 29) (v := (mI M 59)) G g_323 mG_59 rfl dX11_card_29 ?_
      refine x_bipush (pc := 32) (v := 40) G dX11_card_32 bp_40 ?_
      refine x_icmp_ne (pc := 34) (tgt := 41) G dX11_card_34 rfl (fun c3 => ?_) (fun c3 => ?_)
      · refine x_iconst (pc := 41) (v := 0) G dX11_card_41 ic_0 ?_
        refine y_c1 (pc := 42) G (c_holds0 hl hM) q_ml_X11_210 h_X11_holds rfl ⟨Nat.le_of_ble_eq_true rfl, Nat.le_of_ble_eq_true rfl⟩ (Nat.le_of_ble_eq_true rfl) (Nat.le_refl _) (Nat.le_refl _) dX11_card_42 ?_
        refine x_if_ne (pc := 45) (y := 0) (tgt := 50) G dX11_card_45 rfl (fun _ => ?_) (fun q => absurd q (by decide))
        refine x_aload0 (pc := 50) G dX11_card_50 ?_
        refine y_gA (pc := 51) G g_166 mG_60 dX11_card_51 ?_
        refine x_aload0 (pc := 54) G dX11_card_54 ?_
        refine y_gI (pc := 55) (v := (mI M 59)) G g_323 mG_59 (mI_sIn rfl) dX11_card_55 ?_
        refine x_iload1 (pc := 58) G dX11_card_58 ?_
        refine y_iast (pc := 59) G hM a_60 (vin_new h59 (c := 40) rfl (by decide) c3) dX11_card_59 ?_
        refine x_aload0 (pc := 60) G dX11_card_60 ?_
        refine y_gA (pc := 61) G g_169 mG_61 dX11_card_61 ?_
        refine x_aload0 (pc := 64) G dX11_card_64 ?_
        refine y_gI (pc := 65) (v := (mI M 59)) G g_323 mG_59 (mI_rI.trans (mI_sIn rfl)) dX11_card_65 ?_
        refine x_iload2 (pc := 68) G dX11_card_68 ?_
        refine y_iast (pc := 69) G hM a_61 (vin_new h59 (c := 40) rfl (by decide) c3) dX11_card_69 ?_
        refine x_aload0 (pc := 70) G dX11_card_70 ?_
        refine x_dup (pc := 71) G dX11_card_71 rfl ?_
        refine y_gI (pc := 72) (v := (mI M 59)) G g_323 mG_59 (mI_rI.trans (mI_rI.trans (mI_sIn rfl))) dX11_card_72 ?_
        refine x_iconst (pc := 75) (v := 1) G dX11_card_75 ic_1 ?_
        refine x_iadd (pc := 76) G dX11_card_76 ?_
        refine y_pI (pc := 77) G p_323 mS_59 dX11_card_77 ?_
        refine x_aload0 (pc := 80) G dX11_card_80 ?_
        refine y_gI (pc := 81) (v := ((mI M 59) + 1)) G g_323 mG_59 mI_sIs dX11_card_81 ?_
        refine x_iconst (pc := 84) (v := 1) G dX11_card_84 ic_1 ?_
        refine x_isub (pc := 85) G dX11_card_85 ?_
        exact x_iret (pc := 86) G B rfl dX11_card_86 ⟨by rw [f_card, if_pos c1, if_pos c2, if_neg c3], by rw [f_card, if_pos c1, if_pos c2, if_neg c3]⟩
      refine x_iconst (pc := 37) (v := 3) G dX11_card_37 ic_3 ?_
      refine x_goto (pc := 38) (tgt := 42) G dX11_card_38 rfl ?_
      refine y_c1 (pc := 42) G (c_holdsN hl hM (by decide)) q_ml_X11_210 h_X11_holds rfl ⟨Nat.le_of_ble_eq_true rfl, Nat.le_of_ble_eq_true rfl⟩ (Nat.le_of_ble_eq_true rfl) (Nat.le_refl _) (Nat.le_refl _) dX11_card_42 ?_
      refine x_if_ne (pc := 45) (y := 0) (tgt := 50) G dX11_card_45 rfl (fun q => absurd q (by decide)) (fun _ => ?_)
      refine x_iconst (pc := 48) (v := 0) G dX11_card_48 ic_0 ?_
      exact x_iret (pc := 49) G B rfl dX11_card_49 ⟨by rw [f_card, if_pos c1, if_pos c2, if_pos c3], by rw [f_card, if_pos c1, if_pos c2, if_pos c3]⟩
    refine x_if_ne (pc := 21) (y := 0) (tgt := 28) G dX11_card_21 rfl (fun q => absurd q (by decide)) (fun _ => ?_)
    refine x_iconst (pc := 24) (v := 2) G dX11_card_24 ic_2 ?_
    refine x_goto (pc := 25) (tgt := 42) G dX11_card_25 rfl ?_
    refine y_c1 (pc := 42) G (c_holdsN hl hM (by decide)) q_ml_X11_210 h_X11_holds rfl ⟨Nat.le_of_ble_eq_true rfl, Nat.le_of_ble_eq_true rfl⟩ (Nat.le_of_ble_eq_true rfl) (Nat.le_refl _) (Nat.le_refl _) dX11_card_42 ?_
    refine x_if_ne (pc := 45) (y := 0) (tgt := 50) G dX11_card_45 rfl (fun q => absurd q (by decide)) (fun _ => ?_)
    refine x_iconst (pc := 48) (v := 0) G dX11_card_48 ic_0 ?_
    exact x_iret (pc := 49) G B rfl dX11_card_49 ⟨by rw [f_card, if_pos c1, if_neg c2], by rw [f_card, if_pos c1, if_neg c2]⟩
  refine x_if_ne (pc := 6) (y := 0) (tgt := 13) G dX11_card_6 rfl (fun q => absurd q (by decide)) (fun _ => ?_)
  refine x_iconst (pc := 9) (v := 1) G dX11_card_9 ic_1 ?_
  refine x_goto (pc := 10) (tgt := 42) G dX11_card_10 rfl ?_
  refine y_c1 (pc := 42) G (c_holdsN hl hM (by decide)) q_ml_X11_210 h_X11_holds rfl ⟨Nat.le_of_ble_eq_true rfl, Nat.le_of_ble_eq_true rfl⟩ (Nat.le_of_ble_eq_true rfl) (Nat.le_refl _) (Nat.le_refl _) dX11_card_42 ?_
  refine x_if_ne (pc := 45) (y := 0) (tgt := 50) G dX11_card_45 rfl (fun q => absurd q (by decide)) (fun _ => ?_)
  refine x_iconst (pc := 48) (v := 0) G dX11_card_48 ic_0 ?_
  exact x_iret (pc := 49) G B rfl dX11_card_49 ⟨by rw [f_card, if_neg c1], by rw [f_card, if_neg c1]⟩
theorem dX11_tell_0 : decode cX11_tell 0 = .ok (.iload_n 1, 1) := by decide +kernel
theorem dX11_tell_1 : decode cX11_tell 1 = .ok (.iconst 0, 1) := by decide +kernel
theorem dX11_tell_2 : decode cX11_tell 2 = .ok (.aload_n 0, 1) := by decide +kernel
theorem dX11_tell_3 : decode cX11_tell 3 = .ok (.getfield 323, 3) := by decide +kernel
theorem dX11_tell_6 : decode cX11_tell 6 = .ok (.iconst 1, 1) := by decide +kernel
theorem dX11_tell_7 : decode cX11_tell 7 = .ok (.isub, 1) := by decide +kernel
theorem dX11_tell_8 : decode cX11_tell 8 = .ok (.invokestatic 181, 3) := by decide +kernel
theorem dX11_tell_11 : decode cX11_tell 11 = .ok (.ifCond .eq 14, 3) := by decide +kernel
theorem dX11_tell_14 : decode cX11_tell 14 = .ok (.iload_n 2, 1) := by decide +kernel
theorem dX11_tell_15 : decode cX11_tell 15 = .ok (.invokestatic 216, 3) := by decide +kernel
theorem dX11_tell_18 : decode cX11_tell 18 = .ok (.ifCond .eq 7, 3) := by decide +kernel
theorem dX11_tell_21 : decode cX11_tell 21 = .ok (.iconst 1, 1) := by decide +kernel
theorem dX11_tell_22 : decode cX11_tell 22 = .ok (.goto 4, 3) := by decide +kernel
theorem dX11_tell_25 : decode cX11_tell 25 = .ok (.iconst 0, 1) := by decide +kernel
theorem dX11_tell_26 : decode cX11_tell 26 = .ok (.istore 4, 2) := by decide +kernel
theorem dX11_tell_28 : decode cX11_tell 28 = .ok (.iload 4, 2) := by decide +kernel
theorem dX11_tell_30 : decode cX11_tell 30 = .ok (.ifCond .eq 21, 3) := by decide +kernel
theorem dX11_tell_33 : decode cX11_tell 33 = .ok (.iload_n 3, 1) := by decide +kernel
theorem dX11_tell_34 : decode cX11_tell 34 = .ok (.iconst 0, 1) := by decide +kernel
theorem dX11_tell_35 : decode cX11_tell 35 = .ok (.aload_n 0, 1) := by decide +kernel
theorem dX11_tell_36 : decode cX11_tell 36 = .ok (.getfield 169, 3) := by decide +kernel
theorem dX11_tell_39 : decode cX11_tell 39 = .ok (.iload_n 1, 1) := by decide +kernel
theorem dX11_tell_40 : decode cX11_tell 40 = .ok (.iaload, 1) := by decide +kernel
theorem dX11_tell_41 : decode cX11_tell 41 = .ok (.invokestatic 181, 3) := by decide +kernel
theorem dX11_tell_44 : decode cX11_tell 44 = .ok (.ifCond .eq 7, 3) := by decide +kernel
theorem dX11_tell_47 : decode cX11_tell 47 = .ok (.iconst 1, 1) := by decide +kernel
theorem dX11_tell_48 : decode cX11_tell 48 = .ok (.goto 4, 3) := by decide +kernel
theorem dX11_tell_51 : decode cX11_tell 51 = .ok (.iconst 0, 1) := by decide +kernel
theorem dX11_tell_52 : decode cX11_tell 52 = .ok (.istore 5, 2) := by decide +kernel
theorem dX11_tell_54 : decode cX11_tell 54 = .ok (.aload_n 0, 1) := by decide +kernel
theorem dX11_tell_55 : decode cX11_tell 55 = .ok (.iload 4, 2) := by decide +kernel
theorem dX11_tell_57 : decode cX11_tell 57 = .ok (.ifCond .ne 7, 3) := by decide +kernel
theorem dX11_tell_60 : decode cX11_tell 60 = .ok (.iconst 1, 1) := by decide +kernel
theorem dX11_tell_61 : decode cX11_tell 61 = .ok (.goto 47, 3) := by decide +kernel
theorem dX11_tell_64 : decode cX11_tell 64 = .ok (.iload 5, 2) := by decide +kernel
theorem dX11_tell_66 : decode cX11_tell 66 = .ok (.ifCond .ne 7, 3) := by decide +kernel
theorem dX11_tell_69 : decode cX11_tell 69 = .ok (.iconst 2, 1) := by decide +kernel
theorem dX11_tell_70 : decode cX11_tell 70 = .ok (.goto 38, 3) := by decide +kernel
theorem dX11_tell_73 : decode cX11_tell 73 = .ok (.aload_n 0, 1) := by decide +kernel
theorem dX11_tell_74 : decode cX11_tell 74 = .ok (.getfield 172, 3) := by decide +kernel
theorem dX11_tell_77 : decode cX11_tell 77 = .ok (.iload_n 1, 1) := by decide +kernel
theorem dX11_tell_78 : decode cX11_tell 78 = .ok (.baload, 1) := by decide +kernel
theorem dX11_tell_79 : decode cX11_tell 79 = .ok (.ifCond .ne 24, 3) := by decide +kernel
theorem dX11_tell_82 : decode cX11_tell 82 = .ok (.aload_n 0, 1) := by decide +kernel
theorem dX11_tell_83 : decode cX11_tell 83 = .ok (.iload_n 2, 1) := by decide +kernel
theorem dX11_tell_84 : decode cX11_tell 84 = .ok (.aload_n 0, 1) := by decide +kernel
theorem dX11_tell_85 : decode cX11_tell 85 = .ok (.invokevirtual 226, 3) := by decide +kernel
theorem dX11_tell_88 : decode cX11_tell 88 = .ok (.aload_n 0, 1) := by decide +kernel
theorem dX11_tell_89 : decode cX11_tell 89 = .ok (.getfield 169, 3) := by decide +kernel
theorem dX11_tell_92 : decode cX11_tell 92 = .ok (.iload_n 1, 1) := by decide +kernel
theorem dX11_tell_93 : decode cX11_tell 93 = .ok (.iaload, 1) := by decide +kernel
theorem dX11_tell_94 : decode cX11_tell 94 = .ok (.iload_n 3, 1) := by decide +kernel
theorem dX11_tell_95 : decode cX11_tell 95 = .ok (.isub, 1) := by decide +kernel
theorem dX11_tell_96 : decode cX11_tell 96 = .ok (.i2l, 1) := by decide +kernel
theorem dX11_tell_97 : decode cX11_tell 97 = .ok (.invokevirtual 250, 3) := by decide +kernel
theorem dX11_tell_100 : decode cX11_tell 100 = .ok (.ifCond .ne 7, 3) := by decide +kernel
theorem dX11_tell_103 : decode cX11_tell 103 = .ok (.iconst 3, 1) := by decide +kernel
theorem dX11_tell_104 : decode cX11_tell 104 = .ok (.goto 4, 3) := by decide +kernel
theorem dX11_tell_107 : decode cX11_tell 107 = .ok (.iconst 0, 1) := by decide +kernel
theorem dX11_tell_108 : decode cX11_tell 108 = .ok (.invokevirtual 210, 3) := by decide +kernel
theorem dX11_tell_111 : decode cX11_tell 111 = .ok (.ifCond .ne 5, 3) := by decide +kernel
theorem dX11_tell_114 : decode cX11_tell 114 = .ok (.lconst 0, 1) := by decide +kernel
theorem dX11_tell_115 : decode cX11_tell 115 = .ok (.lreturn, 1) := by decide +kernel
theorem dX11_tell_116 : decode cX11_tell 116 = .ok (.aload_n 0, 1) := by decide +kernel
theorem dX11_tell_117 : decode cX11_tell 117 = .ok (.getfield 169, 3) := by decide +kernel
theorem dX11_tell_120 : decode cX11_tell 120 = .ok (.iload_n 1, 1) := by decide +kernel
theorem dX11_tell_121 : decode cX11_tell 121 = .ok (.iaload, 1) := by decide +kernel
theorem dX11_tell_122 : decode cX11_tell 122 = .ok (.iload_n 3, 1) := by decide +kernel
theorem dX11_tell_123 : decode cX11_tell 123 = .ok (.isub, 1) := by decide +kernel
theorem dX11_tell_124 : decode cX11_tell 124 = .ok (.i2l, 1) := by decide +kernel
theorem dX11_tell_125 : decode cX11_tell 125 = .ok (.lstore 6, 2) := by decide +kernel
theorem dX11_tell_127 : decode cX11_tell 127 = .ok (.aload_n 0, 1) := by decide +kernel
theorem dX11_tell_128 : decode cX11_tell 128 = .ok (.getfield 172, 3) := by decide +kernel
theorem dX11_tell_131 : decode cX11_tell 131 = .ok (.iload_n 1, 1) := by decide +kernel
theorem dX11_tell_132 : decode cX11_tell 132 = .ok (.iconst 1, 1) := by decide +kernel
theorem dX11_tell_133 : decode cX11_tell 133 = .ok (.bastore, 1) := by decide +kernel
theorem dX11_tell_134 : decode cX11_tell 134 = .ok (.aload_n 0, 1) := by decide +kernel
theorem dX11_tell_135 : decode cX11_tell 135 = .ok (.dup, 1) := by decide +kernel
theorem dX11_tell_136 : decode cX11_tell 136 = .ok (.getfield 326, 3) := by decide +kernel
theorem dX11_tell_139 : decode cX11_tell 139 = .ok (.aload_n 0, 1) := by decide +kernel
theorem dX11_tell_140 : decode cX11_tell 140 = .ok (.getfield 169, 3) := by decide +kernel
theorem dX11_tell_143 : decode cX11_tell 143 = .ok (.iload_n 1, 1) := by decide +kernel
theorem dX11_tell_144 : decode cX11_tell 144 = .ok (.iaload, 1) := by decide +kernel
theorem dX11_tell_145 : decode cX11_tell 145 = .ok (.i2l, 1) := by decide +kernel
theorem dX11_tell_146 : decode cX11_tell 146 = .ok (.ladd, 1) := by decide +kernel
theorem dX11_tell_147 : decode cX11_tell 147 = .ok (.putfield 326, 3) := by decide +kernel
theorem dX11_tell_150 : decode cX11_tell 150 = .ok (.aload_n 0, 1) := by decide +kernel
theorem dX11_tell_151 : decode cX11_tell 151 = .ok (.getfield 32, 3) := by decide +kernel
theorem dX11_tell_154 : decode cX11_tell 154 = .ok (.iload_n 2, 1) := by decide +kernel
theorem dX11_tell_155 : decode cX11_tell 155 = .ok (.aload_n 0, 1) := by decide +kernel
theorem dX11_tell_156 : decode cX11_tell 156 = .ok (.invokevirtual 226, 3) := by decide +kernel
theorem dX11_tell_159 : decode cX11_tell 159 = .ok (.iconst 2, 1) := by decide +kernel
theorem dX11_tell_160 : decode cX11_tell 160 = .ok (.invokestatic 198, 3) := by decide +kernel
theorem dX11_tell_163 : decode cX11_tell 163 = .ok (.dup2, 1) := by decide +kernel
theorem dX11_tell_164 : decode cX11_tell 164 = .ok (.laload, 1) := by decide +kernel
theorem dX11_tell_165 : decode cX11_tell 165 = .ok (.lload 6, 2) := by decide +kernel
theorem dX11_tell_167 : decode cX11_tell 167 = .ok (.ladd, 1) := by decide +kernel
theorem dX11_tell_168 : decode cX11_tell 168 = .ok (.lastore, 1) := by decide +kernel
theorem dX11_tell_169 : decode cX11_tell 169 = .ok (.aload_n 0, 1) := by decide +kernel
theorem dX11_tell_170 : decode cX11_tell 170 = .ok (.getfield 26, 3) := by decide +kernel
theorem dX11_tell_173 : decode cX11_tell 173 = .ok (.aload_n 0, 1) := by decide +kernel
theorem dX11_tell_174 : decode cX11_tell 174 = .ok (.getfield 166, 3) := by decide +kernel
theorem dX11_tell_177 : decode cX11_tell 177 = .ok (.iload_n 1, 1) := by decide +kernel
theorem dX11_tell_178 : decode cX11_tell 178 = .ok (.iaload, 1) := by decide +kernel
theorem dX11_tell_179 : decode cX11_tell 179 = .ok (.dup2, 1) := by decide +kernel
theorem dX11_tell_180 : decode cX11_tell 180 = .ok (.laload, 1) := by decide +kernel
theorem dX11_tell_181 : decode cX11_tell 181 = .ok (.iload_n 3, 1) := by decide +kernel
theorem dX11_tell_182 : decode cX11_tell 182 = .ok (.i2l, 1) := by decide +kernel
theorem dX11_tell_183 : decode cX11_tell 183 = .ok (.lsub, 1) := by decide +kernel
theorem dX11_tell_184 : decode cX11_tell 184 = .ok (.lastore, 1) := by decide +kernel
theorem dX11_tell_185 : decode cX11_tell 185 = .ok (.aload_n 0, 1) := by decide +kernel
theorem dX11_tell_186 : decode cX11_tell 186 = .ok (.getfield 7, 3) := by decide +kernel
theorem dX11_tell_189 : decode cX11_tell 189 = .ok (.iconst 0, 1) := by decide +kernel
theorem dX11_tell_190 : decode cX11_tell 190 = .ok (.dup2, 1) := by decide +kernel
theorem dX11_tell_191 : decode cX11_tell 191 = .ok (.laload, 1) := by decide +kernel
theorem dX11_tell_192 : decode cX11_tell 192 = .ok (.lload 6, 2) := by decide +kernel
theorem dX11_tell_194 : decode cX11_tell 194 = .ok (.ladd, 1) := by decide +kernel
theorem dX11_tell_195 : decode cX11_tell 195 = .ok (.lastore, 1) := by decide +kernel
theorem dX11_tell_196 : decode cX11_tell 196 = .ok (.aload_n 0, 1) := by decide +kernel
theorem dX11_tell_197 : decode cX11_tell 197 = .ok (.getfield 7, 3) := by decide +kernel
theorem dX11_tell_200 : decode cX11_tell 200 = .ok (.bipush 8, 2) := by decide +kernel
theorem dX11_tell_202 : decode cX11_tell 202 = .ok (.dup2, 1) := by decide +kernel
theorem dX11_tell_203 : decode cX11_tell 203 = .ok (.laload, 1) := by decide +kernel
theorem dX11_tell_204 : decode cX11_tell 204 = .ok (.iload_n 3, 1) := by decide +kernel
theorem dX11_tell_205 : decode cX11_tell 205 = .ok (.i2l, 1) := by decide +kernel
theorem dX11_tell_206 : decode cX11_tell 206 = .ok (.ladd, 1) := by decide +kernel
theorem dX11_tell_207 : decode cX11_tell 207 = .ok (.lastore, 1) := by decide +kernel
theorem dX11_tell_208 : decode cX11_tell 208 = .ok (.aload_n 0, 1) := by decide +kernel
theorem dX11_tell_209 : decode cX11_tell 209 = .ok (.getfield 7, 3) := by decide +kernel
theorem dX11_tell_212 : decode cX11_tell 212 = .ok (.bipush 7, 2) := by decide +kernel
theorem dX11_tell_214 : decode cX11_tell 214 = .ok (.dup2, 1) := by decide +kernel
theorem dX11_tell_215 : decode cX11_tell 215 = .ok (.laload, 1) := by decide +kernel
theorem dX11_tell_216 : decode cX11_tell 216 = .ok (.aload_n 0, 1) := by decide +kernel
theorem dX11_tell_217 : decode cX11_tell 217 = .ok (.getfield 169, 3) := by decide +kernel
theorem dX11_tell_220 : decode cX11_tell 220 = .ok (.iload_n 1, 1) := by decide +kernel
theorem dX11_tell_221 : decode cX11_tell 221 = .ok (.iaload, 1) := by decide +kernel
theorem dX11_tell_222 : decode cX11_tell 222 = .ok (.i2l, 1) := by decide +kernel
theorem dX11_tell_223 : decode cX11_tell 223 = .ok (.lsub, 1) := by decide +kernel
theorem dX11_tell_224 : decode cX11_tell 224 = .ok (.lastore, 1) := by decide +kernel
theorem dX11_tell_225 : decode cX11_tell 225 = .ok (.lload 6, 2) := by decide +kernel
theorem dX11_tell_227 : decode cX11_tell 227 = .ok (.lreturn, 1) := by decide +kernel
def f_tell (p1 : Int32) (p2 : Int32) (p3 : Int32) (M : MS) : Int64 × MS :=
    if P_in p1 0 ((mI M 59) - 1) then
      if P_isCentre p2 then
        if P_in p3 0 (gI M 61 p1) then
          if (gI M 62 p1) = 0 then
            if P_may p2 (f_yearNow M) (((gI M 61 p1) - p3).toInt64) M then
              ((((gI M 61 p1) - p3).toInt64), (rJ (rJ (rJ (rJ (rJ (sJ (rI (sI M 0 0) 62 p1 1) 63 ((mJ M 63) + ((gI M 61 p1).toInt64))) 11 (f_at p2 (f_yearNow (sJ (rI (sI M 0 0) 62 p1 1) 63 ((mJ M 63) + ((gI M 61 p1).toInt64)))) 2) ((gJ M 11 (f_at p2 (f_yearNow (sJ (rI (sI M 0 0) 62 p1 1) 63 ((mJ M 63) + ((gI M 61 p1).toInt64)))) 2)) + (((gI M 61 p1) - p3).toInt64))) 8 (gI M 60 p1) ((gJ M 8 (gI M 60 p1)) - (p3.toInt64))) 2 0 ((gJ M 2 0) + (((gI M 61 p1) - p3).toInt64))) 2 8 ((gJ M 2 8) + (p3.toInt64))) 2 7 ((gJ M 2 7) - ((gI M 61 p1).toInt64))))
            else
            (0, (sI M 0 3))
          else
          (0, (sI M 0 3))
        else
        (0, (sI M 0 2))
      else
      (0, (sI M 0 1))
    else
    (0, (sI M 0 1))
abbrev rm_X11_tell : Room := { frames := 3, cells := 0, slots := 0, locals := 68 }
set_option maxRecDepth 100000 in
set_option maxHeartbeats 4000000 in
theorem c_tell {l : Launch} {k : KC} {mo : Nat} {ad : Nat → Nat} (hl : l.stackTraces = false) (hM : HM mo ad) {M : MS} {p1 : Int32} {p2 : Int32} {p3 : Int32} (h59 : LE (mI M 59) 40) (hc : ∀ e, P_in e 0 (mI M 59 - 1) → vp_in (gI M 60 e) 12) (hy : P_isYear (f_yearNow M)) : CM l k mo ad yX11_tell (.code yX11_tell cX11_tell 8 (some .long)) rm_X11_tell [.int p1, .int p2, .int p3] M (some (.long (f_tell p1 p2 p3 M).1)) (f_tell p1 p2 p3 M).2 := by
  refine MC.of 4 hl (by decide) (Nat.le_of_ble_eq_true rfl) ?_
  intro p e s m args below meth c A Q G B _ _
  show Wx p l e rm_X11_tell s m args below meth c k A 8 Q 0 0 0 [some (.ref mo), some (.int p1), some (.int p2), some (.int p3), none, none, none, none] [] (mW k mo ad M)
  refine x_iload1 (pc := 0) G dX11_tell_0 ?_
  refine x_iconst (pc := 1) (v := 0) G dX11_tell_1 ic_0 ?_
  refine x_aload0 (pc := 2) G dX11_tell_2 ?_
  refine y_gI (pc := 3) (v := (mI M 59)) G g_323 mG_59 rfl dX11_tell_3 ?_
  refine x_iconst (pc := 6) (v := 1) G dX11_tell_6 ic_1 ?_
  refine x_isub (pc := 7) G dX11_tell_7 ?_
  refine x_cSb3 (pc := 8) G (b_in hl hM _) q_ml_X11_181 h_X11_in ⟨Nat.le_of_ble_eq_true rfl, Nat.le_of_ble_eq_true rfl⟩ (Nat.le_of_ble_eq_true rfl) (Nat.le_refl _) (Nat.le_refl _) dX11_tell_8 (fun c1 => ?_) (fun c1 => ?_)
  · refine x_if_eq (pc := 11) (y := 0) (tgt := 25) G dX11_tell_11 rfl (fun q => absurd q (by decide)) (fun _ => ?_)
    refine x_iload2 (pc := 14) G dX11_tell_14 ?_
    refine x_cSb1 (pc := 15) G (b_isCentre hl hM _) q_ml_X11_216 h_X11_isCentre ⟨Nat.le_of_ble_eq_true rfl, Nat.le_of_ble_eq_true rfl⟩ (Nat.le_of_ble_eq_true rfl) (Nat.le_refl _) (Nat.le_refl _) dX11_tell_15 (fun c2 => ?_) (fun c2 => ?_)
    · refine x_if_eq (pc := 18) (y := 0) (tgt := 25) G dX11_tell_18 rfl (fun q => absurd q (by decide)) (fun _ => ?_)
      refine x_iconst (pc := 21) (v := 1) G dX11_tell_21 ic_1 ?_
      refine x_goto (pc := 22) (tgt := 26) G dX11_tell_22 rfl ?_
      refine x_istore4 (pc := 26) G dX11_tell_26 (Nat.le_of_ble_eq_true rfl) rfl ?_
      refine x_iload4 (pc := 28) G dX11_tell_28 ?_
      refine x_if_eq (pc := 30) (y := 0) (tgt := 51) G dX11_tell_30 rfl (fun q => absurd q (by decide)) (fun _ => ?_)
      refine x_iload3 (pc := 33) G dX11_tell_33 ?_
      refine x_iconst (pc := 34) (v := 0) G dX11_tell_34 ic_0 ?_
      refine x_aload0 (pc := 35) G dX11_tell_35 ?_
      refine y_gA (pc := 36) G g_169 mG_61 dX11_tell_36 ?_
      refine x_iload1 (pc := 39) G dX11_tell_39 ?_
      refine y_iald (pc := 40) (v := (gI M 61 p1)) G hM a_61 (vin_lt h59 (by decide) c1) rfl dX11_tell_40 ?_
      refine x_cSb3 (pc := 41) G (b_in hl hM _) q_ml_X11_181 h_X11_in ⟨Nat.le_of_ble_eq_true rfl, Nat.le_of_ble_eq_true rfl⟩ (Nat.le_of_ble_eq_true rfl) (Nat.le_refl _) (Nat.le_refl _) dX11_tell_41 (fun c3 => ?_) (fun c3 => ?_)
      · refine x_if_eq (pc := 44) (y := 0) (tgt := 51) G dX11_tell_44 rfl (fun q => absurd q (by decide)) (fun _ => ?_)
        refine x_iconst (pc := 47) (v := 1) G dX11_tell_47 ic_1 ?_
        refine x_goto (pc := 48) (tgt := 52) G dX11_tell_48 rfl ?_
        refine x_istore5 (pc := 52) G dX11_tell_52 (Nat.le_of_ble_eq_true rfl) rfl ?_
        refine x_aload0 (pc := 54) G dX11_tell_54 ?_
        refine x_iload4 (pc := 55) G dX11_tell_55 ?_
        refine x_if_ne (pc := 57) (y := 0) (tgt := 64) G dX11_tell_57 rfl (fun _ => ?_) (fun q => absurd q (by decide))
        refine x_iload5 (pc := 64) G dX11_tell_64 ?_
        refine x_if_ne (pc := 66) (y := 0) (tgt := 73) G dX11_tell_66 rfl (fun _ => ?_) (fun q => absurd q (by decide))
        refine x_aload0 (pc := 73) G dX11_tell_73 ?_
        refine y_gA (pc := 74) G g_172 mG_62 dX11_tell_74 ?_
        refine x_iload1 (pc := 77) G dX11_tell_77 ?_
        refine y_zald (pc := 78) (v := (gI M 62 p1)) G hM a_62 (vin_lt h59 (by decide) c1) rfl dX11_tell_78 ?_
        refine x_if_ne (pc := 79) (y := 0) (tgt := 103) G dX11_tell_79 rfl (fun c4 => ?_) (fun c4 => ?_)
        · refine x_iconst (pc := 103) (v := 3) G dX11_tell_103 ic_3 ?_
          refine x_goto (pc := 104) (tgt := 108) G dX11_tell_104 rfl ?_
          refine y_c1 (pc := 108) G (c_holdsN hl hM (by decide)) q_ml_X11_210 h_X11_holds rfl ⟨Nat.le_of_ble_eq_true rfl, Nat.le_of_ble_eq_true rfl⟩ (Nat.le_of_ble_eq_true rfl) (Nat.le_refl _) (Nat.le_refl _) dX11_tell_108 ?_
          refine x_if_ne (pc := 111) (y := 0) (tgt := 116) G dX11_tell_111 rfl (fun q => absurd q (by decide)) (fun _ => ?_)
          refine x_lconst (pc := 114) (v := 0) G dX11_tell_114 lc_0 ?_
          exact x_lret (pc := 115) G B rfl dX11_tell_115 ⟨by rw [f_tell, if_pos c1, if_pos c2, if_pos c3, if_neg c4], by rw [f_tell, if_pos c1, if_pos c2, if_pos c3, if_neg c4]⟩
        refine x_aload0 (pc := 82) G dX11_tell_82 ?_
        refine x_iload2 (pc := 83) G dX11_tell_83 ?_
        refine x_aload0 (pc := 84) G dX11_tell_84 ?_
        refine y_c0 (pc := 85) G (c_yearNow hl hM ) q_ml_X11_226 h_X11_yearNow rfl ⟨Nat.le_of_ble_eq_true rfl, Nat.le_of_ble_eq_true rfl⟩ (Nat.le_of_ble_eq_true rfl) (Nat.le_refl _) (Nat.le_refl _) dX11_tell_85 ?_
        refine x_aload0 (pc := 88) G dX11_tell_88 ?_
        refine y_gA (pc := 89) G g_169 mG_61 dX11_tell_89 ?_
        refine x_iload1 (pc := 92) G dX11_tell_92 ?_
        refine y_iald (pc := 93) (v := (gI M 61 p1)) G hM a_61 (vin_lt h59 (by decide) c1) rfl dX11_tell_93 ?_
        refine x_iload3 (pc := 94) G dX11_tell_94 ?_
        refine x_isub (pc := 95) G dX11_tell_95 ?_
        refine x_i2l (pc := 96) G dX11_tell_96 ?_
        refine y_cb3 (pc := 97) G (b_may hl hM c2 hy) q_ml_X11_250 h_X11_may rfl ⟨Nat.le_of_ble_eq_true rfl, Nat.le_of_ble_eq_true rfl⟩ (Nat.le_of_ble_eq_true rfl) (Nat.le_refl _) (Nat.le_refl _) dX11_tell_97 (fun c5 => ?_) (fun c5 => ?_)
        · refine x_if_ne (pc := 100) (y := 0) (tgt := 107) G dX11_tell_100 rfl (fun _ => ?_) (fun q => absurd q (by decide))
          refine x_iconst (pc := 107) (v := 0) G dX11_tell_107 ic_0 ?_
          refine y_c1 (pc := 108) G (c_holds0 hl hM) q_ml_X11_210 h_X11_holds rfl ⟨Nat.le_of_ble_eq_true rfl, Nat.le_of_ble_eq_true rfl⟩ (Nat.le_of_ble_eq_true rfl) (Nat.le_refl _) (Nat.le_refl _) dX11_tell_108 ?_
          refine x_if_ne (pc := 111) (y := 0) (tgt := 116) G dX11_tell_111 rfl (fun _ => ?_) (fun q => absurd q (by decide))
          refine x_aload0 (pc := 116) G dX11_tell_116 ?_
          refine y_gA (pc := 117) G g_169 mG_61 dX11_tell_117 ?_
          refine x_iload1 (pc := 120) G dX11_tell_120 ?_
          refine y_iald (pc := 121) (v := (gI M 61 p1)) G hM a_61 (vin_lt h59 (by decide) c1) gI_sI dX11_tell_121 ?_
          refine x_iload3 (pc := 122) G dX11_tell_122 ?_
          refine x_isub (pc := 123) G dX11_tell_123 ?_
          refine x_i2l (pc := 124) G dX11_tell_124 ?_
          refine x_lstore6 (pc := 125) G dX11_tell_125 (Nat.le_of_ble_eq_true rfl) rfl ?_
          refine x_aload0 (pc := 127) G dX11_tell_127 ?_
          refine y_gA (pc := 128) G g_172 mG_62 dX11_tell_128 ?_
          refine x_iload1 (pc := 131) G dX11_tell_131 ?_
          refine x_iconst (pc := 132) (v := 1) G dX11_tell_132 ic_1 ?_
          refine y_zast (pc := 133) G hM a_62 (vin_lt h59 (by decide) c1) (by decide) dX11_tell_133 ?_
          refine x_aload0 (pc := 134) G dX11_tell_134 ?_
          refine x_dup (pc := 135) G dX11_tell_135 rfl ?_
          refine y_gJ (pc := 136) (v := (mJ M 63)) G g_326 mG_63 (mJ_rI.trans mJ_sI) dX11_tell_136 ?_
          refine x_aload0 (pc := 139) G dX11_tell_139 ?_
          refine y_gA (pc := 140) G g_169 mG_61 dX11_tell_140 ?_
          refine x_iload1 (pc := 143) G dX11_tell_143 ?_
          refine y_iald (pc := 144) (v := (gI M 61 p1)) G hM a_61 (vin_lt h59 (by decide) c1) ((gI_rIn rfl).trans gI_sI) dX11_tell_144 ?_
          refine x_i2l (pc := 145) G dX11_tell_145 ?_
          refine x_ladd (pc := 146) G dX11_tell_146 ?_
          refine y_pJ (pc := 147) G p_326 mS_63 dX11_tell_147 ?_
          refine x_aload0 (pc := 150) G dX11_tell_150 ?_
          refine y_gA (pc := 151) G g_32 mG_11 dX11_tell_151 ?_
          refine x_iload2 (pc := 154) G dX11_tell_154 ?_
          refine x_aload0 (pc := 155) G dX11_tell_155 ?_
          refine y_c0 (pc := 156) G (c_yearNow hl hM ) q_ml_X11_226 h_X11_yearNow rfl ⟨Nat.le_of_ble_eq_true rfl, Nat.le_of_ble_eq_true rfl⟩ (Nat.le_of_ble_eq_true rfl) (Nat.le_refl _) (Nat.le_refl _) dX11_tell_156 ?_
          refine x_iconst (pc := 159) (v := 2) G dX11_tell_159 ic_2 ?_
          refine x_cS3 (pc := 160) G (c_at hl hM _) q_ml_X11_198 h_X11_at ⟨Nat.le_of_ble_eq_true rfl, Nat.le_of_ble_eq_true rfl⟩ (Nat.le_of_ble_eq_true rfl) (Nat.le_refl _) (Nat.le_refl _) dX11_tell_160 ?_
          refine x_dup2 (pc := 163) G dX11_tell_163 rfl rfl ?_
          refine y_lald (pc := 164) (v := (gJ M 11 (f_at p2 (f_yearNow (sJ (rI (sI M 0 0) 62 p1 1) 63 ((mJ M 63) + ((gI M 61 p1).toInt64)))) 2))) G hM a_11 (vin_at c2 (show P_isYear (f_yearNow (sJ (rI (sI M 0 0) 62 p1 1) 63 ((mJ M 63) + ((gI M 61 p1).toInt64)))) from hy) (by decide)) (gJ_sJ.trans (gJ_rI.trans gJ_sI)) dX11_tell_164 ?_
          refine x_lload6 (pc := 165) G dX11_tell_165 ?_
          refine x_ladd (pc := 167) G dX11_tell_167 ?_
          refine y_last (pc := 168) G hM a_11 (vin_at c2 (show P_isYear (f_yearNow (sJ (rI (sI M 0 0) 62 p1 1) 63 ((mJ M 63) + ((gI M 61 p1).toInt64)))) from hy) (by decide)) dX11_tell_168 ?_
          refine x_aload0 (pc := 169) G dX11_tell_169 ?_
          refine y_gA (pc := 170) G g_26 mG_8 dX11_tell_170 ?_
          refine x_aload0 (pc := 173) G dX11_tell_173 ?_
          refine y_gA (pc := 174) G g_166 mG_60 dX11_tell_174 ?_
          refine x_iload1 (pc := 177) G dX11_tell_177 ?_
          refine y_iald (pc := 178) (v := (gI M 60 p1)) G hM a_60 (vin_lt h59 (by decide) c1) (gI_rJ.trans (gI_sJ.trans ((gI_rIn rfl).trans gI_sI))) dX11_tell_178 ?_
          refine x_dup2 (pc := 179) G dX11_tell_179 rfl rfl ?_
          refine y_lald (pc := 180) (v := (gJ M 8 (gI M 60 p1))) G hM a_8 (by first | exact vin_lt h59 (by decide) (by assumption) | exact hc _ (by assumption) | exact vin_at (by assumption) hy (by decide) | exact vin_lit (by decide)) ((gJ_rJn rfl).trans (gJ_sJ.trans (gJ_rI.trans gJ_sI))) dX11_tell_180 ?_
          refine x_iload3 (pc := 181) G dX11_tell_181 ?_
          refine x_i2l (pc := 182) G dX11_tell_182 ?_
          refine x_lsub (pc := 183) G dX11_tell_183 ?_
          refine y_last (pc := 184) G hM a_8 (by first | exact vin_lt h59 (by decide) (by assumption) | exact hc _ (by assumption) | exact vin_at (by assumption) hy (by decide) | exact vin_lit (by decide)) dX11_tell_184 ?_
          refine x_aload0 (pc := 185) G dX11_tell_185 ?_
          refine y_gA (pc := 186) G g_7 mG_2 dX11_tell_186 ?_
          refine x_iconst (pc := 189) (v := 0) G dX11_tell_189 ic_0 ?_
          refine x_dup2 (pc := 190) G dX11_tell_190 rfl rfl ?_
          refine y_lald (pc := 191) (v := (gJ M 2 0)) G hM a_2 vk9_0 ((gJ_rJn rfl).trans ((gJ_rJn rfl).trans (gJ_sJ.trans (gJ_rI.trans gJ_sI)))) dX11_tell_191 ?_
          refine x_lload6 (pc := 192) G dX11_tell_192 ?_
          refine x_ladd (pc := 194) G dX11_tell_194 ?_
          refine y_last (pc := 195) G hM a_2 vk9_0 dX11_tell_195 ?_
          refine x_aload0 (pc := 196) G dX11_tell_196 ?_
          refine y_gA (pc := 197) G g_7 mG_2 dX11_tell_197 ?_
          refine x_bipush (pc := 200) (v := 8) G dX11_tell_200 bp_8 ?_
          refine x_dup2 (pc := 202) G dX11_tell_202 rfl rfl ?_
          refine y_lald (pc := 203) (v := (gJ M 2 8)) G hM a_2 vk9_8 ((gJ_rJc (by decide)).trans ((gJ_rJn rfl).trans ((gJ_rJn rfl).trans (gJ_sJ.trans (gJ_rI.trans gJ_sI))))) dX11_tell_203 ?_
          refine x_iload3 (pc := 204) G dX11_tell_204 ?_
          refine x_i2l (pc := 205) G dX11_tell_205 ?_
          refine x_ladd (pc := 206) G dX11_tell_206 ?_
          refine y_last (pc := 207) G hM a_2 vk9_8 dX11_tell_207 ?_
          refine x_aload0 (pc := 208) G dX11_tell_208 ?_
          refine y_gA (pc := 209) G g_7 mG_2 dX11_tell_209 ?_
          refine x_bipush (pc := 212) (v := 7) G dX11_tell_212 bp_7 ?_
          refine x_dup2 (pc := 214) G dX11_tell_214 rfl rfl ?_
          refine y_lald (pc := 215) (v := (gJ M 2 7)) G hM a_2 vk9_7 ((gJ_rJc (by decide)).trans ((gJ_rJc (by decide)).trans ((gJ_rJn rfl).trans ((gJ_rJn rfl).trans (gJ_sJ.trans (gJ_rI.trans gJ_sI)))))) dX11_tell_215 ?_
          refine x_aload0 (pc := 216) G dX11_tell_216 ?_
          refine y_gA (pc := 217) G g_169 mG_61 dX11_tell_217 ?_
          refine x_iload1 (pc := 220) G dX11_tell_220 ?_
          refine y_iald (pc := 221) (v := (gI M 61 p1)) G hM a_61 (vin_lt h59 (by decide) c1) (gI_rJ.trans (gI_rJ.trans (gI_rJ.trans (gI_rJ.trans (gI_sJ.trans ((gI_rIn rfl).trans gI_sI)))))) dX11_tell_221 ?_
          refine x_i2l (pc := 222) G dX11_tell_222 ?_
          refine x_lsub (pc := 223) G dX11_tell_223 ?_
          refine y_last (pc := 224) G hM a_2 vk9_7 dX11_tell_224 ?_
          refine x_lload6 (pc := 225) G dX11_tell_225 ?_
          exact x_lret (pc := 227) G B rfl dX11_tell_227 ⟨by rw [f_tell, if_pos c1, if_pos c2, if_pos c3, if_pos c4, if_pos c5], by rw [f_tell, if_pos c1, if_pos c2, if_pos c3, if_pos c4, if_pos c5]⟩
        refine x_if_ne (pc := 100) (y := 0) (tgt := 107) G dX11_tell_100 rfl (fun q => absurd q (by decide)) (fun _ => ?_)
        refine x_iconst (pc := 103) (v := 3) G dX11_tell_103 ic_3 ?_
        refine x_goto (pc := 104) (tgt := 108) G dX11_tell_104 rfl ?_
        refine y_c1 (pc := 108) G (c_holdsN hl hM (by decide)) q_ml_X11_210 h_X11_holds rfl ⟨Nat.le_of_ble_eq_true rfl, Nat.le_of_ble_eq_true rfl⟩ (Nat.le_of_ble_eq_true rfl) (Nat.le_refl _) (Nat.le_refl _) dX11_tell_108 ?_
        refine x_if_ne (pc := 111) (y := 0) (tgt := 116) G dX11_tell_111 rfl (fun q => absurd q (by decide)) (fun _ => ?_)
        refine x_lconst (pc := 114) (v := 0) G dX11_tell_114 lc_0 ?_
        exact x_lret (pc := 115) G B rfl dX11_tell_115 ⟨by rw [f_tell, if_pos c1, if_pos c2, if_pos c3, if_pos c4, if_neg c5], by rw [f_tell, if_pos c1, if_pos c2, if_pos c3, if_pos c4, if_neg c5]⟩
      refine x_if_eq (pc := 44) (y := 0) (tgt := 51) G dX11_tell_44 rfl (fun _ => ?_) (fun q => absurd q (by decide))
      refine x_iconst (pc := 51) (v := 0) G dX11_tell_51 ic_0 ?_
      refine x_istore5 (pc := 52) G dX11_tell_52 (Nat.le_of_ble_eq_true rfl) rfl ?_
      refine x_aload0 (pc := 54) G dX11_tell_54 ?_
      refine x_iload4 (pc := 55) G dX11_tell_55 ?_
      refine x_if_ne (pc := 57) (y := 0) (tgt := 64) G dX11_tell_57 rfl (fun _ => ?_) (fun q => absurd q (by decide))
      refine x_iload5 (pc := 64) G dX11_tell_64 ?_
      refine x_if_ne (pc := 66) (y := 0) (tgt := 73) G dX11_tell_66 rfl (fun q => absurd q (by decide)) (fun _ => ?_)
      refine x_iconst (pc := 69) (v := 2) G dX11_tell_69 ic_2 ?_
      refine x_goto (pc := 70) (tgt := 108) G dX11_tell_70 rfl ?_
      refine y_c1 (pc := 108) G (c_holdsN hl hM (by decide)) q_ml_X11_210 h_X11_holds rfl ⟨Nat.le_of_ble_eq_true rfl, Nat.le_of_ble_eq_true rfl⟩ (Nat.le_of_ble_eq_true rfl) (Nat.le_refl _) (Nat.le_refl _) dX11_tell_108 ?_
      refine x_if_ne (pc := 111) (y := 0) (tgt := 116) G dX11_tell_111 rfl (fun q => absurd q (by decide)) (fun _ => ?_)
      refine x_lconst (pc := 114) (v := 0) G dX11_tell_114 lc_0 ?_
      exact x_lret (pc := 115) G B rfl dX11_tell_115 ⟨by rw [f_tell, if_pos c1, if_pos c2, if_neg c3], by rw [f_tell, if_pos c1, if_pos c2, if_neg c3]⟩
    refine x_if_eq (pc := 18) (y := 0) (tgt := 25) G dX11_tell_18 rfl (fun _ => ?_) (fun q => absurd q (by decide))
    refine x_iconst (pc := 25) (v := 0) G dX11_tell_25 ic_0 ?_
    refine x_istore4 (pc := 26) G dX11_tell_26 (Nat.le_of_ble_eq_true rfl) rfl ?_
    refine x_iload4 (pc := 28) G dX11_tell_28 ?_
    refine x_if_eq (pc := 30) (y := 0) (tgt := 51) G dX11_tell_30 rfl (fun _ => ?_) (fun q => absurd q (by decide))
    refine x_iconst (pc := 51) (v := 0) G dX11_tell_51 ic_0 ?_
    refine x_istore5 (pc := 52) G dX11_tell_52 (Nat.le_of_ble_eq_true rfl) rfl ?_
    refine x_aload0 (pc := 54) G dX11_tell_54 ?_
    refine x_iload4 (pc := 55) G dX11_tell_55 ?_
    refine x_if_ne (pc := 57) (y := 0) (tgt := 64) G dX11_tell_57 rfl (fun q => absurd q (by decide)) (fun _ => ?_)
    refine x_iconst (pc := 60) (v := 1) G dX11_tell_60 ic_1 ?_
    refine x_goto (pc := 61) (tgt := 108) G dX11_tell_61 rfl ?_
    refine y_c1 (pc := 108) G (c_holdsN hl hM (by decide)) q_ml_X11_210 h_X11_holds rfl ⟨Nat.le_of_ble_eq_true rfl, Nat.le_of_ble_eq_true rfl⟩ (Nat.le_of_ble_eq_true rfl) (Nat.le_refl _) (Nat.le_refl _) dX11_tell_108 ?_
    refine x_if_ne (pc := 111) (y := 0) (tgt := 116) G dX11_tell_111 rfl (fun q => absurd q (by decide)) (fun _ => ?_)
    refine x_lconst (pc := 114) (v := 0) G dX11_tell_114 lc_0 ?_
    exact x_lret (pc := 115) G B rfl dX11_tell_115 ⟨by rw [f_tell, if_pos c1, if_neg c2], by rw [f_tell, if_pos c1, if_neg c2]⟩
  refine x_if_eq (pc := 11) (y := 0) (tgt := 25) G dX11_tell_11 rfl (fun _ => ?_) (fun q => absurd q (by decide))
  refine x_iconst (pc := 25) (v := 0) G dX11_tell_25 ic_0 ?_
  refine x_istore4 (pc := 26) G dX11_tell_26 (Nat.le_of_ble_eq_true rfl) rfl ?_
  refine x_iload4 (pc := 28) G dX11_tell_28 ?_
  refine x_if_eq (pc := 30) (y := 0) (tgt := 51) G dX11_tell_30 rfl (fun _ => ?_) (fun q => absurd q (by decide))
  refine x_iconst (pc := 51) (v := 0) G dX11_tell_51 ic_0 ?_
  refine x_istore5 (pc := 52) G dX11_tell_52 (Nat.le_of_ble_eq_true rfl) rfl ?_
  refine x_aload0 (pc := 54) G dX11_tell_54 ?_
  refine x_iload4 (pc := 55) G dX11_tell_55 ?_
  refine x_if_ne (pc := 57) (y := 0) (tgt := 64) G dX11_tell_57 rfl (fun q => absurd q (by decide)) (fun _ => ?_)
  refine x_iconst (pc := 60) (v := 1) G dX11_tell_60 ic_1 ?_
  refine x_goto (pc := 61) (tgt := 108) G dX11_tell_61 rfl ?_
  refine y_c1 (pc := 108) G (c_holdsN hl hM (by decide)) q_ml_X11_210 h_X11_holds rfl ⟨Nat.le_of_ble_eq_true rfl, Nat.le_of_ble_eq_true rfl⟩ (Nat.le_of_ble_eq_true rfl) (Nat.le_refl _) (Nat.le_refl _) dX11_tell_108 ?_
  refine x_if_ne (pc := 111) (y := 0) (tgt := 116) G dX11_tell_111 rfl (fun q => absurd q (by decide)) (fun _ => ?_)
  refine x_lconst (pc := 114) (v := 0) G dX11_tell_114 lc_0 ?_
  exact x_lret (pc := 115) G B rfl dX11_tell_115 ⟨by rw [f_tell, if_neg c1], by rw [f_tell, if_neg c1]⟩
theorem dX11_payCard_0 : decode cX11_payCard 0 = .ok (.aload_n 0, 1) := by decide +kernel
theorem dX11_payCard_1 : decode cX11_payCard 1 = .ok (.iconst 0, 1) := by decide +kernel
theorem dX11_payCard_2 : decode cX11_payCard 2 = .ok (.putfield 175, 3) := by decide +kernel
theorem dX11_payCard_5 : decode cX11_payCard 5 = .ok (.aload_n 0, 1) := by decide +kernel
theorem dX11_payCard_6 : decode cX11_payCard 6 = .ok (.getfield 326, 3) := by decide +kernel
theorem dX11_payCard_9 : decode cX11_payCard 9 = .ok (.lstore_n 1, 1) := by decide +kernel
theorem dX11_payCard_10 : decode cX11_payCard 10 = .ok (.aload_n 0, 1) := by decide +kernel
theorem dX11_payCard_11 : decode cX11_payCard 11 = .ok (.lconst 0, 1) := by decide +kernel
theorem dX11_payCard_12 : decode cX11_payCard 12 = .ok (.putfield 326, 3) := by decide +kernel
theorem dX11_payCard_15 : decode cX11_payCard 15 = .ok (.aload_n 0, 1) := by decide +kernel
theorem dX11_payCard_16 : decode cX11_payCard 16 = .ok (.getfield 7, 3) := by decide +kernel
theorem dX11_payCard_19 : decode cX11_payCard 19 = .ok (.bipush 7, 2) := by decide +kernel
theorem dX11_payCard_21 : decode cX11_payCard 21 = .ok (.dup2, 1) := by decide +kernel
theorem dX11_payCard_22 : decode cX11_payCard 22 = .ok (.laload, 1) := by decide +kernel
theorem dX11_payCard_23 : decode cX11_payCard 23 = .ok (.lload_n 1, 1) := by decide +kernel
theorem dX11_payCard_24 : decode cX11_payCard 24 = .ok (.ladd, 1) := by decide +kernel
theorem dX11_payCard_25 : decode cX11_payCard 25 = .ok (.lastore, 1) := by decide +kernel
theorem dX11_payCard_26 : decode cX11_payCard 26 = .ok (.aload_n 0, 1) := by decide +kernel
theorem dX11_payCard_27 : decode cX11_payCard 27 = .ok (.getfield 7, 3) := by decide +kernel
theorem dX11_payCard_30 : decode cX11_payCard 30 = .ok (.iconst 2, 1) := by decide +kernel
theorem dX11_payCard_31 : decode cX11_payCard 31 = .ok (.dup2, 1) := by decide +kernel
theorem dX11_payCard_32 : decode cX11_payCard 32 = .ok (.laload, 1) := by decide +kernel
theorem dX11_payCard_33 : decode cX11_payCard 33 = .ok (.lload_n 1, 1) := by decide +kernel
theorem dX11_payCard_34 : decode cX11_payCard 34 = .ok (.lsub, 1) := by decide +kernel
theorem dX11_payCard_35 : decode cX11_payCard 35 = .ok (.lastore, 1) := by decide +kernel
theorem dX11_payCard_36 : decode cX11_payCard 36 = .ok (.lload_n 1, 1) := by decide +kernel
theorem dX11_payCard_37 : decode cX11_payCard 37 = .ok (.lreturn, 1) := by decide +kernel
def f_payCard  (M : MS) : Int64 × MS :=
    ((mJ M 63), (rJ (rJ (sJ (sI M 0 0) 63 0) 2 7 ((gJ M 2 7) + (mJ M 63))) 2 2 ((gJ M 2 2) - (mJ M 63))))
abbrev rm_X11_payCard : Room := { frames := 0, cells := 0, slots := 0, locals := 0 }
set_option maxRecDepth 100000 in
set_option maxHeartbeats 4000000 in
theorem c_payCard {l : Launch} {k : KC} {mo : Nat} {ad : Nat → Nat} (hl : l.stackTraces = false) (hM : HM mo ad) {M : MS}   : CM l k mo ad yX11_payCard (.code yX11_payCard cX11_payCard 3 (some .long)) rm_X11_payCard [] M (some (.long (f_payCard  M).1)) (f_payCard  M).2 := by
  refine MC.of 2 hl (by decide) (Nat.le_of_ble_eq_true rfl) ?_
  intro p e s m args below meth c A Q G B _ _
  show Wx p l e rm_X11_payCard s m args below meth c k A 3 Q 0 0 0 [some (.ref mo), none, none] [] (mW k mo ad M)
  refine x_aload0 (pc := 0) G dX11_payCard_0 ?_
  refine x_iconst (pc := 1) (v := 0) G dX11_payCard_1 ic_0 ?_
  refine y_pI (pc := 2) G p_175 mS_0 dX11_payCard_2 ?_
  refine x_aload0 (pc := 5) G dX11_payCard_5 ?_
  refine y_gJ (pc := 6) (v := (mJ M 63)) G g_326 mG_63 mJ_sI dX11_payCard_6 ?_
  refine x_lstore1 (pc := 9) G dX11_payCard_9 (Nat.le_of_ble_eq_true rfl) rfl ?_
  refine x_aload0 (pc := 10) G dX11_payCard_10 ?_
  refine x_lconst (pc := 11) (v := 0) G dX11_payCard_11 lc_0 ?_
  refine y_pJ (pc := 12) G p_326 mS_63 dX11_payCard_12 ?_
  refine x_aload0 (pc := 15) G dX11_payCard_15 ?_
  refine y_gA (pc := 16) G g_7 mG_2 dX11_payCard_16 ?_
  refine x_bipush (pc := 19) (v := 7) G dX11_payCard_19 bp_7 ?_
  refine x_dup2 (pc := 21) G dX11_payCard_21 rfl rfl ?_
  refine y_lald (pc := 22) (v := (gJ M 2 7)) G hM a_2 vk9_7 (gJ_sJ.trans gJ_sI) dX11_payCard_22 ?_
  refine x_lload1 (pc := 23) G dX11_payCard_23 ?_
  refine x_ladd (pc := 24) G dX11_payCard_24 ?_
  refine y_last (pc := 25) G hM a_2 vk9_7 dX11_payCard_25 ?_
  refine x_aload0 (pc := 26) G dX11_payCard_26 ?_
  refine y_gA (pc := 27) G g_7 mG_2 dX11_payCard_27 ?_
  refine x_iconst (pc := 30) (v := 2) G dX11_payCard_30 ic_2 ?_
  refine x_dup2 (pc := 31) G dX11_payCard_31 rfl rfl ?_
  refine y_lald (pc := 32) (v := (gJ M 2 2)) G hM a_2 vk9_2 ((gJ_rJc (by decide)).trans (gJ_sJ.trans gJ_sI)) dX11_payCard_32 ?_
  refine x_lload1 (pc := 33) G dX11_payCard_33 ?_
  refine x_lsub (pc := 34) G dX11_payCard_34 ?_
  refine y_last (pc := 35) G hM a_2 vk9_2 dX11_payCard_35 ?_
  refine x_lload1 (pc := 36) G dX11_payCard_36 ?_
  exact x_lret (pc := 37) G B rfl dX11_payCard_37 ⟨by rw [f_payCard], by rw [f_payCard]⟩
theorem dX11_sample_0 : decode cX11_sample 0 = .ok (.aload_n 0, 1) := by decide +kernel
theorem dX11_sample_1 : decode cX11_sample 1 = .ok (.iload_n 2, 1) := by decide +kernel
theorem dX11_sample_2 : decode cX11_sample 2 = .ok (.iconst 0, 1) := by decide +kernel
theorem dX11_sample_3 : decode cX11_sample 3 = .ok (.bipush 100, 2) := by decide +kernel
theorem dX11_sample_5 : decode cX11_sample 5 = .ok (.invokestatic 181, 3) := by decide +kernel
theorem dX11_sample_8 : decode cX11_sample 8 = .ok (.ifCond .eq 7, 3) := by decide +kernel
theorem dX11_sample_11 : decode cX11_sample 11 = .ok (.iconst 0, 1) := by decide +kernel
theorem dX11_sample_12 : decode cX11_sample 12 = .ok (.goto 4, 3) := by decide +kernel
theorem dX11_sample_15 : decode cX11_sample 15 = .ok (.iconst 1, 1) := by decide +kernel
theorem dX11_sample_16 : decode cX11_sample 16 = .ok (.invokevirtual 210, 3) := by decide +kernel
theorem dX11_sample_19 : decode cX11_sample 19 = .ok (.ifCond .eq 13, 3) := by decide +kernel
theorem dX11_sample_22 : decode cX11_sample 22 = .ok (.aload_n 0, 1) := by decide +kernel
theorem dX11_sample_23 : decode cX11_sample 23 = .ok (.iload_n 1, 1) := by decide +kernel
theorem dX11_sample_24 : decode cX11_sample 24 = .ok (.putfield 330, 3) := by decide +kernel
theorem dX11_sample_27 : decode cX11_sample 27 = .ok (.aload_n 0, 1) := by decide +kernel
theorem dX11_sample_28 : decode cX11_sample 28 = .ok (.iload_n 2, 1) := by decide +kernel
theorem dX11_sample_29 : decode cX11_sample 29 = .ok (.putfield 333, 3) := by decide +kernel
theorem dX11_sample_32 : decode cX11_sample 32 = .ok (.return_, 1) := by decide +kernel
def f_sample (p1 : Int32) (p2 : Int32) (M : MS) : MS :=
    if P_in p2 0 100 then
      (sI (sI (sI M 0 0) 64 p1) 65 p2)
    else
    (sI M 0 1)
abbrev rm_X11_sample : Room := { frames := 1, cells := 0, slots := 0, locals := 22 }
set_option maxRecDepth 100000 in
set_option maxHeartbeats 4000000 in
theorem c_sample {l : Launch} {k : KC} {mo : Nat} {ad : Nat → Nat} (hl : l.stackTraces = false) (hM : HM mo ad) {M : MS} {p1 : Int32} {p2 : Int32}  : CM l k mo ad yX11_sample (.code yX11_sample cX11_sample 3 none) rm_X11_sample [.int p1, .int p2] M none (f_sample p1 p2 M) := by
  refine MC.of 0 hl (by decide) (Nat.le_of_ble_eq_true rfl) ?_
  intro p e s m args below meth c A Q G B _ _
  show Wx p l e rm_X11_sample s m args below meth c k A 3 Q 0 0 0 [some (.ref mo), some (.int p1), some (.int p2)] [] (mW k mo ad M)
  refine x_aload0 (pc := 0) G dX11_sample_0 ?_
  refine x_iload2 (pc := 1) G dX11_sample_1 ?_
  refine x_iconst (pc := 2) (v := 0) G dX11_sample_2 ic_0 ?_
  refine x_bipush (pc := 3) (v := 100) G dX11_sample_3 bp_100 ?_
  refine x_cSb3 (pc := 5) G (b_in hl hM _) q_ml_X11_181 h_X11_in ⟨Nat.le_of_ble_eq_true rfl, Nat.le_of_ble_eq_true rfl⟩ (Nat.le_of_ble_eq_true rfl) (Nat.le_refl _) (Nat.le_refl _) dX11_sample_5 (fun c1 => ?_) (fun c1 => ?_)
  · refine x_if_eq (pc := 8) (y := 0) (tgt := 15) G dX11_sample_8 rfl (fun q => absurd q (by decide)) (fun _ => ?_)
    refine x_iconst (pc := 11) (v := 0) G dX11_sample_11 ic_0 ?_
    refine x_goto (pc := 12) (tgt := 16) G dX11_sample_12 rfl ?_
    refine y_c1 (pc := 16) G (c_holds0 hl hM) q_ml_X11_210 h_X11_holds rfl ⟨Nat.le_of_ble_eq_true rfl, Nat.le_of_ble_eq_true rfl⟩ (Nat.le_of_ble_eq_true rfl) (Nat.le_refl _) (Nat.le_refl _) dX11_sample_16 ?_
    refine x_if_eq (pc := 19) (y := 0) (tgt := 32) G dX11_sample_19 rfl (fun q => absurd q (by decide)) (fun _ => ?_)
    refine x_aload0 (pc := 22) G dX11_sample_22 ?_
    refine x_iload1 (pc := 23) G dX11_sample_23 ?_
    refine y_pI (pc := 24) G p_330 mS_64 dX11_sample_24 ?_
    refine x_aload0 (pc := 27) G dX11_sample_27 ?_
    refine x_iload2 (pc := 28) G dX11_sample_28 ?_
    refine y_pI (pc := 29) G p_333 mS_65 dX11_sample_29 ?_
    exact x_vret (pc := 32) G B rfl dX11_sample_32 ⟨rfl, by rw [f_sample, if_pos c1]⟩
  refine x_if_eq (pc := 8) (y := 0) (tgt := 15) G dX11_sample_8 rfl (fun _ => ?_) (fun q => absurd q (by decide))
  refine x_iconst (pc := 15) (v := 1) G dX11_sample_15 ic_1 ?_
  refine y_c1 (pc := 16) G (c_holdsN hl hM (by decide)) q_ml_X11_210 h_X11_holds rfl ⟨Nat.le_of_ble_eq_true rfl, Nat.le_of_ble_eq_true rfl⟩ (Nat.le_of_ble_eq_true rfl) (Nat.le_refl _) (Nat.le_refl _) dX11_sample_16 ?_
  refine x_if_eq (pc := 19) (y := 0) (tgt := 32) G dX11_sample_19 rfl (fun _ => ?_) (fun q => absurd q (by decide))
  exact x_vret (pc := 32) G B rfl dX11_sample_32 ⟨rfl, by rw [f_sample, if_neg c1]⟩
theorem dX11_day_0 : decode cX11_day 0 = .ok (.aload_n 0, 1) := by decide +kernel
theorem dX11_day_1 : decode cX11_day 1 = .ok (.iconst 0, 1) := by decide +kernel
theorem dX11_day_2 : decode cX11_day 2 = .ok (.putfield 175, 3) := by decide +kernel
theorem dX11_day_5 : decode cX11_day 5 = .ok (.aload_n 0, 1) := by decide +kernel
theorem dX11_day_6 : decode cX11_day 6 = .ok (.getfield 195, 3) := by decide +kernel
theorem dX11_day_9 : decode cX11_day 9 = .ok (.ireturn, 1) := by decide +kernel
def f_day  (M : MS) : Int32 × MS :=
    ((mI M 1), (sI M 0 0))
abbrev rm_X11_day : Room := { frames := 0, cells := 0, slots := 0, locals := 0 }
set_option maxRecDepth 100000 in
set_option maxHeartbeats 4000000 in
theorem c_day {l : Launch} {k : KC} {mo : Nat} {ad : Nat → Nat} (hl : l.stackTraces = false) (hM : HM mo ad) {M : MS}   : CM l k mo ad yX11_day (.code yX11_day cX11_day 1 (some .int)) rm_X11_day [] M (some (.int (f_day  M).1)) (f_day  M).2 := by
  refine MC.of 0 hl (by decide) (Nat.le_of_ble_eq_true rfl) ?_
  intro p e s m args below meth c A Q G B _ _
  show Wx p l e rm_X11_day s m args below meth c k A 1 Q 0 0 0 [some (.ref mo)] [] (mW k mo ad M)
  refine x_aload0 (pc := 0) G dX11_day_0 ?_
  refine x_iconst (pc := 1) (v := 0) G dX11_day_1 ic_0 ?_
  refine y_pI (pc := 2) G p_175 mS_0 dX11_day_2 ?_
  refine x_aload0 (pc := 5) G dX11_day_5 ?_
  refine y_gI (pc := 6) (v := (mI M 1)) G g_195 mG_1 (mI_sIn rfl) dX11_day_6 ?_
  exact x_iret (pc := 9) G B rfl dX11_day_9 ⟨by rw [f_day], by rw [f_day]⟩
theorem dX11_requestOf_0 : decode cX11_requestOf 0 = .ok (.aload_n 0, 1) := by decide +kernel
theorem dX11_requestOf_1 : decode cX11_requestOf 1 = .ok (.aload_n 0, 1) := by decide +kernel
theorem dX11_requestOf_2 : decode cX11_requestOf 2 = .ok (.iload_n 1, 1) := by decide +kernel
theorem dX11_requestOf_3 : decode cX11_requestOf 3 = .ok (.invokevirtual 188, 3) := by decide +kernel
theorem dX11_requestOf_6 : decode cX11_requestOf 6 = .ok (.ifCond .ne 7, 3) := by decide +kernel
theorem dX11_requestOf_9 : decode cX11_requestOf 9 = .ok (.iconst 1, 1) := by decide +kernel
theorem dX11_requestOf_10 : decode cX11_requestOf 10 = .ok (.goto 17, 3) := by decide +kernel
theorem dX11_requestOf_13 : decode cX11_requestOf 13 = .ok (.iload_n 2, 1) := by decide +kernel
theorem dX11_requestOf_14 : decode cX11_requestOf 14 = .ok (.iconst 0, 1) := by decide +kernel
theorem dX11_requestOf_15 : decode cX11_requestOf 15 = .ok (.iconst 5, 1) := by decide +kernel
theorem dX11_requestOf_16 : decode cX11_requestOf 16 = .ok (.invokestatic 181, 3) := by decide +kernel
theorem dX11_requestOf_19 : decode cX11_requestOf 19 = .ok (.ifCond .eq 7, 3) := by decide +kernel
theorem dX11_requestOf_22 : decode cX11_requestOf 22 = .ok (.iconst 0, 1) := by decide +kernel
theorem dX11_requestOf_23 : decode cX11_requestOf 23 = .ok (.goto 4, 3) := by decide +kernel
theorem dX11_requestOf_26 : decode cX11_requestOf 26 = .ok (.iconst 2, 1) := by decide +kernel
theorem dX11_requestOf_27 : decode cX11_requestOf 27 = .ok (.invokevirtual 210, 3) := by decide +kernel
theorem dX11_requestOf_30 : decode cX11_requestOf 30 = .ok (.ifCond .ne 5, 3) := by decide +kernel
theorem dX11_requestOf_33 : decode cX11_requestOf 33 = .ok (.lconst 0, 1) := by decide +kernel
theorem dX11_requestOf_34 : decode cX11_requestOf 34 = .ok (.lreturn, 1) := by decide +kernel
theorem dX11_requestOf_35 : decode cX11_requestOf 35 = .ok (.iload_n 2, 1) := by decide +kernel
theorem dX11_requestOf_36 : decode cX11_requestOf 36 = .ok (.iconst 3, 1) := by decide +kernel
theorem dX11_requestOf_37 : decode cX11_requestOf 37 = .ok (.if_icmp .ge 37, 3) := by decide +kernel
theorem dX11_requestOf_40 : decode cX11_requestOf 40 = .ok (.iload_n 2, 1) := by decide +kernel
theorem dX11_requestOf_41 : decode cX11_requestOf 41 = .ok (.ifCond .ne 13, 3) := by decide +kernel
theorem dX11_requestOf_44 : decode cX11_requestOf 44 = .ok (.aload_n 0, 1) := by decide +kernel
theorem dX11_requestOf_45 : decode cX11_requestOf 45 = .ok (.getfield 45, 3) := by decide +kernel
theorem dX11_requestOf_48 : decode cX11_requestOf 48 = .ok (.iload_n 1, 1) := by decide +kernel
theorem dX11_requestOf_49 : decode cX11_requestOf 49 = .ok (.iaload, 1) := by decide +kernel
theorem dX11_requestOf_50 : decode cX11_requestOf 50 = .ok (.i2l, 1) := by decide +kernel
theorem dX11_requestOf_51 : decode cX11_requestOf 51 = .ok (.goto 22, 3) := by decide +kernel
theorem dX11_requestOf_54 : decode cX11_requestOf 54 = .ok (.iload_n 2, 1) := by decide +kernel
theorem dX11_requestOf_55 : decode cX11_requestOf 55 = .ok (.iconst 1, 1) := by decide +kernel
theorem dX11_requestOf_56 : decode cX11_requestOf 56 = .ok (.if_icmp .ne 11, 3) := by decide +kernel
theorem dX11_requestOf_59 : decode cX11_requestOf 59 = .ok (.aload_n 0, 1) := by decide +kernel
theorem dX11_requestOf_60 : decode cX11_requestOf 60 = .ok (.iload_n 1, 1) := by decide +kernel
theorem dX11_requestOf_61 : decode cX11_requestOf 61 = .ok (.invokevirtual 246, 3) := by decide +kernel
theorem dX11_requestOf_64 : decode cX11_requestOf 64 = .ok (.goto 9, 3) := by decide +kernel
theorem dX11_requestOf_67 : decode cX11_requestOf 67 = .ok (.aload_n 0, 1) := by decide +kernel
theorem dX11_requestOf_68 : decode cX11_requestOf 68 = .ok (.getfield 51, 3) := by decide +kernel
theorem dX11_requestOf_71 : decode cX11_requestOf 71 = .ok (.iload_n 1, 1) := by decide +kernel
theorem dX11_requestOf_72 : decode cX11_requestOf 72 = .ok (.laload, 1) := by decide +kernel
theorem dX11_requestOf_73 : decode cX11_requestOf 73 = .ok (.lreturn, 1) := by decide +kernel
theorem dX11_requestOf_74 : decode cX11_requestOf 74 = .ok (.iload_n 2, 1) := by decide +kernel
theorem dX11_requestOf_75 : decode cX11_requestOf 75 = .ok (.iconst 3, 1) := by decide +kernel
theorem dX11_requestOf_76 : decode cX11_requestOf 76 = .ok (.if_icmp .ne 13, 3) := by decide +kernel
theorem dX11_requestOf_79 : decode cX11_requestOf 79 = .ok (.aload_n 0, 1) := by decide +kernel
theorem dX11_requestOf_80 : decode cX11_requestOf 80 = .ok (.getfield 54, 3) := by decide +kernel
theorem dX11_requestOf_83 : decode cX11_requestOf 83 = .ok (.iload_n 1, 1) := by decide +kernel
theorem dX11_requestOf_84 : decode cX11_requestOf 84 = .ok (.iaload, 1) := by decide +kernel
theorem dX11_requestOf_85 : decode cX11_requestOf 85 = .ok (.i2l, 1) := by decide +kernel
theorem dX11_requestOf_86 : decode cX11_requestOf 86 = .ok (.goto 38, 3) := by decide +kernel
theorem dX11_requestOf_89 : decode cX11_requestOf 89 = .ok (.iload_n 2, 1) := by decide +kernel
theorem dX11_requestOf_90 : decode cX11_requestOf 90 = .ok (.iconst 5, 1) := by decide +kernel
theorem dX11_requestOf_91 : decode cX11_requestOf 91 = .ok (.if_icmp .ne 13, 3) := by decide +kernel
theorem dX11_requestOf_94 : decode cX11_requestOf 94 = .ok (.aload_n 0, 1) := by decide +kernel
theorem dX11_requestOf_95 : decode cX11_requestOf 95 = .ok (.getfield 57, 3) := by decide +kernel
theorem dX11_requestOf_98 : decode cX11_requestOf 98 = .ok (.iload_n 1, 1) := by decide +kernel
theorem dX11_requestOf_99 : decode cX11_requestOf 99 = .ok (.iaload, 1) := by decide +kernel
theorem dX11_requestOf_100 : decode cX11_requestOf 100 = .ok (.i2l, 1) := by decide +kernel
theorem dX11_requestOf_101 : decode cX11_requestOf 101 = .ok (.goto 23, 3) := by decide +kernel
theorem dX11_requestOf_104 : decode cX11_requestOf 104 = .ok (.aload_n 0, 1) := by decide +kernel
theorem dX11_requestOf_105 : decode cX11_requestOf 105 = .ok (.getfield 45, 3) := by decide +kernel
theorem dX11_requestOf_108 : decode cX11_requestOf 108 = .ok (.iload_n 1, 1) := by decide +kernel
theorem dX11_requestOf_109 : decode cX11_requestOf 109 = .ok (.iaload, 1) := by decide +kernel
theorem dX11_requestOf_110 : decode cX11_requestOf 110 = .ok (.iconst 1, 1) := by decide +kernel
theorem dX11_requestOf_111 : decode cX11_requestOf 111 = .ok (.if_icmp .ne 12, 3) := by decide +kernel
theorem dX11_requestOf_114 : decode cX11_requestOf 114 = .ok (.aload_n 0, 1) := by decide +kernel
theorem dX11_requestOf_115 : decode cX11_requestOf 115 = .ok (.iload_n 1, 1) := by decide +kernel
theorem dX11_requestOf_116 : decode cX11_requestOf 116 = .ok (.invokevirtual 257, 3) := by decide +kernel
theorem dX11_requestOf_119 : decode cX11_requestOf 119 = .ok (.i2l, 1) := by decide +kernel
theorem dX11_requestOf_120 : decode cX11_requestOf 120 = .ok (.goto 4, 3) := by decide +kernel
theorem dX11_requestOf_123 : decode cX11_requestOf 123 = .ok (.lconst 0, 1) := by decide +kernel
theorem dX11_requestOf_124 : decode cX11_requestOf 124 = .ok (.lreturn, 1) := by decide +kernel
def f_requestOf (p1 : Int32) (p2 : Int32) (M : MS) : Int64 × MS :=
    if P_isRequest p1 M then
      if P_in p2 0 5 then
        if 3 ≤ p2 then
          if p2 = 3 then
            (((gI M 20 p1).toInt64), (sI M 0 0))
          else
          if p2 = 5 then
            (((gI M 21 p1).toInt64), (sI M 0 0))
          else
          if (gI M 17 p1) = 1 then
            (((f_left p1 (sI M 0 0)).toInt64), (sI M 0 0))
          else
          (0, (sI M 0 0))
        else
        if p2 = 0 then
          (((gI M 17 p1).toInt64), (sI M 0 0))
        else
        if p2 = 1 then
          ((f_total p1 (sI M 0 0)), (sI M 0 0))
        else
        ((gJ M 19 p1), (sI M 0 0))
      else
      (0, (sI M 0 2))
    else
    (0, (sI M 0 1))
abbrev rm_X11_requestOf : Room := { frames := 2, cells := 0, slots := 0, locals := 43 }
set_option maxRecDepth 100000 in
set_option maxHeartbeats 4000000 in
theorem c_requestOf {l : Launch} {k : KC} {mo : Nat} {ad : Nat → Nat} (hl : l.stackTraces = false) (hM : HM mo ad) {M : MS} {p1 : Int32} {p2 : Int32} (hr : ∀ r, P_isRequest r M → RqOK M r) : CM l k mo ad yX11_requestOf (.code yX11_requestOf cX11_requestOf 3 (some .long)) rm_X11_requestOf [.int p1, .int p2] M (some (.long (f_requestOf p1 p2 M).1)) (f_requestOf p1 p2 M).2 := by
  refine MC.of 0 hl (by decide) (Nat.le_of_ble_eq_true rfl) ?_
  intro p e s m args below meth c A Q G B _ _
  show Wx p l e rm_X11_requestOf s m args below meth c k A 3 Q 0 0 0 [some (.ref mo), some (.int p1), some (.int p2)] [] (mW k mo ad M)
  refine x_aload0 (pc := 0) G dX11_requestOf_0 ?_
  refine x_aload0 (pc := 1) G dX11_requestOf_1 ?_
  refine x_iload1 (pc := 2) G dX11_requestOf_2 ?_
  refine y_cb1 (pc := 3) G (b_isRequest hl hM ) q_ml_X11_188 h_X11_isRequest rfl ⟨Nat.le_of_ble_eq_true rfl, Nat.le_of_ble_eq_true rfl⟩ (Nat.le_of_ble_eq_true rfl) (Nat.le_refl _) (Nat.le_refl _) dX11_requestOf_3 (fun c1 => ?_) (fun c1 => ?_)
  · refine x_if_ne (pc := 6) (y := 0) (tgt := 13) G dX11_requestOf_6 rfl (fun _ => ?_) (fun q => absurd q (by decide))
    refine x_iload2 (pc := 13) G dX11_requestOf_13 ?_
    refine x_iconst (pc := 14) (v := 0) G dX11_requestOf_14 ic_0 ?_
    refine x_iconst (pc := 15) (v := 5) G dX11_requestOf_15 ic_5 ?_
    refine x_cSb3 (pc := 16) G (b_in hl hM _) q_ml_X11_181 h_X11_in ⟨Nat.le_of_ble_eq_true rfl, Nat.le_of_ble_eq_true rfl⟩ (Nat.le_of_ble_eq_true rfl) (Nat.le_refl _) (Nat.le_refl _) dX11_requestOf_16 (fun c2 => ?_) (fun c2 => ?_)
    · refine x_if_eq (pc := 19) (y := 0) (tgt := 26) G dX11_requestOf_19 rfl (fun q => absurd q (by decide)) (fun _ => ?_)
      refine x_iconst (pc := 22) (v := 0) G dX11_requestOf_22 ic_0 ?_
      refine x_goto (pc := 23) (tgt := 27) G dX11_requestOf_23 rfl ?_
      refine y_c1 (pc := 27) G (c_holds0 hl hM) q_ml_X11_210 h_X11_holds rfl ⟨Nat.le_of_ble_eq_true rfl, Nat.le_of_ble_eq_true rfl⟩ (Nat.le_of_ble_eq_true rfl) (Nat.le_refl _) (Nat.le_refl _) dX11_requestOf_27 ?_
      refine x_if_ne (pc := 30) (y := 0) (tgt := 35) G dX11_requestOf_30 rfl (fun _ => ?_) (fun q => absurd q (by decide))
      refine x_iload2 (pc := 35) G dX11_requestOf_35 ?_
      refine x_iconst (pc := 36) (v := 3) G dX11_requestOf_36 ic_3 ?_
      refine x_icmp_ge (pc := 37) (tgt := 74) G dX11_requestOf_37 rfl (fun c3 => ?_) (fun c3 => ?_)
      · refine x_iload2 (pc := 74) G dX11_requestOf_74 ?_
        refine x_iconst (pc := 75) (v := 3) G dX11_requestOf_75 ic_3 ?_
        refine x_icmp_ne (pc := 76) (tgt := 89) G dX11_requestOf_76 rfl (fun c4 => ?_) (fun c4 => ?_)
        · refine x_iload2 (pc := 89) G dX11_requestOf_89 ?_
          refine x_iconst (pc := 90) (v := 5) G dX11_requestOf_90 ic_5 ?_
          refine x_icmp_ne (pc := 91) (tgt := 104) G dX11_requestOf_91 rfl (fun c5 => ?_) (fun c5 => ?_)
          · refine x_aload0 (pc := 104) G dX11_requestOf_104 ?_
            refine y_gA (pc := 105) G g_45 mG_17 dX11_requestOf_105 ?_
            refine x_iload1 (pc := 108) G dX11_requestOf_108 ?_
            refine y_iald (pc := 109) (v := (gI M 17 p1)) G hM a_17 (by exact (hr _ (by assumption)).1) gI_sI dX11_requestOf_109 ?_
            refine x_iconst (pc := 110) (v := 1) G dX11_requestOf_110 ic_1 ?_
            refine x_icmp_ne (pc := 111) (tgt := 123) G dX11_requestOf_111 rfl (fun c6 => ?_) (fun c6 => ?_)
            · refine x_lconst (pc := 123) (v := 0) G dX11_requestOf_123 lc_0 ?_
              exact x_lret (pc := 124) G B rfl dX11_requestOf_124 ⟨by rw [f_requestOf, if_pos c1, if_pos c2, if_pos c3, if_neg c4, if_neg c5, if_neg c6], by rw [f_requestOf, if_pos c1, if_pos c2, if_pos c3, if_neg c4, if_neg c5, if_neg c6]⟩
            refine x_aload0 (pc := 114) G dX11_requestOf_114 ?_
            refine x_iload1 (pc := 115) G dX11_requestOf_115 ?_
            refine y_c1 (pc := 116) G (c_left hl hM (hr _ (by assumption)).1) q_ml_X11_257 h_X11_left rfl ⟨Nat.le_of_ble_eq_true rfl, Nat.le_of_ble_eq_true rfl⟩ (Nat.le_of_ble_eq_true rfl) (Nat.le_refl _) (Nat.le_refl _) dX11_requestOf_116 ?_
            refine x_i2l (pc := 119) G dX11_requestOf_119 ?_
            refine x_goto (pc := 120) (tgt := 124) G dX11_requestOf_120 rfl ?_
            exact x_lret (pc := 124) G B rfl dX11_requestOf_124 ⟨by rw [f_requestOf, if_pos c1, if_pos c2, if_pos c3, if_neg c4, if_neg c5, if_pos c6], by rw [f_requestOf, if_pos c1, if_pos c2, if_pos c3, if_neg c4, if_neg c5, if_pos c6]⟩
          refine x_aload0 (pc := 94) G dX11_requestOf_94 ?_
          refine y_gA (pc := 95) G g_57 mG_21 dX11_requestOf_95 ?_
          refine x_iload1 (pc := 98) G dX11_requestOf_98 ?_
          refine y_iald (pc := 99) (v := (gI M 21 p1)) G hM a_21 (by exact (hr _ (by assumption)).1) gI_sI dX11_requestOf_99 ?_
          refine x_i2l (pc := 100) G dX11_requestOf_100 ?_
          refine x_goto (pc := 101) (tgt := 124) G dX11_requestOf_101 rfl ?_
          exact x_lret (pc := 124) G B rfl dX11_requestOf_124 ⟨by rw [f_requestOf, if_pos c1, if_pos c2, if_pos c3, if_neg c4, if_pos c5], by rw [f_requestOf, if_pos c1, if_pos c2, if_pos c3, if_neg c4, if_pos c5]⟩
        refine x_aload0 (pc := 79) G dX11_requestOf_79 ?_
        refine y_gA (pc := 80) G g_54 mG_20 dX11_requestOf_80 ?_
        refine x_iload1 (pc := 83) G dX11_requestOf_83 ?_
        refine y_iald (pc := 84) (v := (gI M 20 p1)) G hM a_20 (by exact (hr _ (by assumption)).1) gI_sI dX11_requestOf_84 ?_
        refine x_i2l (pc := 85) G dX11_requestOf_85 ?_
        refine x_goto (pc := 86) (tgt := 124) G dX11_requestOf_86 rfl ?_
        exact x_lret (pc := 124) G B rfl dX11_requestOf_124 ⟨by rw [f_requestOf, if_pos c1, if_pos c2, if_pos c3, if_pos c4], by rw [f_requestOf, if_pos c1, if_pos c2, if_pos c3, if_pos c4]⟩
      refine x_iload2 (pc := 40) G dX11_requestOf_40 ?_
      refine x_if_ne (pc := 41) (y := 0) (tgt := 54) G dX11_requestOf_41 rfl (fun c7 => ?_) (fun c7 => ?_)
      · refine x_iload2 (pc := 54) G dX11_requestOf_54 ?_
        refine x_iconst (pc := 55) (v := 1) G dX11_requestOf_55 ic_1 ?_
        refine x_icmp_ne (pc := 56) (tgt := 67) G dX11_requestOf_56 rfl (fun c8 => ?_) (fun c8 => ?_)
        · refine x_aload0 (pc := 67) G dX11_requestOf_67 ?_
          refine y_gA (pc := 68) G g_51 mG_19 dX11_requestOf_68 ?_
          refine x_iload1 (pc := 71) G dX11_requestOf_71 ?_
          refine y_lald (pc := 72) (v := (gJ M 19 p1)) G hM a_19 (by exact (hr _ (by assumption)).1) gJ_sI dX11_requestOf_72 ?_
          exact x_lret (pc := 73) G B rfl dX11_requestOf_73 ⟨by rw [f_requestOf, if_pos c1, if_pos c2, if_neg c3, if_neg c7, if_neg c8], by rw [f_requestOf, if_pos c1, if_pos c2, if_neg c3, if_neg c7, if_neg c8]⟩
        refine x_aload0 (pc := 59) G dX11_requestOf_59 ?_
        refine x_iload1 (pc := 60) G dX11_requestOf_60 ?_
        refine y_c1 (pc := 61) G (c_total hl hM (hr _ (by assumption)).1 (hr _ (by assumption)).2.2.2.1) q_ml_X11_246 h_X11_total rfl ⟨Nat.le_of_ble_eq_true rfl, Nat.le_of_ble_eq_true rfl⟩ (Nat.le_of_ble_eq_true rfl) (Nat.le_refl _) (Nat.le_refl _) dX11_requestOf_61 ?_
        refine x_goto (pc := 64) (tgt := 73) G dX11_requestOf_64 rfl ?_
        exact x_lret (pc := 73) G B rfl dX11_requestOf_73 ⟨by rw [f_requestOf, if_pos c1, if_pos c2, if_neg c3, if_neg c7, if_pos c8], by rw [f_requestOf, if_pos c1, if_pos c2, if_neg c3, if_neg c7, if_pos c8]⟩
      refine x_aload0 (pc := 44) G dX11_requestOf_44 ?_
      refine y_gA (pc := 45) G g_45 mG_17 dX11_requestOf_45 ?_
      refine x_iload1 (pc := 48) G dX11_requestOf_48 ?_
      refine y_iald (pc := 49) (v := (gI M 17 p1)) G hM a_17 (by exact (hr _ (by assumption)).1) gI_sI dX11_requestOf_49 ?_
      refine x_i2l (pc := 50) G dX11_requestOf_50 ?_
      refine x_goto (pc := 51) (tgt := 73) G dX11_requestOf_51 rfl ?_
      exact x_lret (pc := 73) G B rfl dX11_requestOf_73 ⟨by rw [f_requestOf, if_pos c1, if_pos c2, if_neg c3, if_pos c7], by rw [f_requestOf, if_pos c1, if_pos c2, if_neg c3, if_pos c7]⟩
    refine x_if_eq (pc := 19) (y := 0) (tgt := 26) G dX11_requestOf_19 rfl (fun _ => ?_) (fun q => absurd q (by decide))
    refine x_iconst (pc := 26) (v := 2) G dX11_requestOf_26 ic_2 ?_
    refine y_c1 (pc := 27) G (c_holdsN hl hM (by decide)) q_ml_X11_210 h_X11_holds rfl ⟨Nat.le_of_ble_eq_true rfl, Nat.le_of_ble_eq_true rfl⟩ (Nat.le_of_ble_eq_true rfl) (Nat.le_refl _) (Nat.le_refl _) dX11_requestOf_27 ?_
    refine x_if_ne (pc := 30) (y := 0) (tgt := 35) G dX11_requestOf_30 rfl (fun q => absurd q (by decide)) (fun _ => ?_)
    refine x_lconst (pc := 33) (v := 0) G dX11_requestOf_33 lc_0 ?_
    exact x_lret (pc := 34) G B rfl dX11_requestOf_34 ⟨by rw [f_requestOf, if_pos c1, if_neg c2], by rw [f_requestOf, if_pos c1, if_neg c2]⟩
  refine x_if_ne (pc := 6) (y := 0) (tgt := 13) G dX11_requestOf_6 rfl (fun q => absurd q (by decide)) (fun _ => ?_)
  refine x_iconst (pc := 9) (v := 1) G dX11_requestOf_9 ic_1 ?_
  refine x_goto (pc := 10) (tgt := 27) G dX11_requestOf_10 rfl ?_
  refine y_c1 (pc := 27) G (c_holdsN hl hM (by decide)) q_ml_X11_210 h_X11_holds rfl ⟨Nat.le_of_ble_eq_true rfl, Nat.le_of_ble_eq_true rfl⟩ (Nat.le_of_ble_eq_true rfl) (Nat.le_refl _) (Nat.le_refl _) dX11_requestOf_27 ?_
  refine x_if_ne (pc := 30) (y := 0) (tgt := 35) G dX11_requestOf_30 rfl (fun q => absurd q (by decide)) (fun _ => ?_)
  refine x_lconst (pc := 33) (v := 0) G dX11_requestOf_33 lc_0 ?_
  exact x_lret (pc := 34) G B rfl dX11_requestOf_34 ⟨by rw [f_requestOf, if_neg c1], by rw [f_requestOf, if_neg c1]⟩
theorem dX11_next_0 : decode cX11_next 0 = .ok (.aload_n 0, 1) := by decide +kernel
theorem dX11_next_1 : decode cX11_next 1 = .ok (.aload_n 0, 1) := by decide +kernel
theorem dX11_next_2 : decode cX11_next 2 = .ok (.iload_n 1, 1) := by decide +kernel
theorem dX11_next_3 : decode cX11_next 3 = .ok (.invokevirtual 188, 3) := by decide +kernel
theorem dX11_next_6 : decode cX11_next 6 = .ok (.ifCond .eq 7, 3) := by decide +kernel
theorem dX11_next_9 : decode cX11_next 9 = .ok (.iconst 0, 1) := by decide +kernel
theorem dX11_next_10 : decode cX11_next 10 = .ok (.goto 4, 3) := by decide +kernel
theorem dX11_next_13 : decode cX11_next 13 = .ok (.iconst 1, 1) := by decide +kernel
theorem dX11_next_14 : decode cX11_next 14 = .ok (.invokevirtual 210, 3) := by decide +kernel
theorem dX11_next_17 : decode cX11_next 17 = .ok (.ifCond .ne 5, 3) := by decide +kernel
theorem dX11_next_20 : decode cX11_next 20 = .ok (.iconst 0, 1) := by decide +kernel
theorem dX11_next_21 : decode cX11_next 21 = .ok (.ireturn, 1) := by decide +kernel
theorem dX11_next_22 : decode cX11_next 22 = .ok (.aload_n 0, 1) := by decide +kernel
theorem dX11_next_23 : decode cX11_next 23 = .ok (.getfield 45, 3) := by decide +kernel
theorem dX11_next_26 : decode cX11_next 26 = .ok (.iload_n 1, 1) := by decide +kernel
theorem dX11_next_27 : decode cX11_next 27 = .ok (.iaload, 1) := by decide +kernel
theorem dX11_next_28 : decode cX11_next 28 = .ok (.iconst 1, 1) := by decide +kernel
theorem dX11_next_29 : decode cX11_next 29 = .ok (.if_icmp .ne 11, 3) := by decide +kernel
theorem dX11_next_32 : decode cX11_next 32 = .ok (.aload_n 0, 1) := by decide +kernel
theorem dX11_next_33 : decode cX11_next 33 = .ok (.iload_n 1, 1) := by decide +kernel
theorem dX11_next_34 : decode cX11_next 34 = .ok (.invokevirtual 264, 3) := by decide +kernel
theorem dX11_next_37 : decode cX11_next 37 = .ok (.goto 4, 3) := by decide +kernel
theorem dX11_next_40 : decode cX11_next 40 = .ok (.iconst (-1), 1) := by decide +kernel
theorem dX11_next_41 : decode cX11_next 41 = .ok (.istore_n 2, 1) := by decide +kernel
theorem dX11_next_42 : decode cX11_next 42 = .ok (.aload_n 0, 1) := by decide +kernel
theorem dX11_next_43 : decode cX11_next 43 = .ok (.getfield 45, 3) := by decide +kernel
theorem dX11_next_46 : decode cX11_next 46 = .ok (.iload_n 1, 1) := by decide +kernel
theorem dX11_next_47 : decode cX11_next 47 = .ok (.iaload, 1) := by decide +kernel
theorem dX11_next_48 : decode cX11_next 48 = .ok (.iconst 1, 1) := by decide +kernel
theorem dX11_next_49 : decode cX11_next 49 = .ok (.if_icmp .eq 7, 3) := by decide +kernel
theorem dX11_next_52 : decode cX11_next 52 = .ok (.iconst (-1), 1) := by decide +kernel
theorem dX11_next_53 : decode cX11_next 53 = .ok (.goto 17, 3) := by decide +kernel
theorem dX11_next_56 : decode cX11_next 56 = .ok (.iload_n 2, 1) := by decide +kernel
theorem dX11_next_57 : decode cX11_next 57 = .ok (.iconst (-1), 1) := by decide +kernel
theorem dX11_next_58 : decode cX11_next 58 = .ok (.if_icmp .eq 7, 3) := by decide +kernel
theorem dX11_next_61 : decode cX11_next 61 = .ok (.iload_n 2, 1) := by decide +kernel
theorem dX11_next_62 : decode cX11_next 62 = .ok (.goto 8, 3) := by decide +kernel
theorem dX11_next_65 : decode cX11_next 65 = .ok (.aload_n 0, 1) := by decide +kernel
theorem dX11_next_66 : decode cX11_next 66 = .ok (.iload_n 1, 1) := by decide +kernel
theorem dX11_next_67 : decode cX11_next 67 = .ok (.invokevirtual 267, 3) := by decide +kernel
theorem dX11_next_70 : decode cX11_next 70 = .ok (.ireturn, 1) := by decide +kernel
def f_next (p1 : Int32) (M : MS) : Int32 × MS :=
    if P_isRequest p1 M then
      if (gI M 17 p1) = 1 then
        if (gI M 17 p1) = 1 then
          if (f_byTurn p1 (sI M 0 0)) = (-1) then
            ((f_byController p1 (sI M 0 0)), (sI M 0 0))
          else
          ((f_byTurn p1 (sI M 0 0)), (sI M 0 0))
        else
        ((-1), (sI M 0 0))
      else
      if (gI M 17 p1) = 1 then
        ((f_byController p1 (sI M 0 0)), (sI M 0 0))
      else
      ((-1), (sI M 0 0))
    else
    (0, (sI M 0 1))
abbrev rm_X11_next : Room := { frames := 2, cells := 0, slots := 0, locals := 44 }
set_option maxRecDepth 100000 in
set_option maxHeartbeats 4000000 in
theorem c_next {l : Launch} {k : KC} {mo : Nat} {ad : Nat → Nat} (hl : l.stackTraces = false) (hM : HM mo ad) {M : MS} {p1 : Int32} (hr : ∀ r, P_isRequest r M → RqOK M r) : CM l k mo ad yX11_next (.code yX11_next cX11_next 3 (some .int)) rm_X11_next [.int p1] M (some (.int (f_next p1 M).1)) (f_next p1 M).2 := by
  refine MC.of 1 hl (by decide) (Nat.le_of_ble_eq_true rfl) ?_
  intro p e s m args below meth c A Q G B _ _
  show Wx p l e rm_X11_next s m args below meth c k A 3 Q 0 0 0 [some (.ref mo), some (.int p1), none] [] (mW k mo ad M)
  refine x_aload0 (pc := 0) G dX11_next_0 ?_
  refine x_aload0 (pc := 1) G dX11_next_1 ?_
  refine x_iload1 (pc := 2) G dX11_next_2 ?_
  refine y_cb1 (pc := 3) G (b_isRequest hl hM ) q_ml_X11_188 h_X11_isRequest rfl ⟨Nat.le_of_ble_eq_true rfl, Nat.le_of_ble_eq_true rfl⟩ (Nat.le_of_ble_eq_true rfl) (Nat.le_refl _) (Nat.le_refl _) dX11_next_3 (fun c1 => ?_) (fun c1 => ?_)
  · refine x_if_eq (pc := 6) (y := 0) (tgt := 13) G dX11_next_6 rfl (fun q => absurd q (by decide)) (fun _ => ?_)
    refine x_iconst (pc := 9) (v := 0) G dX11_next_9 ic_0 ?_
    refine x_goto (pc := 10) (tgt := 14) G dX11_next_10 rfl ?_
    refine y_c1 (pc := 14) G (c_holds0 hl hM) q_ml_X11_210 h_X11_holds rfl ⟨Nat.le_of_ble_eq_true rfl, Nat.le_of_ble_eq_true rfl⟩ (Nat.le_of_ble_eq_true rfl) (Nat.le_refl _) (Nat.le_refl _) dX11_next_14 ?_
    refine x_if_ne (pc := 17) (y := 0) (tgt := 22) G dX11_next_17 rfl (fun _ => ?_) (fun q => absurd q (by decide))
    refine x_aload0 (pc := 22) G dX11_next_22 ?_
    refine y_gA (pc := 23) G g_45 mG_17 dX11_next_23 ?_
    refine x_iload1 (pc := 26) G dX11_next_26 ?_
    refine y_iald (pc := 27) (v := (gI M 17 p1)) G hM a_17 (by exact (hr _ (by assumption)).1) gI_sI dX11_next_27 ?_
    refine x_iconst (pc := 28) (v := 1) G dX11_next_28 ic_1 ?_
    refine x_icmp_ne (pc := 29) (tgt := 40) G dX11_next_29 rfl (fun c2 => ?_) (fun c2 => ?_)
    · refine x_iconst (pc := 40) (v := (-1)) G dX11_next_40 ic_m1 ?_
      refine x_istore2 (pc := 41) G dX11_next_41 (Nat.le_of_ble_eq_true rfl) rfl ?_
      refine x_aload0 (pc := 42) G dX11_next_42 ?_
      refine y_gA (pc := 43) G g_45 mG_17 dX11_next_43 ?_
      refine x_iload1 (pc := 46) G dX11_next_46 ?_
      refine y_iald (pc := 47) (v := (gI M 17 p1)) G hM a_17 (by exact (hr _ (by assumption)).1) gI_sI dX11_next_47 ?_
      refine x_iconst (pc := 48) (v := 1) G dX11_next_48 ic_1 ?_
      refine x_icmp_eq (pc := 49) (tgt := 56) G dX11_next_49 rfl (fun c3 => ?_) (fun c3 => ?_)
      · refine x_iload2 (pc := 56) G dX11_next_56 ?_
        refine x_iconst (pc := 57) (v := (-1)) G dX11_next_57 ic_m1 ?_
        refine x_icmp_eq (pc := 58) (tgt := 65) G dX11_next_58 rfl (fun _ => ?_) (fun q => absurd q (by decide))
        refine x_aload0 (pc := 65) G dX11_next_65 ?_
        refine x_iload1 (pc := 66) G dX11_next_66 ?_
        refine y_c1 (pc := 67) G (c_byController hl hM (hr _ (by assumption))) q_ml_X11_267 h_X11_byController rfl ⟨Nat.le_of_ble_eq_true rfl, Nat.le_of_ble_eq_true rfl⟩ (Nat.le_of_ble_eq_true rfl) (Nat.le_refl _) (Nat.le_refl _) dX11_next_67 ?_
        exact x_iret (pc := 70) G B rfl dX11_next_70 ⟨by rw [f_next, if_pos c1, if_neg c2, if_pos c3], by rw [f_next, if_pos c1, if_neg c2, if_pos c3]⟩
      refine x_iconst (pc := 52) (v := (-1)) G dX11_next_52 ic_m1 ?_
      refine x_goto (pc := 53) (tgt := 70) G dX11_next_53 rfl ?_
      exact x_iret (pc := 70) G B rfl dX11_next_70 ⟨by rw [f_next, if_pos c1, if_neg c2, if_neg c3], by rw [f_next, if_pos c1, if_neg c2, if_neg c3]⟩
    refine x_aload0 (pc := 32) G dX11_next_32 ?_
    refine x_iload1 (pc := 33) G dX11_next_33 ?_
    refine y_c1 (pc := 34) G (c_byTurn hl hM (hr _ (by assumption))) q_ml_X11_264 h_X11_byTurn rfl ⟨Nat.le_of_ble_eq_true rfl, Nat.le_of_ble_eq_true rfl⟩ (Nat.le_of_ble_eq_true rfl) (Nat.le_refl _) (Nat.le_refl _) dX11_next_34 ?_
    refine x_goto (pc := 37) (tgt := 41) G dX11_next_37 rfl ?_
    refine x_istore2 (pc := 41) G dX11_next_41 (Nat.le_of_ble_eq_true rfl) rfl ?_
    refine x_aload0 (pc := 42) G dX11_next_42 ?_
    refine y_gA (pc := 43) G g_45 mG_17 dX11_next_43 ?_
    refine x_iload1 (pc := 46) G dX11_next_46 ?_
    refine y_iald (pc := 47) (v := (gI M 17 p1)) G hM a_17 (by exact (hr _ (by assumption)).1) gI_sI dX11_next_47 ?_
    refine x_iconst (pc := 48) (v := 1) G dX11_next_48 ic_1 ?_
    refine x_icmp_eq (pc := 49) (tgt := 56) G dX11_next_49 rfl (fun c4 => ?_) (fun c4 => ?_)
    · refine x_iload2 (pc := 56) G dX11_next_56 ?_
      refine x_iconst (pc := 57) (v := (-1)) G dX11_next_57 ic_m1 ?_
      refine x_icmp_eq (pc := 58) (tgt := 65) G dX11_next_58 rfl (fun c5 => ?_) (fun c5 => ?_)
      · refine x_aload0 (pc := 65) G dX11_next_65 ?_
        refine x_iload1 (pc := 66) G dX11_next_66 ?_
        refine y_c1 (pc := 67) G (c_byController hl hM (hr _ (by assumption))) q_ml_X11_267 h_X11_byController rfl ⟨Nat.le_of_ble_eq_true rfl, Nat.le_of_ble_eq_true rfl⟩ (Nat.le_of_ble_eq_true rfl) (Nat.le_refl _) (Nat.le_refl _) dX11_next_67 ?_
        exact x_iret (pc := 70) G B rfl dX11_next_70 ⟨by rw [f_next, if_pos c1, if_pos c2, if_pos c4, if_pos c5], by rw [f_next, if_pos c1, if_pos c2, if_pos c4, if_pos c5]⟩
      refine x_iload2 (pc := 61) G dX11_next_61 ?_
      refine x_goto (pc := 62) (tgt := 70) G dX11_next_62 rfl ?_
      exact x_iret (pc := 70) G B rfl dX11_next_70 ⟨by rw [f_next, if_pos c1, if_pos c2, if_pos c4, if_neg c5], by rw [f_next, if_pos c1, if_pos c2, if_pos c4, if_neg c5]⟩
    refine x_iconst (pc := 52) (v := (-1)) G dX11_next_52 ic_m1 ?_
    refine x_goto (pc := 53) (tgt := 70) G dX11_next_53 rfl ?_
    exact x_iret (pc := 70) G B rfl dX11_next_70 ⟨by rw [f_next, if_pos c1, if_pos c2, if_neg c4], by rw [f_next, if_pos c1, if_pos c2, if_neg c4]⟩
  refine x_if_eq (pc := 6) (y := 0) (tgt := 13) G dX11_next_6 rfl (fun _ => ?_) (fun q => absurd q (by decide))
  refine x_iconst (pc := 13) (v := 1) G dX11_next_13 ic_1 ?_
  refine y_c1 (pc := 14) G (c_holdsN hl hM (by decide)) q_ml_X11_210 h_X11_holds rfl ⟨Nat.le_of_ble_eq_true rfl, Nat.le_of_ble_eq_true rfl⟩ (Nat.le_of_ble_eq_true rfl) (Nat.le_refl _) (Nat.le_refl _) dX11_next_14 ?_
  refine x_if_ne (pc := 17) (y := 0) (tgt := 22) G dX11_next_17 rfl (fun q => absurd q (by decide)) (fun _ => ?_)
  refine x_iconst (pc := 20) (v := 0) G dX11_next_20 ic_0 ?_
  exact x_iret (pc := 21) G B rfl dX11_next_21 ⟨by rw [f_next, if_neg c1], by rw [f_next, if_neg c1]⟩
theorem dX11_lineOf_0 : decode cX11_lineOf 0 = .ok (.aload_n 0, 1) := by decide +kernel
theorem dX11_lineOf_1 : decode cX11_lineOf 1 = .ok (.aload_n 0, 1) := by decide +kernel
theorem dX11_lineOf_2 : decode cX11_lineOf 2 = .ok (.iload_n 1, 1) := by decide +kernel
theorem dX11_lineOf_3 : decode cX11_lineOf 3 = .ok (.iload_n 2, 1) := by decide +kernel
theorem dX11_lineOf_4 : decode cX11_lineOf 4 = .ok (.invokevirtual 278, 3) := by decide +kernel
theorem dX11_lineOf_7 : decode cX11_lineOf 7 = .ok (.ifCond .ne 7, 3) := by decide +kernel
theorem dX11_lineOf_10 : decode cX11_lineOf 10 = .ok (.iconst 1, 1) := by decide +kernel
theorem dX11_lineOf_11 : decode cX11_lineOf 11 = .ok (.goto 17, 3) := by decide +kernel
theorem dX11_lineOf_14 : decode cX11_lineOf 14 = .ok (.iload_n 3, 1) := by decide +kernel
theorem dX11_lineOf_15 : decode cX11_lineOf 15 = .ok (.iconst 0, 1) := by decide +kernel
theorem dX11_lineOf_16 : decode cX11_lineOf 16 = .ok (.iconst 4, 1) := by decide +kernel
theorem dX11_lineOf_17 : decode cX11_lineOf 17 = .ok (.invokestatic 181, 3) := by decide +kernel
theorem dX11_lineOf_20 : decode cX11_lineOf 20 = .ok (.ifCond .eq 7, 3) := by decide +kernel
theorem dX11_lineOf_23 : decode cX11_lineOf 23 = .ok (.iconst 0, 1) := by decide +kernel
theorem dX11_lineOf_24 : decode cX11_lineOf 24 = .ok (.goto 4, 3) := by decide +kernel
theorem dX11_lineOf_27 : decode cX11_lineOf 27 = .ok (.iconst 2, 1) := by decide +kernel
theorem dX11_lineOf_28 : decode cX11_lineOf 28 = .ok (.invokevirtual 210, 3) := by decide +kernel
theorem dX11_lineOf_31 : decode cX11_lineOf 31 = .ok (.ifCond .ne 5, 3) := by decide +kernel
theorem dX11_lineOf_34 : decode cX11_lineOf 34 = .ok (.iconst 0, 1) := by decide +kernel
theorem dX11_lineOf_35 : decode cX11_lineOf 35 = .ok (.ireturn, 1) := by decide +kernel
theorem dX11_lineOf_36 : decode cX11_lineOf 36 = .ok (.iconst 4, 1) := by decide +kernel
theorem dX11_lineOf_37 : decode cX11_lineOf 37 = .ok (.iload_n 1, 1) := by decide +kernel
theorem dX11_lineOf_38 : decode cX11_lineOf 38 = .ok (.imul, 1) := by decide +kernel
theorem dX11_lineOf_39 : decode cX11_lineOf 39 = .ok (.iload_n 2, 1) := by decide +kernel
theorem dX11_lineOf_40 : decode cX11_lineOf 40 = .ok (.iadd, 1) := by decide +kernel
theorem dX11_lineOf_41 : decode cX11_lineOf 41 = .ok (.istore 4, 2) := by decide +kernel
theorem dX11_lineOf_43 : decode cX11_lineOf 43 = .ok (.iload_n 3, 1) := by decide +kernel
theorem dX11_lineOf_44 : decode cX11_lineOf 44 = .ok (.iconst 2, 1) := by decide +kernel
theorem dX11_lineOf_45 : decode cX11_lineOf 45 = .ok (.if_icmp .ge 25, 3) := by decide +kernel
theorem dX11_lineOf_48 : decode cX11_lineOf 48 = .ok (.iload_n 3, 1) := by decide +kernel
theorem dX11_lineOf_49 : decode cX11_lineOf 49 = .ok (.ifCond .ne 13, 3) := by decide +kernel
theorem dX11_lineOf_52 : decode cX11_lineOf 52 = .ok (.aload_n 0, 1) := by decide +kernel
theorem dX11_lineOf_53 : decode cX11_lineOf 53 = .ok (.getfield 78, 3) := by decide +kernel
theorem dX11_lineOf_56 : decode cX11_lineOf 56 = .ok (.iload 4, 2) := by decide +kernel
theorem dX11_lineOf_58 : decode cX11_lineOf 58 = .ok (.iaload, 1) := by decide +kernel
theorem dX11_lineOf_59 : decode cX11_lineOf 59 = .ok (.goto 10, 3) := by decide +kernel
theorem dX11_lineOf_62 : decode cX11_lineOf 62 = .ok (.aload_n 0, 1) := by decide +kernel
theorem dX11_lineOf_63 : decode cX11_lineOf 63 = .ok (.getfield 81, 3) := by decide +kernel
theorem dX11_lineOf_66 : decode cX11_lineOf 66 = .ok (.iload 4, 2) := by decide +kernel
theorem dX11_lineOf_68 : decode cX11_lineOf 68 = .ok (.iaload, 1) := by decide +kernel
theorem dX11_lineOf_69 : decode cX11_lineOf 69 = .ok (.ireturn, 1) := by decide +kernel
theorem dX11_lineOf_70 : decode cX11_lineOf 70 = .ok (.iload_n 3, 1) := by decide +kernel
theorem dX11_lineOf_71 : decode cX11_lineOf 71 = .ok (.iconst 2, 1) := by decide +kernel
theorem dX11_lineOf_72 : decode cX11_lineOf 72 = .ok (.if_icmp .ne 13, 3) := by decide +kernel
theorem dX11_lineOf_75 : decode cX11_lineOf 75 = .ok (.aload_n 0, 1) := by decide +kernel
theorem dX11_lineOf_76 : decode cX11_lineOf 76 = .ok (.getfield 84, 3) := by decide +kernel
theorem dX11_lineOf_79 : decode cX11_lineOf 79 = .ok (.iload 4, 2) := by decide +kernel
theorem dX11_lineOf_81 : decode cX11_lineOf 81 = .ok (.iaload, 1) := by decide +kernel
theorem dX11_lineOf_82 : decode cX11_lineOf 82 = .ok (.goto 23, 3) := by decide +kernel
theorem dX11_lineOf_85 : decode cX11_lineOf 85 = .ok (.iload_n 3, 1) := by decide +kernel
theorem dX11_lineOf_86 : decode cX11_lineOf 86 = .ok (.iconst 3, 1) := by decide +kernel
theorem dX11_lineOf_87 : decode cX11_lineOf 87 = .ok (.if_icmp .ne 12, 3) := by decide +kernel
theorem dX11_lineOf_90 : decode cX11_lineOf 90 = .ok (.aload_n 0, 1) := by decide +kernel
theorem dX11_lineOf_91 : decode cX11_lineOf 91 = .ok (.iload 4, 2) := by decide +kernel
theorem dX11_lineOf_93 : decode cX11_lineOf 93 = .ok (.invokevirtual 230, 3) := by decide +kernel
theorem dX11_lineOf_96 : decode cX11_lineOf 96 = .ok (.goto 9, 3) := by decide +kernel
theorem dX11_lineOf_99 : decode cX11_lineOf 99 = .ok (.aload_n 0, 1) := by decide +kernel
theorem dX11_lineOf_100 : decode cX11_lineOf 100 = .ok (.iload 4, 2) := by decide +kernel
theorem dX11_lineOf_102 : decode cX11_lineOf 102 = .ok (.invokevirtual 293, 3) := by decide +kernel
theorem dX11_lineOf_105 : decode cX11_lineOf 105 = .ok (.ireturn, 1) := by decide +kernel
def f_lineOf (p1 : Int32) (p2 : Int32) (p3 : Int32) (M : MS) : Int32 × MS :=
    if P_isLine p1 p2 M then
      if P_in p3 0 4 then
        if 2 ≤ p3 then
          if p3 = 2 then
            ((gI M 30 ((4 * p1) + p2)), (sI M 0 0))
          else
          if p3 = 3 then
            ((f_bookedPieces ((4 * p1) + p2) (sI M 0 0)), (sI M 0 0))
          else
          ((f_heldPieces ((4 * p1) + p2) (sI M 0 0)), (sI M 0 0))
        else
        if p3 = 0 then
          ((gI M 28 ((4 * p1) + p2)), (sI M 0 0))
        else
        ((gI M 29 ((4 * p1) + p2)), (sI M 0 0))
      else
      (0, (sI M 0 2))
    else
    (0, (sI M 0 1))
abbrev rm_X11_lineOf : Room := { frames := 3, cells := 0, slots := 0, locals := 65 }
set_option maxRecDepth 100000 in
set_option maxHeartbeats 4000000 in
theorem c_lineOf {l : Launch} {k : KC} {mo : Nat} {ad : Nat → Nat} (hl : l.stackTraces = false) (hM : HM mo ad) {M : MS} {p1 : Int32} {p2 : Int32} {p3 : Int32} (hr : ∀ r, P_isRequest r M → RqOK M r) (h39 : LE (mI M 39) 60) : CM l k mo ad yX11_lineOf (.code yX11_lineOf cX11_lineOf 5 (some .int)) rm_X11_lineOf [.int p1, .int p2, .int p3] M (some (.int (f_lineOf p1 p2 p3 M).1)) (f_lineOf p1 p2 p3 M).2 := by
  refine MC.of 1 hl (by decide) (Nat.le_of_ble_eq_true rfl) ?_
  intro p e s m args below meth c A Q G B _ _
  show Wx p l e rm_X11_lineOf s m args below meth c k A 5 Q 0 0 0 [some (.ref mo), some (.int p1), some (.int p2), some (.int p3), none] [] (mW k mo ad M)
  refine x_aload0 (pc := 0) G dX11_lineOf_0 ?_
  refine x_aload0 (pc := 1) G dX11_lineOf_1 ?_
  refine x_iload1 (pc := 2) G dX11_lineOf_2 ?_
  refine x_iload2 (pc := 3) G dX11_lineOf_3 ?_
  refine y_cb2 (pc := 4) G (b_isLine hl hM (fun q => (hr _ q).1)) q_ml_X11_278 h_X11_isLine rfl ⟨Nat.le_of_ble_eq_true rfl, Nat.le_of_ble_eq_true rfl⟩ (Nat.le_of_ble_eq_true rfl) (Nat.le_refl _) (Nat.le_refl _) dX11_lineOf_4 (fun c1 => ?_) (fun c1 => ?_)
  · refine x_if_ne (pc := 7) (y := 0) (tgt := 14) G dX11_lineOf_7 rfl (fun _ => ?_) (fun q => absurd q (by decide))
    refine x_iload3 (pc := 14) G dX11_lineOf_14 ?_
    refine x_iconst (pc := 15) (v := 0) G dX11_lineOf_15 ic_0 ?_
    refine x_iconst (pc := 16) (v := 4) G dX11_lineOf_16 ic_4 ?_
    refine x_cSb3 (pc := 17) G (b_in hl hM _) q_ml_X11_181 h_X11_in ⟨Nat.le_of_ble_eq_true rfl, Nat.le_of_ble_eq_true rfl⟩ (Nat.le_of_ble_eq_true rfl) (Nat.le_refl _) (Nat.le_refl _) dX11_lineOf_17 (fun c2 => ?_) (fun c2 => ?_)
    · refine x_if_eq (pc := 20) (y := 0) (tgt := 27) G dX11_lineOf_20 rfl (fun q => absurd q (by decide)) (fun _ => ?_)
      refine x_iconst (pc := 23) (v := 0) G dX11_lineOf_23 ic_0 ?_
      refine x_goto (pc := 24) (tgt := 28) G dX11_lineOf_24 rfl ?_
      refine y_c1 (pc := 28) G (c_holds0 hl hM) q_ml_X11_210 h_X11_holds rfl ⟨Nat.le_of_ble_eq_true rfl, Nat.le_of_ble_eq_true rfl⟩ (Nat.le_of_ble_eq_true rfl) (Nat.le_refl _) (Nat.le_refl _) dX11_lineOf_28 ?_
      refine x_if_ne (pc := 31) (y := 0) (tgt := 36) G dX11_lineOf_31 rfl (fun _ => ?_) (fun q => absurd q (by decide))
      refine x_iconst (pc := 36) (v := 4) G dX11_lineOf_36 ic_4 ?_
      refine x_iload1 (pc := 37) G dX11_lineOf_37 ?_
      refine x_imul (pc := 38) G dX11_lineOf_38 ?_
      refine x_iload2 (pc := 39) G dX11_lineOf_39 ?_
      refine x_iadd (pc := 40) G dX11_lineOf_40 ?_
      refine x_istore4 (pc := 41) G dX11_lineOf_41 (Nat.le_of_ble_eq_true rfl) rfl ?_
      refine x_iload3 (pc := 43) G dX11_lineOf_43 ?_
      refine x_iconst (pc := 44) (v := 2) G dX11_lineOf_44 ic_2 ?_
      refine x_icmp_ge (pc := 45) (tgt := 70) G dX11_lineOf_45 rfl (fun c3 => ?_) (fun c3 => ?_)
      · refine x_iload3 (pc := 70) G dX11_lineOf_70 ?_
        refine x_iconst (pc := 71) (v := 2) G dX11_lineOf_71 ic_2 ?_
        refine x_icmp_ne (pc := 72) (tgt := 85) G dX11_lineOf_72 rfl (fun c4 => ?_) (fun c4 => ?_)
        · refine x_iload3 (pc := 85) G dX11_lineOf_85 ?_
          refine x_iconst (pc := 86) (v := 3) G dX11_lineOf_86 ic_3 ?_
          refine x_icmp_ne (pc := 87) (tgt := 99) G dX11_lineOf_87 rfl (fun c5 => ?_) (fun c5 => ?_)
          · refine x_aload0 (pc := 99) G dX11_lineOf_99 ?_
            refine x_iload4 (pc := 100) G dX11_lineOf_100 ?_
            refine y_c1 (pc := 102) G (c_heldPieces hl hM h39) q_ml_X11_293 h_X11_heldPieces rfl ⟨Nat.le_of_ble_eq_true rfl, Nat.le_of_ble_eq_true rfl⟩ (Nat.le_of_ble_eq_true rfl) (Nat.le_refl _) (Nat.le_refl _) dX11_lineOf_102 ?_
            exact x_iret (pc := 105) G B rfl dX11_lineOf_105 ⟨by rw [f_lineOf, if_pos c1, if_pos c2, if_pos c3, if_neg c4, if_neg c5], by rw [f_lineOf, if_pos c1, if_pos c2, if_pos c3, if_neg c4, if_neg c5]⟩
          refine x_aload0 (pc := 90) G dX11_lineOf_90 ?_
          refine x_iload4 (pc := 91) G dX11_lineOf_91 ?_
          refine y_c1 (pc := 93) G (c_bookedPieces hl hM h39) q_ml_X11_230 h_X11_bookedPieces rfl ⟨Nat.le_of_ble_eq_true rfl, Nat.le_of_ble_eq_true rfl⟩ (Nat.le_of_ble_eq_true rfl) (Nat.le_refl _) (Nat.le_refl _) dX11_lineOf_93 ?_
          refine x_goto (pc := 96) (tgt := 105) G dX11_lineOf_96 rfl ?_
          exact x_iret (pc := 105) G B rfl dX11_lineOf_105 ⟨by rw [f_lineOf, if_pos c1, if_pos c2, if_pos c3, if_neg c4, if_pos c5], by rw [f_lineOf, if_pos c1, if_pos c2, if_pos c3, if_neg c4, if_pos c5]⟩
        refine x_aload0 (pc := 75) G dX11_lineOf_75 ?_
        refine y_gA (pc := 76) G g_84 mG_30 dX11_lineOf_76 ?_
        refine x_iload4 (pc := 79) G dX11_lineOf_79 ?_
        refine y_iald (pc := 81) (v := (gI M 30 ((4 * p1) + p2))) G hM a_30 (by exact vin_linep (hr _ c1.1).1 (hr _ c1.1).2.2.2.1 c1.2) gI_sI dX11_lineOf_81 ?_
        refine x_goto (pc := 82) (tgt := 105) G dX11_lineOf_82 rfl ?_
        exact x_iret (pc := 105) G B rfl dX11_lineOf_105 ⟨by rw [f_lineOf, if_pos c1, if_pos c2, if_pos c3, if_pos c4], by rw [f_lineOf, if_pos c1, if_pos c2, if_pos c3, if_pos c4]⟩
      refine x_iload3 (pc := 48) G dX11_lineOf_48 ?_
      refine x_if_ne (pc := 49) (y := 0) (tgt := 62) G dX11_lineOf_49 rfl (fun c6 => ?_) (fun c6 => ?_)
      · refine x_aload0 (pc := 62) G dX11_lineOf_62 ?_
        refine y_gA (pc := 63) G g_81 mG_29 dX11_lineOf_63 ?_
        refine x_iload4 (pc := 66) G dX11_lineOf_66 ?_
        refine y_iald (pc := 68) (v := (gI M 29 ((4 * p1) + p2))) G hM a_29 (by exact vin_linep (hr _ c1.1).1 (hr _ c1.1).2.2.2.1 c1.2) gI_sI dX11_lineOf_68 ?_
        exact x_iret (pc := 69) G B rfl dX11_lineOf_69 ⟨by rw [f_lineOf, if_pos c1, if_pos c2, if_neg c3, if_neg c6], by rw [f_lineOf, if_pos c1, if_pos c2, if_neg c3, if_neg c6]⟩
      refine x_aload0 (pc := 52) G dX11_lineOf_52 ?_
      refine y_gA (pc := 53) G g_78 mG_28 dX11_lineOf_53 ?_
      refine x_iload4 (pc := 56) G dX11_lineOf_56 ?_
      refine y_iald (pc := 58) (v := (gI M 28 ((4 * p1) + p2))) G hM a_28 (by exact vin_linep (hr _ c1.1).1 (hr _ c1.1).2.2.2.1 c1.2) gI_sI dX11_lineOf_58 ?_
      refine x_goto (pc := 59) (tgt := 69) G dX11_lineOf_59 rfl ?_
      exact x_iret (pc := 69) G B rfl dX11_lineOf_69 ⟨by rw [f_lineOf, if_pos c1, if_pos c2, if_neg c3, if_pos c6], by rw [f_lineOf, if_pos c1, if_pos c2, if_neg c3, if_pos c6]⟩
    refine x_if_eq (pc := 20) (y := 0) (tgt := 27) G dX11_lineOf_20 rfl (fun _ => ?_) (fun q => absurd q (by decide))
    refine x_iconst (pc := 27) (v := 2) G dX11_lineOf_27 ic_2 ?_
    refine y_c1 (pc := 28) G (c_holdsN hl hM (by decide)) q_ml_X11_210 h_X11_holds rfl ⟨Nat.le_of_ble_eq_true rfl, Nat.le_of_ble_eq_true rfl⟩ (Nat.le_of_ble_eq_true rfl) (Nat.le_refl _) (Nat.le_refl _) dX11_lineOf_28 ?_
    refine x_if_ne (pc := 31) (y := 0) (tgt := 36) G dX11_lineOf_31 rfl (fun q => absurd q (by decide)) (fun _ => ?_)
    refine x_iconst (pc := 34) (v := 0) G dX11_lineOf_34 ic_0 ?_
    exact x_iret (pc := 35) G B rfl dX11_lineOf_35 ⟨by rw [f_lineOf, if_pos c1, if_neg c2], by rw [f_lineOf, if_pos c1, if_neg c2]⟩
  refine x_if_ne (pc := 7) (y := 0) (tgt := 14) G dX11_lineOf_7 rfl (fun q => absurd q (by decide)) (fun _ => ?_)
  refine x_iconst (pc := 10) (v := 1) G dX11_lineOf_10 ic_1 ?_
  refine x_goto (pc := 11) (tgt := 28) G dX11_lineOf_11 rfl ?_
  refine y_c1 (pc := 28) G (c_holdsN hl hM (by decide)) q_ml_X11_210 h_X11_holds rfl ⟨Nat.le_of_ble_eq_true rfl, Nat.le_of_ble_eq_true rfl⟩ (Nat.le_of_ble_eq_true rfl) (Nat.le_refl _) (Nat.le_refl _) dX11_lineOf_28 ?_
  refine x_if_ne (pc := 31) (y := 0) (tgt := 36) G dX11_lineOf_31 rfl (fun q => absurd q (by decide)) (fun _ => ?_)
  refine x_iconst (pc := 34) (v := 0) G dX11_lineOf_34 ic_0 ?_
  exact x_iret (pc := 35) G B rfl dX11_lineOf_35 ⟨by rw [f_lineOf, if_neg c1], by rw [f_lineOf, if_neg c1]⟩
theorem dX11_invoiceOf_0 : decode cX11_invoiceOf 0 = .ok (.aload_n 0, 1) := by decide +kernel
theorem dX11_invoiceOf_1 : decode cX11_invoiceOf 1 = .ok (.aload_n 0, 1) := by decide +kernel
theorem dX11_invoiceOf_2 : decode cX11_invoiceOf 2 = .ok (.iload_n 1, 1) := by decide +kernel
theorem dX11_invoiceOf_3 : decode cX11_invoiceOf 3 = .ok (.invokevirtual 303, 3) := by decide +kernel
theorem dX11_invoiceOf_6 : decode cX11_invoiceOf 6 = .ok (.ifCond .ne 7, 3) := by decide +kernel
theorem dX11_invoiceOf_9 : decode cX11_invoiceOf 9 = .ok (.iconst 1, 1) := by decide +kernel
theorem dX11_invoiceOf_10 : decode cX11_invoiceOf 10 = .ok (.goto 18, 3) := by decide +kernel
theorem dX11_invoiceOf_13 : decode cX11_invoiceOf 13 = .ok (.iload_n 2, 1) := by decide +kernel
theorem dX11_invoiceOf_14 : decode cX11_invoiceOf 14 = .ok (.iconst 0, 1) := by decide +kernel
theorem dX11_invoiceOf_15 : decode cX11_invoiceOf 15 = .ok (.bipush 7, 2) := by decide +kernel
theorem dX11_invoiceOf_17 : decode cX11_invoiceOf 17 = .ok (.invokestatic 181, 3) := by decide +kernel
theorem dX11_invoiceOf_20 : decode cX11_invoiceOf 20 = .ok (.ifCond .eq 7, 3) := by decide +kernel
theorem dX11_invoiceOf_23 : decode cX11_invoiceOf 23 = .ok (.iconst 0, 1) := by decide +kernel
theorem dX11_invoiceOf_24 : decode cX11_invoiceOf 24 = .ok (.goto 4, 3) := by decide +kernel
theorem dX11_invoiceOf_27 : decode cX11_invoiceOf 27 = .ok (.iconst 2, 1) := by decide +kernel
theorem dX11_invoiceOf_28 : decode cX11_invoiceOf 28 = .ok (.invokevirtual 210, 3) := by decide +kernel
theorem dX11_invoiceOf_31 : decode cX11_invoiceOf 31 = .ok (.ifCond .ne 5, 3) := by decide +kernel
theorem dX11_invoiceOf_34 : decode cX11_invoiceOf 34 = .ok (.lconst 0, 1) := by decide +kernel
theorem dX11_invoiceOf_35 : decode cX11_invoiceOf 35 = .ok (.lreturn, 1) := by decide +kernel
theorem dX11_invoiceOf_36 : decode cX11_invoiceOf 36 = .ok (.aload_n 0, 1) := by decide +kernel
theorem dX11_invoiceOf_37 : decode cX11_invoiceOf 37 = .ok (.getfield 124, 3) := by decide +kernel
theorem dX11_invoiceOf_40 : decode cX11_invoiceOf 40 = .ok (.iload_n 1, 1) := by decide +kernel
theorem dX11_invoiceOf_41 : decode cX11_invoiceOf 41 = .ok (.iaload, 1) := by decide +kernel
theorem dX11_invoiceOf_42 : decode cX11_invoiceOf 42 = .ok (.ifCond .ne 7, 3) := by decide +kernel
theorem dX11_invoiceOf_45 : decode cX11_invoiceOf 45 = .ok (.iconst 1, 1) := by decide +kernel
theorem dX11_invoiceOf_46 : decode cX11_invoiceOf 46 = .ok (.goto 4, 3) := by decide +kernel
theorem dX11_invoiceOf_49 : decode cX11_invoiceOf 49 = .ok (.iconst 0, 1) := by decide +kernel
theorem dX11_invoiceOf_50 : decode cX11_invoiceOf 50 = .ok (.istore_n 3, 1) := by decide +kernel
theorem dX11_invoiceOf_51 : decode cX11_invoiceOf 51 = .ok (.iload_n 2, 1) := by decide +kernel
theorem dX11_invoiceOf_52 : decode cX11_invoiceOf 52 = .ok (.iconst 3, 1) := by decide +kernel
theorem dX11_invoiceOf_53 : decode cX11_invoiceOf 53 = .ok (.if_icmp .ge 46, 3) := by decide +kernel
theorem dX11_invoiceOf_56 : decode cX11_invoiceOf 56 = .ok (.iload_n 2, 1) := by decide +kernel
theorem dX11_invoiceOf_57 : decode cX11_invoiceOf 57 = .ok (.ifCond .ne 13, 3) := by decide +kernel
theorem dX11_invoiceOf_60 : decode cX11_invoiceOf 60 = .ok (.aload_n 0, 1) := by decide +kernel
theorem dX11_invoiceOf_61 : decode cX11_invoiceOf 61 = .ok (.getfield 124, 3) := by decide +kernel
theorem dX11_invoiceOf_64 : decode cX11_invoiceOf 64 = .ok (.iload_n 1, 1) := by decide +kernel
theorem dX11_invoiceOf_65 : decode cX11_invoiceOf 65 = .ok (.iaload, 1) := by decide +kernel
theorem dX11_invoiceOf_66 : decode cX11_invoiceOf 66 = .ok (.i2l, 1) := by decide +kernel
theorem dX11_invoiceOf_67 : decode cX11_invoiceOf 67 = .ok (.goto 31, 3) := by decide +kernel
theorem dX11_invoiceOf_70 : decode cX11_invoiceOf 70 = .ok (.iload_n 2, 1) := by decide +kernel
theorem dX11_invoiceOf_71 : decode cX11_invoiceOf 71 = .ok (.iconst 2, 1) := by decide +kernel
theorem dX11_invoiceOf_72 : decode cX11_invoiceOf 72 = .ok (.if_icmp .ne 12, 3) := by decide +kernel
theorem dX11_invoiceOf_75 : decode cX11_invoiceOf 75 = .ok (.aload_n 0, 1) := by decide +kernel
theorem dX11_invoiceOf_76 : decode cX11_invoiceOf 76 = .ok (.getfield 121, 3) := by decide +kernel
theorem dX11_invoiceOf_79 : decode cX11_invoiceOf 79 = .ok (.iload_n 1, 1) := by decide +kernel
theorem dX11_invoiceOf_80 : decode cX11_invoiceOf 80 = .ok (.laload, 1) := by decide +kernel
theorem dX11_invoiceOf_81 : decode cX11_invoiceOf 81 = .ok (.goto 17, 3) := by decide +kernel
theorem dX11_invoiceOf_84 : decode cX11_invoiceOf 84 = .ok (.iload_n 3, 1) := by decide +kernel
theorem dX11_invoiceOf_85 : decode cX11_invoiceOf 85 = .ok (.ifCond .eq 12, 3) := by decide +kernel
theorem dX11_invoiceOf_88 : decode cX11_invoiceOf 88 = .ok (.aload_n 0, 1) := by decide +kernel
theorem dX11_invoiceOf_89 : decode cX11_invoiceOf 89 = .ok (.iload_n 1, 1) := by decide +kernel
theorem dX11_invoiceOf_90 : decode cX11_invoiceOf 90 = .ok (.invokevirtual 283, 3) := by decide +kernel
theorem dX11_invoiceOf_93 : decode cX11_invoiceOf 93 = .ok (.i2l, 1) := by decide +kernel
theorem dX11_invoiceOf_94 : decode cX11_invoiceOf 94 = .ok (.goto 4, 3) := by decide +kernel
theorem dX11_invoiceOf_97 : decode cX11_invoiceOf 97 = .ok (.lconst 0, 1) := by decide +kernel
theorem dX11_invoiceOf_98 : decode cX11_invoiceOf 98 = .ok (.lreturn, 1) := by decide +kernel
theorem dX11_invoiceOf_99 : decode cX11_invoiceOf 99 = .ok (.iload_n 2, 1) := by decide +kernel
theorem dX11_invoiceOf_100 : decode cX11_invoiceOf 100 = .ok (.bipush 6, 2) := by decide +kernel
theorem dX11_invoiceOf_102 : decode cX11_invoiceOf 102 = .ok (.if_icmp .ge 52, 3) := by decide +kernel
theorem dX11_invoiceOf_105 : decode cX11_invoiceOf 105 = .ok (.iload_n 2, 1) := by decide +kernel
theorem dX11_invoiceOf_106 : decode cX11_invoiceOf 106 = .ok (.iconst 3, 1) := by decide +kernel
theorem dX11_invoiceOf_107 : decode cX11_invoiceOf 107 = .ok (.if_icmp .ne 12, 3) := by decide +kernel
theorem dX11_invoiceOf_110 : decode cX11_invoiceOf 110 = .ok (.aload_n 0, 1) := by decide +kernel
theorem dX11_invoiceOf_111 : decode cX11_invoiceOf 111 = .ok (.getfield 130, 3) := by decide +kernel
theorem dX11_invoiceOf_114 : decode cX11_invoiceOf 114 = .ok (.iload_n 1, 1) := by decide +kernel
theorem dX11_invoiceOf_115 : decode cX11_invoiceOf 115 = .ok (.laload, 1) := by decide +kernel
theorem dX11_invoiceOf_116 : decode cX11_invoiceOf 116 = .ok (.goto 37, 3) := by decide +kernel
theorem dX11_invoiceOf_119 : decode cX11_invoiceOf 119 = .ok (.iload_n 2, 1) := by decide +kernel
theorem dX11_invoiceOf_120 : decode cX11_invoiceOf 120 = .ok (.iconst 4, 1) := by decide +kernel
theorem dX11_invoiceOf_121 : decode cX11_invoiceOf 121 = .ok (.if_icmp .ne 12, 3) := by decide +kernel
theorem dX11_invoiceOf_124 : decode cX11_invoiceOf 124 = .ok (.aload_n 0, 1) := by decide +kernel
theorem dX11_invoiceOf_125 : decode cX11_invoiceOf 125 = .ok (.getfield 133, 3) := by decide +kernel
theorem dX11_invoiceOf_128 : decode cX11_invoiceOf 128 = .ok (.iload_n 1, 1) := by decide +kernel
theorem dX11_invoiceOf_129 : decode cX11_invoiceOf 129 = .ok (.laload, 1) := by decide +kernel
theorem dX11_invoiceOf_130 : decode cX11_invoiceOf 130 = .ok (.goto 23, 3) := by decide +kernel
theorem dX11_invoiceOf_133 : decode cX11_invoiceOf 133 = .ok (.aload_n 0, 1) := by decide +kernel
theorem dX11_invoiceOf_134 : decode cX11_invoiceOf 134 = .ok (.getfield 124, 3) := by decide +kernel
theorem dX11_invoiceOf_137 : decode cX11_invoiceOf 137 = .ok (.iload_n 1, 1) := by decide +kernel
theorem dX11_invoiceOf_138 : decode cX11_invoiceOf 138 = .ok (.iaload, 1) := by decide +kernel
theorem dX11_invoiceOf_139 : decode cX11_invoiceOf 139 = .ok (.iconst 1, 1) := by decide +kernel
theorem dX11_invoiceOf_140 : decode cX11_invoiceOf 140 = .ok (.if_icmp .ne 12, 3) := by decide +kernel
theorem dX11_invoiceOf_143 : decode cX11_invoiceOf 143 = .ok (.aload_n 0, 1) := by decide +kernel
theorem dX11_invoiceOf_144 : decode cX11_invoiceOf 144 = .ok (.getfield 136, 3) := by decide +kernel
theorem dX11_invoiceOf_147 : decode cX11_invoiceOf 147 = .ok (.iload_n 1, 1) := by decide +kernel
theorem dX11_invoiceOf_148 : decode cX11_invoiceOf 148 = .ok (.laload, 1) := by decide +kernel
theorem dX11_invoiceOf_149 : decode cX11_invoiceOf 149 = .ok (.goto 4, 3) := by decide +kernel
theorem dX11_invoiceOf_152 : decode cX11_invoiceOf 152 = .ok (.lconst 0, 1) := by decide +kernel
theorem dX11_invoiceOf_153 : decode cX11_invoiceOf 153 = .ok (.lreturn, 1) := by decide +kernel
theorem dX11_invoiceOf_154 : decode cX11_invoiceOf 154 = .ok (.iload_n 2, 1) := by decide +kernel
theorem dX11_invoiceOf_155 : decode cX11_invoiceOf 155 = .ok (.bipush 6, 2) := by decide +kernel
theorem dX11_invoiceOf_157 : decode cX11_invoiceOf 157 = .ok (.if_icmp .ne 23, 3) := by decide +kernel
theorem dX11_invoiceOf_160 : decode cX11_invoiceOf 160 = .ok (.iload_n 3, 1) := by decide +kernel
theorem dX11_invoiceOf_161 : decode cX11_invoiceOf 161 = .ok (.ifCond .eq 9, 3) := by decide +kernel
theorem dX11_invoiceOf_164 : decode cX11_invoiceOf 164 = .ok (.ldc2_w 336, 3) := by decide +kernel
theorem dX11_invoiceOf_167 : decode cX11_invoiceOf 167 = .ok (.goto 27, 3) := by decide +kernel
theorem dX11_invoiceOf_170 : decode cX11_invoiceOf 170 = .ok (.aload_n 0, 1) := by decide +kernel
theorem dX11_invoiceOf_171 : decode cX11_invoiceOf 171 = .ok (.getfield 142, 3) := by decide +kernel
theorem dX11_invoiceOf_174 : decode cX11_invoiceOf 174 = .ok (.iload_n 1, 1) := by decide +kernel
theorem dX11_invoiceOf_175 : decode cX11_invoiceOf 175 = .ok (.iaload, 1) := by decide +kernel
theorem dX11_invoiceOf_176 : decode cX11_invoiceOf 176 = .ok (.i2l, 1) := by decide +kernel
theorem dX11_invoiceOf_177 : decode cX11_invoiceOf 177 = .ok (.goto 17, 3) := by decide +kernel
theorem dX11_invoiceOf_180 : decode cX11_invoiceOf 180 = .ok (.aload_n 0, 1) := by decide +kernel
theorem dX11_invoiceOf_181 : decode cX11_invoiceOf 181 = .ok (.getfield 151, 3) := by decide +kernel
theorem dX11_invoiceOf_184 : decode cX11_invoiceOf 184 = .ok (.iload_n 1, 1) := by decide +kernel
theorem dX11_invoiceOf_185 : decode cX11_invoiceOf 185 = .ok (.baload, 1) := by decide +kernel
theorem dX11_invoiceOf_186 : decode cX11_invoiceOf 186 = .ok (.ifCond .eq 7, 3) := by decide +kernel
theorem dX11_invoiceOf_189 : decode cX11_invoiceOf 189 = .ok (.lconst 1, 1) := by decide +kernel
theorem dX11_invoiceOf_190 : decode cX11_invoiceOf 190 = .ok (.goto 4, 3) := by decide +kernel
theorem dX11_invoiceOf_193 : decode cX11_invoiceOf 193 = .ok (.lconst 0, 1) := by decide +kernel
theorem dX11_invoiceOf_194 : decode cX11_invoiceOf 194 = .ok (.lreturn, 1) := by decide +kernel
def f_invoiceOf (p1 : Int32) (p2 : Int32) (M : MS) : Int64 × MS :=
    if P_isInvoice p1 M then
      if P_in p2 0 7 then
        if (gI M 44 p1) = 0 then
          if 3 ≤ p2 then
            if 6 ≤ p2 then
              if p2 = 6 then
                ((-1), (sI M 0 0))
              else
              if (gI M 53 p1) = 0 then
                (0, (sI M 0 0))
              else
              (1, (sI M 0 0))
            else
            if p2 = 3 then
              ((gJ M 46 p1), (sI M 0 0))
            else
            if p2 = 4 then
              ((gJ M 47 p1), (sI M 0 0))
            else
            if (gI M 44 p1) = 1 then
              ((gJ M 48 p1), (sI M 0 0))
            else
            (0, (sI M 0 0))
          else
          if p2 = 0 then
            (((gI M 44 p1).toInt64), (sI M 0 0))
          else
          if p2 = 2 then
            ((gJ M 43 p1), (sI M 0 0))
          else
          (((f_why p1 (sI M 0 0)).toInt64), (sI M 0 0))
        else
        if 3 ≤ p2 then
          if 6 ≤ p2 then
            if p2 = 6 then
              (((gI M 50 p1).toInt64), (sI M 0 0))
            else
            if (gI M 53 p1) = 0 then
              (0, (sI M 0 0))
            else
            (1, (sI M 0 0))
          else
          if p2 = 3 then
            ((gJ M 46 p1), (sI M 0 0))
          else
          if p2 = 4 then
            ((gJ M 47 p1), (sI M 0 0))
          else
          if (gI M 44 p1) = 1 then
            ((gJ M 48 p1), (sI M 0 0))
          else
          (0, (sI M 0 0))
        else
        if p2 = 0 then
          (((gI M 44 p1).toInt64), (sI M 0 0))
        else
        if p2 = 2 then
          ((gJ M 43 p1), (sI M 0 0))
        else
        (0, (sI M 0 0))
      else
      (0, (sI M 0 2))
    else
    (0, (sI M 0 1))
abbrev rm_X11_invoiceOf : Room := { frames := 2, cells := 0, slots := 0, locals := 49 }
set_option maxRecDepth 100000 in
set_option maxHeartbeats 4000000 in
theorem c_invoiceOf {l : Launch} {k : KC} {mo : Nat} {ad : Nat → Nat} (hl : l.stackTraces = false) (hM : HM mo ad) {M : MS} {p1 : Int32} {p2 : Int32} (hv : ∀ v, P_isInvoice v M → IvOK M v) (h39 : LE (mI M 39) 60) : CM l k mo ad yX11_invoiceOf (.code yX11_invoiceOf cX11_invoiceOf 4 (some .long)) rm_X11_invoiceOf [.int p1, .int p2] M (some (.long (f_invoiceOf p1 p2 M).1)) (f_invoiceOf p1 p2 M).2 := by
  refine MC.of 1 hl (by decide) (Nat.le_of_ble_eq_true rfl) ?_
  intro p e s m args below meth c A Q G B _ _
  show Wx p l e rm_X11_invoiceOf s m args below meth c k A 4 Q 0 0 0 [some (.ref mo), some (.int p1), some (.int p2), none] [] (mW k mo ad M)
  refine x_aload0 (pc := 0) G dX11_invoiceOf_0 ?_
  refine x_aload0 (pc := 1) G dX11_invoiceOf_1 ?_
  refine x_iload1 (pc := 2) G dX11_invoiceOf_2 ?_
  refine y_cb1 (pc := 3) G (b_isInvoice hl hM ) q_ml_X11_303 h_X11_isInvoice rfl ⟨Nat.le_of_ble_eq_true rfl, Nat.le_of_ble_eq_true rfl⟩ (Nat.le_of_ble_eq_true rfl) (Nat.le_refl _) (Nat.le_refl _) dX11_invoiceOf_3 (fun c1 => ?_) (fun c1 => ?_)
  · refine x_if_ne (pc := 6) (y := 0) (tgt := 13) G dX11_invoiceOf_6 rfl (fun _ => ?_) (fun q => absurd q (by decide))
    refine x_iload2 (pc := 13) G dX11_invoiceOf_13 ?_
    refine x_iconst (pc := 14) (v := 0) G dX11_invoiceOf_14 ic_0 ?_
    refine x_bipush (pc := 15) (v := 7) G dX11_invoiceOf_15 bp_7 ?_
    refine x_cSb3 (pc := 17) G (b_in hl hM _) q_ml_X11_181 h_X11_in ⟨Nat.le_of_ble_eq_true rfl, Nat.le_of_ble_eq_true rfl⟩ (Nat.le_of_ble_eq_true rfl) (Nat.le_refl _) (Nat.le_refl _) dX11_invoiceOf_17 (fun c2 => ?_) (fun c2 => ?_)
    · refine x_if_eq (pc := 20) (y := 0) (tgt := 27) G dX11_invoiceOf_20 rfl (fun q => absurd q (by decide)) (fun _ => ?_)
      refine x_iconst (pc := 23) (v := 0) G dX11_invoiceOf_23 ic_0 ?_
      refine x_goto (pc := 24) (tgt := 28) G dX11_invoiceOf_24 rfl ?_
      refine y_c1 (pc := 28) G (c_holds0 hl hM) q_ml_X11_210 h_X11_holds rfl ⟨Nat.le_of_ble_eq_true rfl, Nat.le_of_ble_eq_true rfl⟩ (Nat.le_of_ble_eq_true rfl) (Nat.le_refl _) (Nat.le_refl _) dX11_invoiceOf_28 ?_
      refine x_if_ne (pc := 31) (y := 0) (tgt := 36) G dX11_invoiceOf_31 rfl (fun _ => ?_) (fun q => absurd q (by decide))
      refine x_aload0 (pc := 36) G dX11_invoiceOf_36 ?_
      refine y_gA (pc := 37) G g_124 mG_44 dX11_invoiceOf_37 ?_
      refine x_iload1 (pc := 40) G dX11_invoiceOf_40 ?_
      refine y_iald (pc := 41) (v := (gI M 44 p1)) G hM a_44 (by exact (hv _ (by assumption)).1) gI_sI dX11_invoiceOf_41 ?_
      refine x_if_ne (pc := 42) (y := 0) (tgt := 49) G dX11_invoiceOf_42 rfl (fun c3 => ?_) (fun c3 => ?_)
      · refine x_iconst (pc := 49) (v := 0) G dX11_invoiceOf_49 ic_0 ?_
        refine x_istore3 (pc := 50) G dX11_invoiceOf_50 (Nat.le_of_ble_eq_true rfl) rfl ?_
        refine x_iload2 (pc := 51) G dX11_invoiceOf_51 ?_
        refine x_iconst (pc := 52) (v := 3) G dX11_invoiceOf_52 ic_3 ?_
        refine x_icmp_ge (pc := 53) (tgt := 99) G dX11_invoiceOf_53 rfl (fun c4 => ?_) (fun c4 => ?_)
        · refine x_iload2 (pc := 99) G dX11_invoiceOf_99 ?_
          refine x_bipush (pc := 100) (v := 6) G dX11_invoiceOf_100 bp_6 ?_
          refine x_icmp_ge (pc := 102) (tgt := 154) G dX11_invoiceOf_102 rfl (fun c5 => ?_) (fun c5 => ?_)
          · refine x_iload2 (pc := 154) G dX11_invoiceOf_154 ?_
            refine x_bipush (pc := 155) (v := 6) G dX11_invoiceOf_155 bp_6 ?_
            refine x_icmp_ne (pc := 157) (tgt := 180) G dX11_invoiceOf_157 rfl (fun c6 => ?_) (fun c6 => ?_)
            · refine x_aload0 (pc := 180) G dX11_invoiceOf_180 ?_
              refine y_gA (pc := 181) G g_151 mG_53 dX11_invoiceOf_181 ?_
              refine x_iload1 (pc := 184) G dX11_invoiceOf_184 ?_
              refine y_zald (pc := 185) (v := (gI M 53 p1)) G hM a_53 (by exact (hv _ (by assumption)).1) gI_sI dX11_invoiceOf_185 ?_
              refine x_if_eq (pc := 186) (y := 0) (tgt := 193) G dX11_invoiceOf_186 rfl (fun c7 => ?_) (fun c7 => ?_)
              · refine x_lconst (pc := 193) (v := 0) G dX11_invoiceOf_193 lc_0 ?_
                exact x_lret (pc := 194) G B rfl dX11_invoiceOf_194 ⟨by rw [f_invoiceOf, if_pos c1, if_pos c2, if_neg c3, if_pos c4, if_pos c5, if_neg c6, if_pos c7], by rw [f_invoiceOf, if_pos c1, if_pos c2, if_neg c3, if_pos c4, if_pos c5, if_neg c6, if_pos c7]⟩
              refine x_lconst (pc := 189) (v := 1) G dX11_invoiceOf_189 lc_1 ?_
              refine x_goto (pc := 190) (tgt := 194) G dX11_invoiceOf_190 rfl ?_
              exact x_lret (pc := 194) G B rfl dX11_invoiceOf_194 ⟨by rw [f_invoiceOf, if_pos c1, if_pos c2, if_neg c3, if_pos c4, if_pos c5, if_neg c6, if_neg c7], by rw [f_invoiceOf, if_pos c1, if_pos c2, if_neg c3, if_pos c4, if_pos c5, if_neg c6, if_neg c7]⟩
            refine x_iload3 (pc := 160) G dX11_invoiceOf_160 ?_
            refine x_if_eq (pc := 161) (y := 0) (tgt := 170) G dX11_invoiceOf_161 rfl (fun _ => ?_) (fun q => absurd q (by decide))
            refine x_aload0 (pc := 170) G dX11_invoiceOf_170 ?_
            refine y_gA (pc := 171) G g_142 mG_50 dX11_invoiceOf_171 ?_
            refine x_iload1 (pc := 174) G dX11_invoiceOf_174 ?_
            refine y_iald (pc := 175) (v := (gI M 50 p1)) G hM a_50 (by exact (hv _ (by assumption)).1) gI_sI dX11_invoiceOf_175 ?_
            refine x_i2l (pc := 176) G dX11_invoiceOf_176 ?_
            refine x_goto (pc := 177) (tgt := 194) G dX11_invoiceOf_177 rfl ?_
            exact x_lret (pc := 194) G B rfl dX11_invoiceOf_194 ⟨by rw [f_invoiceOf, if_pos c1, if_pos c2, if_neg c3, if_pos c4, if_pos c5, if_pos c6], by rw [f_invoiceOf, if_pos c1, if_pos c2, if_neg c3, if_pos c4, if_pos c5, if_pos c6]⟩
          refine x_iload2 (pc := 105) G dX11_invoiceOf_105 ?_
          refine x_iconst (pc := 106) (v := 3) G dX11_invoiceOf_106 ic_3 ?_
          refine x_icmp_ne (pc := 107) (tgt := 119) G dX11_invoiceOf_107 rfl (fun c8 => ?_) (fun c8 => ?_)
          · refine x_iload2 (pc := 119) G dX11_invoiceOf_119 ?_
            refine x_iconst (pc := 120) (v := 4) G dX11_invoiceOf_120 ic_4 ?_
            refine x_icmp_ne (pc := 121) (tgt := 133) G dX11_invoiceOf_121 rfl (fun c9 => ?_) (fun c9 => ?_)
            · refine x_aload0 (pc := 133) G dX11_invoiceOf_133 ?_
              refine y_gA (pc := 134) G g_124 mG_44 dX11_invoiceOf_134 ?_
              refine x_iload1 (pc := 137) G dX11_invoiceOf_137 ?_
              refine y_iald (pc := 138) (v := (gI M 44 p1)) G hM a_44 (by exact (hv _ (by assumption)).1) gI_sI dX11_invoiceOf_138 ?_
              refine x_iconst (pc := 139) (v := 1) G dX11_invoiceOf_139 ic_1 ?_
              refine x_icmp_ne (pc := 140) (tgt := 152) G dX11_invoiceOf_140 rfl (fun c10 => ?_) (fun c10 => ?_)
              · refine x_lconst (pc := 152) (v := 0) G dX11_invoiceOf_152 lc_0 ?_
                exact x_lret (pc := 153) G B rfl dX11_invoiceOf_153 ⟨by rw [f_invoiceOf, if_pos c1, if_pos c2, if_neg c3, if_pos c4, if_neg c5, if_neg c8, if_neg c9, if_neg c10], by rw [f_invoiceOf, if_pos c1, if_pos c2, if_neg c3, if_pos c4, if_neg c5, if_neg c8, if_neg c9, if_neg c10]⟩
              refine x_aload0 (pc := 143) G dX11_invoiceOf_143 ?_
              refine y_gA (pc := 144) G g_136 mG_48 dX11_invoiceOf_144 ?_
              refine x_iload1 (pc := 147) G dX11_invoiceOf_147 ?_
              refine y_lald (pc := 148) (v := (gJ M 48 p1)) G hM a_48 (by exact (hv _ (by assumption)).1) gJ_sI dX11_invoiceOf_148 ?_
              refine x_goto (pc := 149) (tgt := 153) G dX11_invoiceOf_149 rfl ?_
              exact x_lret (pc := 153) G B rfl dX11_invoiceOf_153 ⟨by rw [f_invoiceOf, if_pos c1, if_pos c2, if_neg c3, if_pos c4, if_neg c5, if_neg c8, if_neg c9, if_pos c10], by rw [f_invoiceOf, if_pos c1, if_pos c2, if_neg c3, if_pos c4, if_neg c5, if_neg c8, if_neg c9, if_pos c10]⟩
            refine x_aload0 (pc := 124) G dX11_invoiceOf_124 ?_
            refine y_gA (pc := 125) G g_133 mG_47 dX11_invoiceOf_125 ?_
            refine x_iload1 (pc := 128) G dX11_invoiceOf_128 ?_
            refine y_lald (pc := 129) (v := (gJ M 47 p1)) G hM a_47 (by exact (hv _ (by assumption)).1) gJ_sI dX11_invoiceOf_129 ?_
            refine x_goto (pc := 130) (tgt := 153) G dX11_invoiceOf_130 rfl ?_
            exact x_lret (pc := 153) G B rfl dX11_invoiceOf_153 ⟨by rw [f_invoiceOf, if_pos c1, if_pos c2, if_neg c3, if_pos c4, if_neg c5, if_neg c8, if_pos c9], by rw [f_invoiceOf, if_pos c1, if_pos c2, if_neg c3, if_pos c4, if_neg c5, if_neg c8, if_pos c9]⟩
          refine x_aload0 (pc := 110) G dX11_invoiceOf_110 ?_
          refine y_gA (pc := 111) G g_130 mG_46 dX11_invoiceOf_111 ?_
          refine x_iload1 (pc := 114) G dX11_invoiceOf_114 ?_
          refine y_lald (pc := 115) (v := (gJ M 46 p1)) G hM a_46 (by exact (hv _ (by assumption)).1) gJ_sI dX11_invoiceOf_115 ?_
          refine x_goto (pc := 116) (tgt := 153) G dX11_invoiceOf_116 rfl ?_
          exact x_lret (pc := 153) G B rfl dX11_invoiceOf_153 ⟨by rw [f_invoiceOf, if_pos c1, if_pos c2, if_neg c3, if_pos c4, if_neg c5, if_pos c8], by rw [f_invoiceOf, if_pos c1, if_pos c2, if_neg c3, if_pos c4, if_neg c5, if_pos c8]⟩
        refine x_iload2 (pc := 56) G dX11_invoiceOf_56 ?_
        refine x_if_ne (pc := 57) (y := 0) (tgt := 70) G dX11_invoiceOf_57 rfl (fun c11 => ?_) (fun c11 => ?_)
        · refine x_iload2 (pc := 70) G dX11_invoiceOf_70 ?_
          refine x_iconst (pc := 71) (v := 2) G dX11_invoiceOf_71 ic_2 ?_
          refine x_icmp_ne (pc := 72) (tgt := 84) G dX11_invoiceOf_72 rfl (fun c12 => ?_) (fun c12 => ?_)
          · refine x_iload3 (pc := 84) G dX11_invoiceOf_84 ?_
            refine x_if_eq (pc := 85) (y := 0) (tgt := 97) G dX11_invoiceOf_85 rfl (fun _ => ?_) (fun q => absurd q (by decide))
            refine x_lconst (pc := 97) (v := 0) G dX11_invoiceOf_97 lc_0 ?_
            exact x_lret (pc := 98) G B rfl dX11_invoiceOf_98 ⟨by rw [f_invoiceOf, if_pos c1, if_pos c2, if_neg c3, if_neg c4, if_neg c11, if_neg c12], by rw [f_invoiceOf, if_pos c1, if_pos c2, if_neg c3, if_neg c4, if_neg c11, if_neg c12]⟩
          refine x_aload0 (pc := 75) G dX11_invoiceOf_75 ?_
          refine y_gA (pc := 76) G g_121 mG_43 dX11_invoiceOf_76 ?_
          refine x_iload1 (pc := 79) G dX11_invoiceOf_79 ?_
          refine y_lald (pc := 80) (v := (gJ M 43 p1)) G hM a_43 (by exact (hv _ (by assumption)).1) gJ_sI dX11_invoiceOf_80 ?_
          refine x_goto (pc := 81) (tgt := 98) G dX11_invoiceOf_81 rfl ?_
          exact x_lret (pc := 98) G B rfl dX11_invoiceOf_98 ⟨by rw [f_invoiceOf, if_pos c1, if_pos c2, if_neg c3, if_neg c4, if_neg c11, if_pos c12], by rw [f_invoiceOf, if_pos c1, if_pos c2, if_neg c3, if_neg c4, if_neg c11, if_pos c12]⟩
        refine x_aload0 (pc := 60) G dX11_invoiceOf_60 ?_
        refine y_gA (pc := 61) G g_124 mG_44 dX11_invoiceOf_61 ?_
        refine x_iload1 (pc := 64) G dX11_invoiceOf_64 ?_
        refine y_iald (pc := 65) (v := (gI M 44 p1)) G hM a_44 (by exact (hv _ (by assumption)).1) gI_sI dX11_invoiceOf_65 ?_
        refine x_i2l (pc := 66) G dX11_invoiceOf_66 ?_
        refine x_goto (pc := 67) (tgt := 98) G dX11_invoiceOf_67 rfl ?_
        exact x_lret (pc := 98) G B rfl dX11_invoiceOf_98 ⟨by rw [f_invoiceOf, if_pos c1, if_pos c2, if_neg c3, if_neg c4, if_pos c11], by rw [f_invoiceOf, if_pos c1, if_pos c2, if_neg c3, if_neg c4, if_pos c11]⟩
      refine x_iconst (pc := 45) (v := 1) G dX11_invoiceOf_45 ic_1 ?_
      refine x_goto (pc := 46) (tgt := 50) G dX11_invoiceOf_46 rfl ?_
      refine x_istore3 (pc := 50) G dX11_invoiceOf_50 (Nat.le_of_ble_eq_true rfl) rfl ?_
      refine x_iload2 (pc := 51) G dX11_invoiceOf_51 ?_
      refine x_iconst (pc := 52) (v := 3) G dX11_invoiceOf_52 ic_3 ?_
      refine x_icmp_ge (pc := 53) (tgt := 99) G dX11_invoiceOf_53 rfl (fun c13 => ?_) (fun c13 => ?_)
      · refine x_iload2 (pc := 99) G dX11_invoiceOf_99 ?_
        refine x_bipush (pc := 100) (v := 6) G dX11_invoiceOf_100 bp_6 ?_
        refine x_icmp_ge (pc := 102) (tgt := 154) G dX11_invoiceOf_102 rfl (fun c14 => ?_) (fun c14 => ?_)
        · refine x_iload2 (pc := 154) G dX11_invoiceOf_154 ?_
          refine x_bipush (pc := 155) (v := 6) G dX11_invoiceOf_155 bp_6 ?_
          refine x_icmp_ne (pc := 157) (tgt := 180) G dX11_invoiceOf_157 rfl (fun c15 => ?_) (fun c15 => ?_)
          · refine x_aload0 (pc := 180) G dX11_invoiceOf_180 ?_
            refine y_gA (pc := 181) G g_151 mG_53 dX11_invoiceOf_181 ?_
            refine x_iload1 (pc := 184) G dX11_invoiceOf_184 ?_
            refine y_zald (pc := 185) (v := (gI M 53 p1)) G hM a_53 (by exact (hv _ (by assumption)).1) gI_sI dX11_invoiceOf_185 ?_
            refine x_if_eq (pc := 186) (y := 0) (tgt := 193) G dX11_invoiceOf_186 rfl (fun c16 => ?_) (fun c16 => ?_)
            · refine x_lconst (pc := 193) (v := 0) G dX11_invoiceOf_193 lc_0 ?_
              exact x_lret (pc := 194) G B rfl dX11_invoiceOf_194 ⟨by rw [f_invoiceOf, if_pos c1, if_pos c2, if_pos c3, if_pos c13, if_pos c14, if_neg c15, if_pos c16], by rw [f_invoiceOf, if_pos c1, if_pos c2, if_pos c3, if_pos c13, if_pos c14, if_neg c15, if_pos c16]⟩
            refine x_lconst (pc := 189) (v := 1) G dX11_invoiceOf_189 lc_1 ?_
            refine x_goto (pc := 190) (tgt := 194) G dX11_invoiceOf_190 rfl ?_
            exact x_lret (pc := 194) G B rfl dX11_invoiceOf_194 ⟨by rw [f_invoiceOf, if_pos c1, if_pos c2, if_pos c3, if_pos c13, if_pos c14, if_neg c15, if_neg c16], by rw [f_invoiceOf, if_pos c1, if_pos c2, if_pos c3, if_pos c13, if_pos c14, if_neg c15, if_neg c16]⟩
          refine x_iload3 (pc := 160) G dX11_invoiceOf_160 ?_
          refine x_if_eq (pc := 161) (y := 0) (tgt := 170) G dX11_invoiceOf_161 rfl (fun q => absurd q (by decide)) (fun _ => ?_)
          refine x_ldc2 (pc := 164) G q_cL_X11_336 dX11_invoiceOf_164 ?_
          refine x_goto (pc := 167) (tgt := 194) G dX11_invoiceOf_167 rfl ?_
          exact x_lret (pc := 194) G B rfl dX11_invoiceOf_194 ⟨by rw [f_invoiceOf, if_pos c1, if_pos c2, if_pos c3, if_pos c13, if_pos c14, if_pos c15], by rw [f_invoiceOf, if_pos c1, if_pos c2, if_pos c3, if_pos c13, if_pos c14, if_pos c15]⟩
        refine x_iload2 (pc := 105) G dX11_invoiceOf_105 ?_
        refine x_iconst (pc := 106) (v := 3) G dX11_invoiceOf_106 ic_3 ?_
        refine x_icmp_ne (pc := 107) (tgt := 119) G dX11_invoiceOf_107 rfl (fun c17 => ?_) (fun c17 => ?_)
        · refine x_iload2 (pc := 119) G dX11_invoiceOf_119 ?_
          refine x_iconst (pc := 120) (v := 4) G dX11_invoiceOf_120 ic_4 ?_
          refine x_icmp_ne (pc := 121) (tgt := 133) G dX11_invoiceOf_121 rfl (fun c18 => ?_) (fun c18 => ?_)
          · refine x_aload0 (pc := 133) G dX11_invoiceOf_133 ?_
            refine y_gA (pc := 134) G g_124 mG_44 dX11_invoiceOf_134 ?_
            refine x_iload1 (pc := 137) G dX11_invoiceOf_137 ?_
            refine y_iald (pc := 138) (v := (gI M 44 p1)) G hM a_44 (by exact (hv _ (by assumption)).1) gI_sI dX11_invoiceOf_138 ?_
            refine x_iconst (pc := 139) (v := 1) G dX11_invoiceOf_139 ic_1 ?_
            refine x_icmp_ne (pc := 140) (tgt := 152) G dX11_invoiceOf_140 rfl (fun c19 => ?_) (fun c19 => ?_)
            · refine x_lconst (pc := 152) (v := 0) G dX11_invoiceOf_152 lc_0 ?_
              exact x_lret (pc := 153) G B rfl dX11_invoiceOf_153 ⟨by rw [f_invoiceOf, if_pos c1, if_pos c2, if_pos c3, if_pos c13, if_neg c14, if_neg c17, if_neg c18, if_neg c19], by rw [f_invoiceOf, if_pos c1, if_pos c2, if_pos c3, if_pos c13, if_neg c14, if_neg c17, if_neg c18, if_neg c19]⟩
            refine x_aload0 (pc := 143) G dX11_invoiceOf_143 ?_
            refine y_gA (pc := 144) G g_136 mG_48 dX11_invoiceOf_144 ?_
            refine x_iload1 (pc := 147) G dX11_invoiceOf_147 ?_
            refine y_lald (pc := 148) (v := (gJ M 48 p1)) G hM a_48 (by exact (hv _ (by assumption)).1) gJ_sI dX11_invoiceOf_148 ?_
            refine x_goto (pc := 149) (tgt := 153) G dX11_invoiceOf_149 rfl ?_
            exact x_lret (pc := 153) G B rfl dX11_invoiceOf_153 ⟨by rw [f_invoiceOf, if_pos c1, if_pos c2, if_pos c3, if_pos c13, if_neg c14, if_neg c17, if_neg c18, if_pos c19], by rw [f_invoiceOf, if_pos c1, if_pos c2, if_pos c3, if_pos c13, if_neg c14, if_neg c17, if_neg c18, if_pos c19]⟩
          refine x_aload0 (pc := 124) G dX11_invoiceOf_124 ?_
          refine y_gA (pc := 125) G g_133 mG_47 dX11_invoiceOf_125 ?_
          refine x_iload1 (pc := 128) G dX11_invoiceOf_128 ?_
          refine y_lald (pc := 129) (v := (gJ M 47 p1)) G hM a_47 (by exact (hv _ (by assumption)).1) gJ_sI dX11_invoiceOf_129 ?_
          refine x_goto (pc := 130) (tgt := 153) G dX11_invoiceOf_130 rfl ?_
          exact x_lret (pc := 153) G B rfl dX11_invoiceOf_153 ⟨by rw [f_invoiceOf, if_pos c1, if_pos c2, if_pos c3, if_pos c13, if_neg c14, if_neg c17, if_pos c18], by rw [f_invoiceOf, if_pos c1, if_pos c2, if_pos c3, if_pos c13, if_neg c14, if_neg c17, if_pos c18]⟩
        refine x_aload0 (pc := 110) G dX11_invoiceOf_110 ?_
        refine y_gA (pc := 111) G g_130 mG_46 dX11_invoiceOf_111 ?_
        refine x_iload1 (pc := 114) G dX11_invoiceOf_114 ?_
        refine y_lald (pc := 115) (v := (gJ M 46 p1)) G hM a_46 (by exact (hv _ (by assumption)).1) gJ_sI dX11_invoiceOf_115 ?_
        refine x_goto (pc := 116) (tgt := 153) G dX11_invoiceOf_116 rfl ?_
        exact x_lret (pc := 153) G B rfl dX11_invoiceOf_153 ⟨by rw [f_invoiceOf, if_pos c1, if_pos c2, if_pos c3, if_pos c13, if_neg c14, if_pos c17], by rw [f_invoiceOf, if_pos c1, if_pos c2, if_pos c3, if_pos c13, if_neg c14, if_pos c17]⟩
      refine x_iload2 (pc := 56) G dX11_invoiceOf_56 ?_
      refine x_if_ne (pc := 57) (y := 0) (tgt := 70) G dX11_invoiceOf_57 rfl (fun c20 => ?_) (fun c20 => ?_)
      · refine x_iload2 (pc := 70) G dX11_invoiceOf_70 ?_
        refine x_iconst (pc := 71) (v := 2) G dX11_invoiceOf_71 ic_2 ?_
        refine x_icmp_ne (pc := 72) (tgt := 84) G dX11_invoiceOf_72 rfl (fun c21 => ?_) (fun c21 => ?_)
        · refine x_iload3 (pc := 84) G dX11_invoiceOf_84 ?_
          refine x_if_eq (pc := 85) (y := 0) (tgt := 97) G dX11_invoiceOf_85 rfl (fun q => absurd q (by decide)) (fun _ => ?_)
          refine x_aload0 (pc := 88) G dX11_invoiceOf_88 ?_
          refine x_iload1 (pc := 89) G dX11_invoiceOf_89 ?_
          refine y_c1 (pc := 90) G (c_why hl hM (hv _ (by assumption)) h39) q_ml_X11_283 h_X11_why rfl ⟨Nat.le_of_ble_eq_true rfl, Nat.le_of_ble_eq_true rfl⟩ (Nat.le_of_ble_eq_true rfl) (Nat.le_refl _) (Nat.le_refl _) dX11_invoiceOf_90 ?_
          refine x_i2l (pc := 93) G dX11_invoiceOf_93 ?_
          refine x_goto (pc := 94) (tgt := 98) G dX11_invoiceOf_94 rfl ?_
          exact x_lret (pc := 98) G B rfl dX11_invoiceOf_98 ⟨by rw [f_invoiceOf, if_pos c1, if_pos c2, if_pos c3, if_neg c13, if_neg c20, if_neg c21], by rw [f_invoiceOf, if_pos c1, if_pos c2, if_pos c3, if_neg c13, if_neg c20, if_neg c21]⟩
        refine x_aload0 (pc := 75) G dX11_invoiceOf_75 ?_
        refine y_gA (pc := 76) G g_121 mG_43 dX11_invoiceOf_76 ?_
        refine x_iload1 (pc := 79) G dX11_invoiceOf_79 ?_
        refine y_lald (pc := 80) (v := (gJ M 43 p1)) G hM a_43 (by exact (hv _ (by assumption)).1) gJ_sI dX11_invoiceOf_80 ?_
        refine x_goto (pc := 81) (tgt := 98) G dX11_invoiceOf_81 rfl ?_
        exact x_lret (pc := 98) G B rfl dX11_invoiceOf_98 ⟨by rw [f_invoiceOf, if_pos c1, if_pos c2, if_pos c3, if_neg c13, if_neg c20, if_pos c21], by rw [f_invoiceOf, if_pos c1, if_pos c2, if_pos c3, if_neg c13, if_neg c20, if_pos c21]⟩
      refine x_aload0 (pc := 60) G dX11_invoiceOf_60 ?_
      refine y_gA (pc := 61) G g_124 mG_44 dX11_invoiceOf_61 ?_
      refine x_iload1 (pc := 64) G dX11_invoiceOf_64 ?_
      refine y_iald (pc := 65) (v := (gI M 44 p1)) G hM a_44 (by exact (hv _ (by assumption)).1) gI_sI dX11_invoiceOf_65 ?_
      refine x_i2l (pc := 66) G dX11_invoiceOf_66 ?_
      refine x_goto (pc := 67) (tgt := 98) G dX11_invoiceOf_67 rfl ?_
      exact x_lret (pc := 98) G B rfl dX11_invoiceOf_98 ⟨by rw [f_invoiceOf, if_pos c1, if_pos c2, if_pos c3, if_neg c13, if_pos c20], by rw [f_invoiceOf, if_pos c1, if_pos c2, if_pos c3, if_neg c13, if_pos c20]⟩
    refine x_if_eq (pc := 20) (y := 0) (tgt := 27) G dX11_invoiceOf_20 rfl (fun _ => ?_) (fun q => absurd q (by decide))
    refine x_iconst (pc := 27) (v := 2) G dX11_invoiceOf_27 ic_2 ?_
    refine y_c1 (pc := 28) G (c_holdsN hl hM (by decide)) q_ml_X11_210 h_X11_holds rfl ⟨Nat.le_of_ble_eq_true rfl, Nat.le_of_ble_eq_true rfl⟩ (Nat.le_of_ble_eq_true rfl) (Nat.le_refl _) (Nat.le_refl _) dX11_invoiceOf_28 ?_
    refine x_if_ne (pc := 31) (y := 0) (tgt := 36) G dX11_invoiceOf_31 rfl (fun q => absurd q (by decide)) (fun _ => ?_)
    refine x_lconst (pc := 34) (v := 0) G dX11_invoiceOf_34 lc_0 ?_
    exact x_lret (pc := 35) G B rfl dX11_invoiceOf_35 ⟨by rw [f_invoiceOf, if_pos c1, if_neg c2], by rw [f_invoiceOf, if_pos c1, if_neg c2]⟩
  refine x_if_ne (pc := 6) (y := 0) (tgt := 13) G dX11_invoiceOf_6 rfl (fun q => absurd q (by decide)) (fun _ => ?_)
  refine x_iconst (pc := 9) (v := 1) G dX11_invoiceOf_9 ic_1 ?_
  refine x_goto (pc := 10) (tgt := 28) G dX11_invoiceOf_10 rfl ?_
  refine y_c1 (pc := 28) G (c_holdsN hl hM (by decide)) q_ml_X11_210 h_X11_holds rfl ⟨Nat.le_of_ble_eq_true rfl, Nat.le_of_ble_eq_true rfl⟩ (Nat.le_of_ble_eq_true rfl) (Nat.le_refl _) (Nat.le_refl _) dX11_invoiceOf_28 ?_
  refine x_if_ne (pc := 31) (y := 0) (tgt := 36) G dX11_invoiceOf_31 rfl (fun q => absurd q (by decide)) (fun _ => ?_)
  refine x_lconst (pc := 34) (v := 0) G dX11_invoiceOf_34 lc_0 ?_
  exact x_lret (pc := 35) G B rfl dX11_invoiceOf_35 ⟨by rw [f_invoiceOf, if_neg c1], by rw [f_invoiceOf, if_neg c1]⟩
theorem dX11_staff_0 : decode cX11_staff 0 = .ok (.aload_n 0, 1) := by decide +kernel
theorem dX11_staff_1 : decode cX11_staff 1 = .ok (.aload_n 0, 1) := by decide +kernel
theorem dX11_staff_2 : decode cX11_staff 2 = .ok (.iload_n 1, 1) := by decide +kernel
theorem dX11_staff_3 : decode cX11_staff 3 = .ok (.invokevirtual 206, 3) := by decide +kernel
theorem dX11_staff_6 : decode cX11_staff 6 = .ok (.ifCond .ne 7, 3) := by decide +kernel
theorem dX11_staff_9 : decode cX11_staff 9 = .ok (.iconst 1, 1) := by decide +kernel
theorem dX11_staff_10 : decode cX11_staff 10 = .ok (.goto 17, 3) := by decide +kernel
theorem dX11_staff_13 : decode cX11_staff 13 = .ok (.iload_n 2, 1) := by decide +kernel
theorem dX11_staff_14 : decode cX11_staff 14 = .ok (.iconst 0, 1) := by decide +kernel
theorem dX11_staff_15 : decode cX11_staff 15 = .ok (.iconst 1, 1) := by decide +kernel
theorem dX11_staff_16 : decode cX11_staff 16 = .ok (.invokestatic 181, 3) := by decide +kernel
theorem dX11_staff_19 : decode cX11_staff 19 = .ok (.ifCond .eq 7, 3) := by decide +kernel
theorem dX11_staff_22 : decode cX11_staff 22 = .ok (.iconst 0, 1) := by decide +kernel
theorem dX11_staff_23 : decode cX11_staff 23 = .ok (.goto 4, 3) := by decide +kernel
theorem dX11_staff_26 : decode cX11_staff 26 = .ok (.iconst 2, 1) := by decide +kernel
theorem dX11_staff_27 : decode cX11_staff 27 = .ok (.invokevirtual 210, 3) := by decide +kernel
theorem dX11_staff_30 : decode cX11_staff 30 = .ok (.ifCond .ne 5, 3) := by decide +kernel
theorem dX11_staff_33 : decode cX11_staff 33 = .ok (.lconst 0, 1) := by decide +kernel
theorem dX11_staff_34 : decode cX11_staff 34 = .ok (.lreturn, 1) := by decide +kernel
theorem dX11_staff_35 : decode cX11_staff 35 = .ok (.iload_n 2, 1) := by decide +kernel
theorem dX11_staff_36 : decode cX11_staff 36 = .ok (.ifCond .ne 12, 3) := by decide +kernel
theorem dX11_staff_39 : decode cX11_staff 39 = .ok (.aload_n 0, 1) := by decide +kernel
theorem dX11_staff_40 : decode cX11_staff 40 = .ok (.getfield 26, 3) := by decide +kernel
theorem dX11_staff_43 : decode cX11_staff 43 = .ok (.iload_n 1, 1) := by decide +kernel
theorem dX11_staff_44 : decode cX11_staff 44 = .ok (.laload, 1) := by decide +kernel
theorem dX11_staff_45 : decode cX11_staff 45 = .ok (.goto 9, 3) := by decide +kernel
theorem dX11_staff_48 : decode cX11_staff 48 = .ok (.aload_n 0, 1) := by decide +kernel
theorem dX11_staff_49 : decode cX11_staff 49 = .ok (.getfield 29, 3) := by decide +kernel
theorem dX11_staff_52 : decode cX11_staff 52 = .ok (.iload_n 1, 1) := by decide +kernel
theorem dX11_staff_53 : decode cX11_staff 53 = .ok (.laload, 1) := by decide +kernel
theorem dX11_staff_54 : decode cX11_staff 54 = .ok (.lreturn, 1) := by decide +kernel
def f_staff (p1 : Int32) (p2 : Int32) (M : MS) : Int64 × MS :=
    if P_isPerson p1 M then
      if P_in p2 0 1 then
        if p2 = 0 then
          ((gJ M 8 p1), (sI M 0 0))
        else
        ((gJ M 9 p1), (sI M 0 0))
      else
      (0, (sI M 0 2))
    else
    (0, (sI M 0 1))
abbrev rm_X11_staff : Room := { frames := 2, cells := 0, slots := 0, locals := 43 }
set_option maxRecDepth 100000 in
set_option maxHeartbeats 4000000 in
theorem c_staff {l : Launch} {k : KC} {mo : Nat} {ad : Nat → Nat} (hl : l.stackTraces = false) (hM : HM mo ad) {M : MS} {p1 : Int32} {p2 : Int32} (h3 : LE (mI M 3) 12) : CM l k mo ad yX11_staff (.code yX11_staff cX11_staff 3 (some .long)) rm_X11_staff [.int p1, .int p2] M (some (.long (f_staff p1 p2 M).1)) (f_staff p1 p2 M).2 := by
  refine MC.of 0 hl (by decide) (Nat.le_of_ble_eq_true rfl) ?_
  intro p e s m args below meth c A Q G B _ _
  show Wx p l e rm_X11_staff s m args below meth c k A 3 Q 0 0 0 [some (.ref mo), some (.int p1), some (.int p2)] [] (mW k mo ad M)
  refine x_aload0 (pc := 0) G dX11_staff_0 ?_
  refine x_aload0 (pc := 1) G dX11_staff_1 ?_
  refine x_iload1 (pc := 2) G dX11_staff_2 ?_
  refine y_cb1 (pc := 3) G (b_isPerson hl hM ) q_ml_X11_206 h_X11_isPerson rfl ⟨Nat.le_of_ble_eq_true rfl, Nat.le_of_ble_eq_true rfl⟩ (Nat.le_of_ble_eq_true rfl) (Nat.le_refl _) (Nat.le_refl _) dX11_staff_3 (fun c1 => ?_) (fun c1 => ?_)
  · refine x_if_ne (pc := 6) (y := 0) (tgt := 13) G dX11_staff_6 rfl (fun _ => ?_) (fun q => absurd q (by decide))
    refine x_iload2 (pc := 13) G dX11_staff_13 ?_
    refine x_iconst (pc := 14) (v := 0) G dX11_staff_14 ic_0 ?_
    refine x_iconst (pc := 15) (v := 1) G dX11_staff_15 ic_1 ?_
    refine x_cSb3 (pc := 16) G (b_in hl hM _) q_ml_X11_181 h_X11_in ⟨Nat.le_of_ble_eq_true rfl, Nat.le_of_ble_eq_true rfl⟩ (Nat.le_of_ble_eq_true rfl) (Nat.le_refl _) (Nat.le_refl _) dX11_staff_16 (fun c2 => ?_) (fun c2 => ?_)
    · refine x_if_eq (pc := 19) (y := 0) (tgt := 26) G dX11_staff_19 rfl (fun q => absurd q (by decide)) (fun _ => ?_)
      refine x_iconst (pc := 22) (v := 0) G dX11_staff_22 ic_0 ?_
      refine x_goto (pc := 23) (tgt := 27) G dX11_staff_23 rfl ?_
      refine y_c1 (pc := 27) G (c_holds0 hl hM) q_ml_X11_210 h_X11_holds rfl ⟨Nat.le_of_ble_eq_true rfl, Nat.le_of_ble_eq_true rfl⟩ (Nat.le_of_ble_eq_true rfl) (Nat.le_refl _) (Nat.le_refl _) dX11_staff_27 ?_
      refine x_if_ne (pc := 30) (y := 0) (tgt := 35) G dX11_staff_30 rfl (fun _ => ?_) (fun q => absurd q (by decide))
      refine x_iload2 (pc := 35) G dX11_staff_35 ?_
      refine x_if_ne (pc := 36) (y := 0) (tgt := 48) G dX11_staff_36 rfl (fun c3 => ?_) (fun c3 => ?_)
      · refine x_aload0 (pc := 48) G dX11_staff_48 ?_
        refine y_gA (pc := 49) G g_29 mG_9 dX11_staff_49 ?_
        refine x_iload1 (pc := 52) G dX11_staff_52 ?_
        refine y_lald (pc := 53) (v := (gJ M 9 p1)) G hM a_9 (vin_lt h3 (by decide) c1) gJ_sI dX11_staff_53 ?_
        exact x_lret (pc := 54) G B rfl dX11_staff_54 ⟨by rw [f_staff, if_pos c1, if_pos c2, if_neg c3], by rw [f_staff, if_pos c1, if_pos c2, if_neg c3]⟩
      refine x_aload0 (pc := 39) G dX11_staff_39 ?_
      refine y_gA (pc := 40) G g_26 mG_8 dX11_staff_40 ?_
      refine x_iload1 (pc := 43) G dX11_staff_43 ?_
      refine y_lald (pc := 44) (v := (gJ M 8 p1)) G hM a_8 (vin_lt h3 (by decide) c1) gJ_sI dX11_staff_44 ?_
      refine x_goto (pc := 45) (tgt := 54) G dX11_staff_45 rfl ?_
      exact x_lret (pc := 54) G B rfl dX11_staff_54 ⟨by rw [f_staff, if_pos c1, if_pos c2, if_pos c3], by rw [f_staff, if_pos c1, if_pos c2, if_pos c3]⟩
    refine x_if_eq (pc := 19) (y := 0) (tgt := 26) G dX11_staff_19 rfl (fun _ => ?_) (fun q => absurd q (by decide))
    refine x_iconst (pc := 26) (v := 2) G dX11_staff_26 ic_2 ?_
    refine y_c1 (pc := 27) G (c_holdsN hl hM (by decide)) q_ml_X11_210 h_X11_holds rfl ⟨Nat.le_of_ble_eq_true rfl, Nat.le_of_ble_eq_true rfl⟩ (Nat.le_of_ble_eq_true rfl) (Nat.le_refl _) (Nat.le_refl _) dX11_staff_27 ?_
    refine x_if_ne (pc := 30) (y := 0) (tgt := 35) G dX11_staff_30 rfl (fun q => absurd q (by decide)) (fun _ => ?_)
    refine x_lconst (pc := 33) (v := 0) G dX11_staff_33 lc_0 ?_
    exact x_lret (pc := 34) G B rfl dX11_staff_34 ⟨by rw [f_staff, if_pos c1, if_neg c2], by rw [f_staff, if_pos c1, if_neg c2]⟩
  refine x_if_ne (pc := 6) (y := 0) (tgt := 13) G dX11_staff_6 rfl (fun q => absurd q (by decide)) (fun _ => ?_)
  refine x_iconst (pc := 9) (v := 1) G dX11_staff_9 ic_1 ?_
  refine x_goto (pc := 10) (tgt := 27) G dX11_staff_10 rfl ?_
  refine y_c1 (pc := 27) G (c_holdsN hl hM (by decide)) q_ml_X11_210 h_X11_holds rfl ⟨Nat.le_of_ble_eq_true rfl, Nat.le_of_ble_eq_true rfl⟩ (Nat.le_of_ble_eq_true rfl) (Nat.le_refl _) (Nat.le_refl _) dX11_staff_27 ?_
  refine x_if_ne (pc := 30) (y := 0) (tgt := 35) G dX11_staff_30 rfl (fun q => absurd q (by decide)) (fun _ => ?_)
  refine x_lconst (pc := 33) (v := 0) G dX11_staff_33 lc_0 ?_
  exact x_lret (pc := 34) G B rfl dX11_staff_34 ⟨by rw [f_staff, if_neg c1], by rw [f_staff, if_neg c1]⟩
theorem dX11_tripCost_0 : decode cX11_tripCost 0 = .ok (.aload_n 0, 1) := by decide +kernel
theorem dX11_tripCost_1 : decode cX11_tripCost 1 = .ok (.iload_n 1, 1) := by decide +kernel
theorem dX11_tripCost_2 : decode cX11_tripCost 2 = .ok (.iconst 0, 1) := by decide +kernel
theorem dX11_tripCost_3 : decode cX11_tripCost 3 = .ok (.aload_n 0, 1) := by decide +kernel
theorem dX11_tripCost_4 : decode cX11_tripCost 4 = .ok (.getfield 319, 3) := by decide +kernel
theorem dX11_tripCost_7 : decode cX11_tripCost 7 = .ok (.iconst 1, 1) := by decide +kernel
theorem dX11_tripCost_8 : decode cX11_tripCost 8 = .ok (.isub, 1) := by decide +kernel
theorem dX11_tripCost_9 : decode cX11_tripCost 9 = .ok (.invokestatic 181, 3) := by decide +kernel
theorem dX11_tripCost_12 : decode cX11_tripCost 12 = .ok (.ifCond .eq 7, 3) := by decide +kernel
theorem dX11_tripCost_15 : decode cX11_tripCost 15 = .ok (.iconst 0, 1) := by decide +kernel
theorem dX11_tripCost_16 : decode cX11_tripCost 16 = .ok (.goto 4, 3) := by decide +kernel
theorem dX11_tripCost_19 : decode cX11_tripCost 19 = .ok (.iconst 1, 1) := by decide +kernel
theorem dX11_tripCost_20 : decode cX11_tripCost 20 = .ok (.invokevirtual 210, 3) := by decide +kernel
theorem dX11_tripCost_23 : decode cX11_tripCost 23 = .ok (.ifCond .eq 12, 3) := by decide +kernel
theorem dX11_tripCost_26 : decode cX11_tripCost 26 = .ok (.aload_n 0, 1) := by decide +kernel
theorem dX11_tripCost_27 : decode cX11_tripCost 27 = .ok (.getfield 163, 3) := by decide +kernel
theorem dX11_tripCost_30 : decode cX11_tripCost 30 = .ok (.iload_n 1, 1) := by decide +kernel
theorem dX11_tripCost_31 : decode cX11_tripCost 31 = .ok (.laload, 1) := by decide +kernel
theorem dX11_tripCost_32 : decode cX11_tripCost 32 = .ok (.goto 4, 3) := by decide +kernel
theorem dX11_tripCost_35 : decode cX11_tripCost 35 = .ok (.lconst 0, 1) := by decide +kernel
theorem dX11_tripCost_36 : decode cX11_tripCost 36 = .ok (.lreturn, 1) := by decide +kernel
def f_tripCost (p1 : Int32) (M : MS) : Int64 × MS :=
    if P_in p1 0 ((mI M 57) - 1) then
      ((gJ M 58 p1), (sI M 0 0))
    else
    (0, (sI M 0 1))
abbrev rm_X11_tripCost : Room := { frames := 1, cells := 0, slots := 0, locals := 22 }
set_option maxRecDepth 100000 in
set_option maxHeartbeats 4000000 in
theorem c_tripCost {l : Launch} {k : KC} {mo : Nat} {ad : Nat → Nat} (hl : l.stackTraces = false) (hM : HM mo ad) {M : MS} {p1 : Int32} (h57 : LE (mI M 57) 30) : CM l k mo ad yX11_tripCost (.code yX11_tripCost cX11_tripCost 2 (some .long)) rm_X11_tripCost [.int p1] M (some (.long (f_tripCost p1 M).1)) (f_tripCost p1 M).2 := by
  refine MC.of 0 hl (by decide) (Nat.le_of_ble_eq_true rfl) ?_
  intro p e s m args below meth c A Q G B _ _
  show Wx p l e rm_X11_tripCost s m args below meth c k A 2 Q 0 0 0 [some (.ref mo), some (.int p1)] [] (mW k mo ad M)
  refine x_aload0 (pc := 0) G dX11_tripCost_0 ?_
  refine x_iload1 (pc := 1) G dX11_tripCost_1 ?_
  refine x_iconst (pc := 2) (v := 0) G dX11_tripCost_2 ic_0 ?_
  refine x_aload0 (pc := 3) G dX11_tripCost_3 ?_
  refine y_gI (pc := 4) (v := (mI M 57)) G g_319 mG_57 rfl dX11_tripCost_4 ?_
  refine x_iconst (pc := 7) (v := 1) G dX11_tripCost_7 ic_1 ?_
  refine x_isub (pc := 8) G dX11_tripCost_8 ?_
  refine x_cSb3 (pc := 9) G (b_in hl hM _) q_ml_X11_181 h_X11_in ⟨Nat.le_of_ble_eq_true rfl, Nat.le_of_ble_eq_true rfl⟩ (Nat.le_of_ble_eq_true rfl) (Nat.le_refl _) (Nat.le_refl _) dX11_tripCost_9 (fun c1 => ?_) (fun c1 => ?_)
  · refine x_if_eq (pc := 12) (y := 0) (tgt := 19) G dX11_tripCost_12 rfl (fun q => absurd q (by decide)) (fun _ => ?_)
    refine x_iconst (pc := 15) (v := 0) G dX11_tripCost_15 ic_0 ?_
    refine x_goto (pc := 16) (tgt := 20) G dX11_tripCost_16 rfl ?_
    refine y_c1 (pc := 20) G (c_holds0 hl hM) q_ml_X11_210 h_X11_holds rfl ⟨Nat.le_of_ble_eq_true rfl, Nat.le_of_ble_eq_true rfl⟩ (Nat.le_of_ble_eq_true rfl) (Nat.le_refl _) (Nat.le_refl _) dX11_tripCost_20 ?_
    refine x_if_eq (pc := 23) (y := 0) (tgt := 35) G dX11_tripCost_23 rfl (fun q => absurd q (by decide)) (fun _ => ?_)
    refine x_aload0 (pc := 26) G dX11_tripCost_26 ?_
    refine y_gA (pc := 27) G g_163 mG_58 dX11_tripCost_27 ?_
    refine x_iload1 (pc := 30) G dX11_tripCost_30 ?_
    refine y_lald (pc := 31) (v := (gJ M 58 p1)) G hM a_58 (by exact vin_lt h57 (by decide) (by assumption)) gJ_sI dX11_tripCost_31 ?_
    refine x_goto (pc := 32) (tgt := 36) G dX11_tripCost_32 rfl ?_
    exact x_lret (pc := 36) G B rfl dX11_tripCost_36 ⟨by rw [f_tripCost, if_pos c1], by rw [f_tripCost, if_pos c1]⟩
  refine x_if_eq (pc := 12) (y := 0) (tgt := 19) G dX11_tripCost_12 rfl (fun _ => ?_) (fun q => absurd q (by decide))
  refine x_iconst (pc := 19) (v := 1) G dX11_tripCost_19 ic_1 ?_
  refine y_c1 (pc := 20) G (c_holdsN hl hM (by decide)) q_ml_X11_210 h_X11_holds rfl ⟨Nat.le_of_ble_eq_true rfl, Nat.le_of_ble_eq_true rfl⟩ (Nat.le_of_ble_eq_true rfl) (Nat.le_refl _) (Nat.le_refl _) dX11_tripCost_20 ?_
  refine x_if_eq (pc := 23) (y := 0) (tgt := 35) G dX11_tripCost_23 rfl (fun _ => ?_) (fun q => absurd q (by decide))
  refine x_lconst (pc := 35) (v := 0) G dX11_tripCost_35 lc_0 ?_
  exact x_lret (pc := 36) G B rfl dX11_tripCost_36 ⟨by rw [f_tripCost, if_neg c1], by rw [f_tripCost, if_neg c1]⟩
theorem dX11_isTold_0 : decode cX11_isTold 0 = .ok (.aload_n 0, 1) := by decide +kernel
theorem dX11_isTold_1 : decode cX11_isTold 1 = .ok (.iload_n 1, 1) := by decide +kernel
theorem dX11_isTold_2 : decode cX11_isTold 2 = .ok (.iconst 0, 1) := by decide +kernel
theorem dX11_isTold_3 : decode cX11_isTold 3 = .ok (.aload_n 0, 1) := by decide +kernel
theorem dX11_isTold_4 : decode cX11_isTold 4 = .ok (.getfield 323, 3) := by decide +kernel
theorem dX11_isTold_7 : decode cX11_isTold 7 = .ok (.iconst 1, 1) := by decide +kernel
theorem dX11_isTold_8 : decode cX11_isTold 8 = .ok (.isub, 1) := by decide +kernel
theorem dX11_isTold_9 : decode cX11_isTold 9 = .ok (.invokestatic 181, 3) := by decide +kernel
theorem dX11_isTold_12 : decode cX11_isTold 12 = .ok (.ifCond .eq 7, 3) := by decide +kernel
theorem dX11_isTold_15 : decode cX11_isTold 15 = .ok (.iconst 0, 1) := by decide +kernel
theorem dX11_isTold_16 : decode cX11_isTold 16 = .ok (.goto 4, 3) := by decide +kernel
theorem dX11_isTold_19 : decode cX11_isTold 19 = .ok (.iconst 1, 1) := by decide +kernel
theorem dX11_isTold_20 : decode cX11_isTold 20 = .ok (.invokevirtual 210, 3) := by decide +kernel
theorem dX11_isTold_23 : decode cX11_isTold 23 = .ok (.ifCond .eq 16, 3) := by decide +kernel
theorem dX11_isTold_26 : decode cX11_isTold 26 = .ok (.aload_n 0, 1) := by decide +kernel
theorem dX11_isTold_27 : decode cX11_isTold 27 = .ok (.getfield 172, 3) := by decide +kernel
theorem dX11_isTold_30 : decode cX11_isTold 30 = .ok (.iload_n 1, 1) := by decide +kernel
theorem dX11_isTold_31 : decode cX11_isTold 31 = .ok (.baload, 1) := by decide +kernel
theorem dX11_isTold_32 : decode cX11_isTold 32 = .ok (.ifCond .eq 7, 3) := by decide +kernel
theorem dX11_isTold_35 : decode cX11_isTold 35 = .ok (.iconst 1, 1) := by decide +kernel
theorem dX11_isTold_36 : decode cX11_isTold 36 = .ok (.goto 4, 3) := by decide +kernel
theorem dX11_isTold_39 : decode cX11_isTold 39 = .ok (.iconst 0, 1) := by decide +kernel
theorem dX11_isTold_40 : decode cX11_isTold 40 = .ok (.ireturn, 1) := by decide +kernel
def f_isTold (p1 : Int32) (M : MS) : Int32 × MS :=
    if P_in p1 0 ((mI M 59) - 1) then
      if (gI M 62 p1) = 0 then
        (0, (sI M 0 0))
      else
      (1, (sI M 0 0))
    else
    (0, (sI M 0 1))
abbrev rm_X11_isTold : Room := { frames := 1, cells := 0, slots := 0, locals := 22 }
set_option maxRecDepth 100000 in
set_option maxHeartbeats 4000000 in
theorem c_isTold {l : Launch} {k : KC} {mo : Nat} {ad : Nat → Nat} (hl : l.stackTraces = false) (hM : HM mo ad) {M : MS} {p1 : Int32} (h59 : LE (mI M 59) 40) : CM l k mo ad yX11_isTold (.code yX11_isTold cX11_isTold 2 (some .boolean)) rm_X11_isTold [.int p1] M (some (.int (f_isTold p1 M).1)) (f_isTold p1 M).2 := by
  refine MC.of 0 hl (by decide) (Nat.le_of_ble_eq_true rfl) ?_
  intro p e s m args below meth c A Q G B _ _
  show Wx p l e rm_X11_isTold s m args below meth c k A 2 Q 0 0 0 [some (.ref mo), some (.int p1)] [] (mW k mo ad M)
  refine x_aload0 (pc := 0) G dX11_isTold_0 ?_
  refine x_iload1 (pc := 1) G dX11_isTold_1 ?_
  refine x_iconst (pc := 2) (v := 0) G dX11_isTold_2 ic_0 ?_
  refine x_aload0 (pc := 3) G dX11_isTold_3 ?_
  refine y_gI (pc := 4) (v := (mI M 59)) G g_323 mG_59 rfl dX11_isTold_4 ?_
  refine x_iconst (pc := 7) (v := 1) G dX11_isTold_7 ic_1 ?_
  refine x_isub (pc := 8) G dX11_isTold_8 ?_
  refine x_cSb3 (pc := 9) G (b_in hl hM _) q_ml_X11_181 h_X11_in ⟨Nat.le_of_ble_eq_true rfl, Nat.le_of_ble_eq_true rfl⟩ (Nat.le_of_ble_eq_true rfl) (Nat.le_refl _) (Nat.le_refl _) dX11_isTold_9 (fun c1 => ?_) (fun c1 => ?_)
  · refine x_if_eq (pc := 12) (y := 0) (tgt := 19) G dX11_isTold_12 rfl (fun q => absurd q (by decide)) (fun _ => ?_)
    refine x_iconst (pc := 15) (v := 0) G dX11_isTold_15 ic_0 ?_
    refine x_goto (pc := 16) (tgt := 20) G dX11_isTold_16 rfl ?_
    refine y_c1 (pc := 20) G (c_holds0 hl hM) q_ml_X11_210 h_X11_holds rfl ⟨Nat.le_of_ble_eq_true rfl, Nat.le_of_ble_eq_true rfl⟩ (Nat.le_of_ble_eq_true rfl) (Nat.le_refl _) (Nat.le_refl _) dX11_isTold_20 ?_
    refine x_if_eq (pc := 23) (y := 0) (tgt := 39) G dX11_isTold_23 rfl (fun q => absurd q (by decide)) (fun _ => ?_)
    refine x_aload0 (pc := 26) G dX11_isTold_26 ?_
    refine y_gA (pc := 27) G g_172 mG_62 dX11_isTold_27 ?_
    refine x_iload1 (pc := 30) G dX11_isTold_30 ?_
    refine y_zald (pc := 31) (v := (gI M 62 p1)) G hM a_62 (by exact vin_lt h59 (by decide) (by assumption)) gI_sI dX11_isTold_31 ?_
    refine x_if_eq (pc := 32) (y := 0) (tgt := 39) G dX11_isTold_32 rfl (fun c2 => ?_) (fun c2 => ?_)
    · refine x_iconst (pc := 39) (v := 0) G dX11_isTold_39 ic_0 ?_
      exact x_zret (pc := 40) G B rfl (by decide) dX11_isTold_40 ⟨by rw [f_isTold, if_pos c1, if_pos c2], by rw [f_isTold, if_pos c1, if_pos c2]⟩
    refine x_iconst (pc := 35) (v := 1) G dX11_isTold_35 ic_1 ?_
    refine x_goto (pc := 36) (tgt := 40) G dX11_isTold_36 rfl ?_
    exact x_zret (pc := 40) G B rfl (by decide) dX11_isTold_40 ⟨by rw [f_isTold, if_pos c1, if_neg c2], by rw [f_isTold, if_pos c1, if_neg c2]⟩
  refine x_if_eq (pc := 12) (y := 0) (tgt := 19) G dX11_isTold_12 rfl (fun _ => ?_) (fun q => absurd q (by decide))
  refine x_iconst (pc := 19) (v := 1) G dX11_isTold_19 ic_1 ?_
  refine y_c1 (pc := 20) G (c_holdsN hl hM (by decide)) q_ml_X11_210 h_X11_holds rfl ⟨Nat.le_of_ble_eq_true rfl, Nat.le_of_ble_eq_true rfl⟩ (Nat.le_of_ble_eq_true rfl) (Nat.le_refl _) (Nat.le_refl _) dX11_isTold_20 ?_
  refine x_if_eq (pc := 23) (y := 0) (tgt := 39) G dX11_isTold_23 rfl (fun _ => ?_) (fun q => absurd q (by decide))
  refine x_iconst (pc := 39) (v := 0) G dX11_isTold_39 ic_0 ?_
  exact x_zret (pc := 40) G B rfl (by decide) dX11_isTold_40 ⟨by rw [f_isTold, if_neg c1], by rw [f_isTold, if_neg c1]⟩
theorem dX11_account_0 : decode cX11_account 0 = .ok (.aload_n 0, 1) := by decide +kernel
theorem dX11_account_1 : decode cX11_account 1 = .ok (.iload_n 1, 1) := by decide +kernel
theorem dX11_account_2 : decode cX11_account 2 = .ok (.iconst 0, 1) := by decide +kernel
theorem dX11_account_3 : decode cX11_account 3 = .ok (.bipush 8, 2) := by decide +kernel
theorem dX11_account_5 : decode cX11_account 5 = .ok (.invokestatic 181, 3) := by decide +kernel
theorem dX11_account_8 : decode cX11_account 8 = .ok (.ifCond .eq 7, 3) := by decide +kernel
theorem dX11_account_11 : decode cX11_account 11 = .ok (.iconst 0, 1) := by decide +kernel
theorem dX11_account_12 : decode cX11_account 12 = .ok (.goto 4, 3) := by decide +kernel
theorem dX11_account_15 : decode cX11_account 15 = .ok (.iconst 1, 1) := by decide +kernel
theorem dX11_account_16 : decode cX11_account 16 = .ok (.invokevirtual 210, 3) := by decide +kernel
theorem dX11_account_19 : decode cX11_account 19 = .ok (.ifCond .eq 12, 3) := by decide +kernel
theorem dX11_account_22 : decode cX11_account 22 = .ok (.aload_n 0, 1) := by decide +kernel
theorem dX11_account_23 : decode cX11_account 23 = .ok (.getfield 7, 3) := by decide +kernel
theorem dX11_account_26 : decode cX11_account 26 = .ok (.iload_n 1, 1) := by decide +kernel
theorem dX11_account_27 : decode cX11_account 27 = .ok (.laload, 1) := by decide +kernel
theorem dX11_account_28 : decode cX11_account 28 = .ok (.goto 4, 3) := by decide +kernel
theorem dX11_account_31 : decode cX11_account 31 = .ok (.lconst 0, 1) := by decide +kernel
theorem dX11_account_32 : decode cX11_account 32 = .ok (.lreturn, 1) := by decide +kernel
def f_account (p1 : Int32) (M : MS) : Int64 × MS :=
    if P_in p1 0 8 then
      ((gJ M 2 p1), (sI M 0 0))
    else
    (0, (sI M 0 1))
abbrev rm_X11_account : Room := { frames := 1, cells := 0, slots := 0, locals := 22 }
set_option maxRecDepth 100000 in
set_option maxHeartbeats 4000000 in
theorem c_account {l : Launch} {k : KC} {mo : Nat} {ad : Nat → Nat} (hl : l.stackTraces = false) (hM : HM mo ad) {M : MS} {p1 : Int32}  : CM l k mo ad yX11_account (.code yX11_account cX11_account 2 (some .long)) rm_X11_account [.int p1] M (some (.long (f_account p1 M).1)) (f_account p1 M).2 := by
  refine MC.of 0 hl (by decide) (Nat.le_of_ble_eq_true rfl) ?_
  intro p e s m args below meth c A Q G B _ _
  show Wx p l e rm_X11_account s m args below meth c k A 2 Q 0 0 0 [some (.ref mo), some (.int p1)] [] (mW k mo ad M)
  refine x_aload0 (pc := 0) G dX11_account_0 ?_
  refine x_iload1 (pc := 1) G dX11_account_1 ?_
  refine x_iconst (pc := 2) (v := 0) G dX11_account_2 ic_0 ?_
  refine x_bipush (pc := 3) (v := 8) G dX11_account_3 bp_8 ?_
  refine x_cSb3 (pc := 5) G (b_in hl hM _) q_ml_X11_181 h_X11_in ⟨Nat.le_of_ble_eq_true rfl, Nat.le_of_ble_eq_true rfl⟩ (Nat.le_of_ble_eq_true rfl) (Nat.le_refl _) (Nat.le_refl _) dX11_account_5 (fun c1 => ?_) (fun c1 => ?_)
  · refine x_if_eq (pc := 8) (y := 0) (tgt := 15) G dX11_account_8 rfl (fun q => absurd q (by decide)) (fun _ => ?_)
    refine x_iconst (pc := 11) (v := 0) G dX11_account_11 ic_0 ?_
    refine x_goto (pc := 12) (tgt := 16) G dX11_account_12 rfl ?_
    refine y_c1 (pc := 16) G (c_holds0 hl hM) q_ml_X11_210 h_X11_holds rfl ⟨Nat.le_of_ble_eq_true rfl, Nat.le_of_ble_eq_true rfl⟩ (Nat.le_of_ble_eq_true rfl) (Nat.le_refl _) (Nat.le_refl _) dX11_account_16 ?_
    refine x_if_eq (pc := 19) (y := 0) (tgt := 31) G dX11_account_19 rfl (fun q => absurd q (by decide)) (fun _ => ?_)
    refine x_aload0 (pc := 22) G dX11_account_22 ?_
    refine y_gA (pc := 23) G g_7 mG_2 dX11_account_23 ?_
    refine x_iload1 (pc := 26) G dX11_account_26 ?_
    refine y_lald (pc := 27) (v := (gJ M 2 p1)) G hM a_2 (by exact vin_c (c := 8) (N := 8) (by decide) (by decide) (by assumption)) gJ_sI dX11_account_27 ?_
    refine x_goto (pc := 28) (tgt := 32) G dX11_account_28 rfl ?_
    exact x_lret (pc := 32) G B rfl dX11_account_32 ⟨by rw [f_account, if_pos c1], by rw [f_account, if_pos c1]⟩
  refine x_if_eq (pc := 8) (y := 0) (tgt := 15) G dX11_account_8 rfl (fun _ => ?_) (fun q => absurd q (by decide))
  refine x_iconst (pc := 15) (v := 1) G dX11_account_15 ic_1 ?_
  refine y_c1 (pc := 16) G (c_holdsN hl hM (by decide)) q_ml_X11_210 h_X11_holds rfl ⟨Nat.le_of_ble_eq_true rfl, Nat.le_of_ble_eq_true rfl⟩ (Nat.le_of_ble_eq_true rfl) (Nat.le_refl _) (Nat.le_refl _) dX11_account_16 ?_
  refine x_if_eq (pc := 19) (y := 0) (tgt := 31) G dX11_account_19 rfl (fun _ => ?_) (fun q => absurd q (by decide))
  refine x_lconst (pc := 31) (v := 0) G dX11_account_31 lc_0 ?_
  exact x_lret (pc := 32) G B rfl dX11_account_32 ⟨by rw [f_account, if_neg c1], by rw [f_account, if_neg c1]⟩
