theorem mI_closes {M : MS} {j : Nat} : mI (f_closes M) j = mI M j := by
  have h1 : ∀ (o : Int32) (M : MS) (i : Nat), mI (it_cl1 o M i) j = mI M j := by
    intro o M i
    induction i with
    | zero => rfl
    | succ i ih =>
      show mI (cl1 o (nI i) (it_cl1 o M i)) j = _
      unfold cl1
      repeat' split
      all_goals first | exact ih | (simp only [mI_rJ]; exact ih)
  have h2 : ∀ (o : Int32) (M : MS) (i : Nat), mI (it_cl2 o M i) j = mI M j := by
    intro o M i
    induction i with
    | zero => rfl
    | succ i ih =>
      show mI (cl2 o (nI i) (it_cl2 o M i)) j = _
      unfold cl2
      repeat' split
      all_goals first | exact ih | (simp only [mI_rI]; exact ih)
  have h3 : ∀ (o : Int32) (M : MS) (i : Nat), mI (it_cl3 o M i) j = mI M j := by
    intro o M i
    induction i with
    | zero => rfl
    | succ i ih =>
      show mI (cl3 o (nI i) (it_cl3 o M i)) j = _
      unfold cl3
      repeat' split
      all_goals first | exact ih | (simp only [mI_rJ]; exact ih)
  unfold f_closes
  rw [h3, h2, h1]
theorem gI_closes {M : MS} {j : Nat} {x : Int32} (h20 : (j == 20) = false) : gI (f_closes M) j x = gI M j x := by
  have h1 : ∀ (o : Int32) (M : MS) (i : Nat), gI (it_cl1 o M i) j x = gI M j x := by
    intro o M i
    induction i with
    | zero => rfl
    | succ i ih =>
      show gI (cl1 o (nI i) (it_cl1 o M i)) j x = _
      unfold cl1
      repeat' split
      all_goals first | exact ih | (simp only [gI_rJ]; exact ih)
  have h2 : ∀ (o : Int32) (M : MS) (i : Nat), gI (it_cl2 o M i) j x = gI M j x := by
    intro o M i
    induction i with
    | zero => rfl
    | succ i ih =>
      show gI (cl2 o (nI i) (it_cl2 o M i)) j x = _
      unfold cl2
      repeat' split
      all_goals first | exact ih | (simp only [gI_rIn h20]; exact ih)
  have h3 : ∀ (o : Int32) (M : MS) (i : Nat), gI (it_cl3 o M i) j x = gI M j x := by
    intro o M i
    induction i with
    | zero => rfl
    | succ i ih =>
      show gI (cl3 o (nI i) (it_cl3 o M i)) j x = _
      unfold cl3
      repeat' split
      all_goals first | exact ih | (simp only [gI_rJ]; exact ih)
  unfold f_closes
  rw [h3, h2, h1]
theorem yr_pass {D : Nat} (hD : D ≤ 1079) (h1 : 1 ≤ D) (hz : nI D - nI D / 360 * 360 = 0) : P_isYear (nI D / 360 - 1) ∧ P_isYear (nI D / 360 - 1 + 1) := by
  rw [show (360 : Int32) = nI 360 from rfl, pk_div (by omega) (by decide) (by decide), pk_mul, pk_sub (Nat.div_mul_le_self D 360)] at hz
  rw [show (360 : Int32) = nI 360 from rfl, pk_div (by omega) (by decide) (by decide)]
  have h0 : D - D / 360 * 360 = 0 := by
    have := congrArg Int32.toNatClampNeg hz
    rwa [nI_clamp (by omega), show (0 : Int32) = nI 0 from rfl, nI_clamp (by decide)] at this
  have h9 : D / 360 = 1 ∨ D / 360 = 2 := by omega
  rcases h9 with h9 | h9 <;> rw [h9] <;> decide
theorem pass_le {d n : Nat} (hd : d ≤ 1079) (hn : n ≤ 360) (h : nI d + nI n ≤ 1079) : d + n ≤ 1079 := by
  rw [nI_add] at h
  have := lp_end (x := 1079) (n := 1079) (i := d + n) rfl
  rcases Nat.lt_or_ge 1079 (d + n) with z | z
  · exact absurd h (Int32.not_le.mpr (by
      have e1 : (1079 : Int32) = nI 1079 := rfl
      rw [e1, Int32.lt_iff_toInt_lt, nI_toInt (by omega), nI_toInt (by omega)]
      omega))
  · exact z
theorem dX11_pass_0 : decode cX11_pass 0 = .ok (.aload_n 0, 1) := by decide +kernel
theorem dX11_pass_1 : decode cX11_pass 1 = .ok (.iload_n 1, 1) := by decide +kernel
theorem dX11_pass_2 : decode cX11_pass 2 = .ok (.iconst 1, 1) := by decide +kernel
theorem dX11_pass_3 : decode cX11_pass 3 = .ok (.sipush 360, 3) := by decide +kernel
theorem dX11_pass_6 : decode cX11_pass 6 = .ok (.invokestatic 181, 3) := by decide +kernel
theorem dX11_pass_9 : decode cX11_pass 9 = .ok (.ifCond .ne 7, 3) := by decide +kernel
theorem dX11_pass_12 : decode cX11_pass 12 = .ok (.iconst 1, 1) := by decide +kernel
theorem dX11_pass_13 : decode cX11_pass 13 = .ok (.goto 20, 3) := by decide +kernel
theorem dX11_pass_16 : decode cX11_pass 16 = .ok (.aload_n 0, 1) := by decide +kernel
theorem dX11_pass_17 : decode cX11_pass 17 = .ok (.getfield 195, 3) := by decide +kernel
theorem dX11_pass_20 : decode cX11_pass 20 = .ok (.iload_n 1, 1) := by decide +kernel
theorem dX11_pass_21 : decode cX11_pass 21 = .ok (.iadd, 1) := by decide +kernel
theorem dX11_pass_22 : decode cX11_pass 22 = .ok (.sipush 1079, 3) := by decide +kernel
theorem dX11_pass_25 : decode cX11_pass 25 = .ok (.if_icmp .le 7, 3) := by decide +kernel
theorem dX11_pass_28 : decode cX11_pass 28 = .ok (.iconst 2, 1) := by decide +kernel
theorem dX11_pass_29 : decode cX11_pass 29 = .ok (.goto 4, 3) := by decide +kernel
theorem dX11_pass_32 : decode cX11_pass 32 = .ok (.iconst 0, 1) := by decide +kernel
theorem dX11_pass_33 : decode cX11_pass 33 = .ok (.invokevirtual 210, 3) := by decide +kernel
theorem dX11_pass_36 : decode cX11_pass 36 = .ok (.ifCond .ne 5, 3) := by decide +kernel
theorem dX11_pass_39 : decode cX11_pass 39 = .ok (.iconst 0, 1) := by decide +kernel
theorem dX11_pass_40 : decode cX11_pass 40 = .ok (.ireturn, 1) := by decide +kernel
theorem dX11_pass_41 : decode cX11_pass 41 = .ok (.iconst 0, 1) := by decide +kernel
theorem dX11_pass_42 : decode cX11_pass 42 = .ok (.istore_n 2, 1) := by decide +kernel
theorem dX11_pass_43 : decode cX11_pass 43 = .ok (.iload_n 2, 1) := by decide +kernel
theorem dX11_pass_44 : decode cX11_pass 44 = .ok (.iload_n 1, 1) := by decide +kernel
theorem dX11_pass_45 : decode cX11_pass 45 = .ok (.if_icmp .ge 34, 3) := by decide +kernel
theorem dX11_pass_48 : decode cX11_pass 48 = .ok (.aload_n 0, 1) := by decide +kernel
theorem dX11_pass_49 : decode cX11_pass 49 = .ok (.dup, 1) := by decide +kernel
theorem dX11_pass_50 : decode cX11_pass 50 = .ok (.getfield 195, 3) := by decide +kernel
theorem dX11_pass_53 : decode cX11_pass 53 = .ok (.iconst 1, 1) := by decide +kernel
theorem dX11_pass_54 : decode cX11_pass 54 = .ok (.iadd, 1) := by decide +kernel
theorem dX11_pass_55 : decode cX11_pass 55 = .ok (.putfield 195, 3) := by decide +kernel
theorem dX11_pass_58 : decode cX11_pass 58 = .ok (.aload_n 0, 1) := by decide +kernel
theorem dX11_pass_59 : decode cX11_pass 59 = .ok (.getfield 195, 3) := by decide +kernel
theorem dX11_pass_62 : decode cX11_pass 62 = .ok (.sipush 360, 3) := by decide +kernel
theorem dX11_pass_65 : decode cX11_pass 65 = .ok (.irem, 1) := by decide +kernel
theorem dX11_pass_66 : decode cX11_pass 66 = .ok (.ifCond .ne 7, 3) := by decide +kernel
theorem dX11_pass_69 : decode cX11_pass 69 = .ok (.aload_n 0, 1) := by decide +kernel
theorem dX11_pass_70 : decode cX11_pass 70 = .ok (.invokevirtual 236, 3) := by decide +kernel
theorem dX11_pass_73 : decode cX11_pass 73 = .ok (.iinc 2 1, 3) := by decide +kernel
theorem dX11_pass_76 : decode cX11_pass 76 = .ok (.goto (-33), 3) := by decide +kernel
theorem dX11_pass_79 : decode cX11_pass 79 = .ok (.aload_n 0, 1) := by decide +kernel
theorem dX11_pass_80 : decode cX11_pass 80 = .ok (.getfield 195, 3) := by decide +kernel
theorem dX11_pass_83 : decode cX11_pass 83 = .ok (.ireturn, 1) := by decide +kernel
def st_pass (Mi : MS) : MS :=
    if (((mI Mi 1) + 1) - ((mI Mi 1) + 1) / 360 * 360) = 0 then
      (f_closes (sI Mi 1 ((mI Mi 1) + 1)))
    else
    (sI Mi 1 ((mI Mi 1) + 1))
def it_pass (M : MS) : Nat → MS
  | 0 => M
  | i + 1 => st_pass (it_pass M i)
def f_pass (p1 : Int32) (M : MS) : Int32 × MS :=
    if P_in p1 1 360 then
      if ((mI M 1) + p1) ≤ 1079 then
        (mI (it_pass (sI M 0 0) p1.toNatClampNeg) 1, it_pass (sI M 0 0) p1.toNatClampNeg)
      else
      (0, (sI M 0 2))
    else
    (0, (sI M 0 1))
abbrev rm_X11_pass : Room := { frames := 3, cells := 0, slots := 0, locals := 72 }
set_option maxRecDepth 100000 in
set_option maxHeartbeats 4000000 in
theorem c_pass {l : Launch} {k : KC} {mo : Nat} {ad : Nat → Nat} (hl : l.stackTraces = false) (hM : HM mo ad) {M : MS} {p1 : Int32} {n d : Nat} (hn : n ≤ 40) (e14 : mI M 14 = nI n) (hr : ∀ r, r < n → P_isCentre (gI M 16 (nI r))) (h39 : LE (mI M 39) 60) (hd : d ≤ 1079) (e1 : mI M 1 = nI d) : CM l k mo ad yX11_pass (.code yX11_pass cX11_pass 3 (some .int)) rm_X11_pass [.int p1] M (some (.int (f_pass p1 M).1)) (f_pass p1 M).2 := by
  refine MC.of 1 hl (by decide) (Nat.le_of_ble_eq_true rfl) ?_
  intro p e s m args below meth c A Q G B _ _
  show Wx p l e rm_X11_pass s m args below meth c k A 3 Q 0 0 0 [some (.ref mo), some (.int p1), none] [] (mW k mo ad M)
  refine x_aload0 (pc := 0) G dX11_pass_0 ?_
  refine x_iload1 (pc := 1) G dX11_pass_1 ?_
  refine x_iconst (pc := 2) (v := 1) G dX11_pass_2 ic_1 ?_
  refine x_sipush (pc := 3) (v := 360) G dX11_pass_3 sp_360 ?_
  refine x_cSb3 (pc := 6) G (b_in hl hM _) q_ml_X11_181 h_X11_in ⟨Nat.le_of_ble_eq_true rfl, Nat.le_of_ble_eq_true rfl⟩ (Nat.le_of_ble_eq_true rfl) (Nat.le_refl _) (Nat.le_refl _) dX11_pass_6 (fun c1 => ?_) (fun c1 => ?_)
  · refine x_if_ne (pc := 9) (y := 0) (tgt := 16) G dX11_pass_9 rfl (fun _ => ?_) (fun q => absurd q (by decide))
    refine x_aload0 (pc := 16) G dX11_pass_16 ?_
    refine y_gI (pc := 17) (v := (mI M 1)) G g_195 mG_1 rfl dX11_pass_17 ?_
    refine x_iload1 (pc := 20) G dX11_pass_20 ?_
    refine x_iadd (pc := 21) G dX11_pass_21 ?_
    refine x_sipush (pc := 22) (v := 1079) G dX11_pass_22 sp_1079 ?_
    refine x_icmp_le (pc := 25) (tgt := 32) G dX11_pass_25 rfl (fun c2 => ?_) (fun c2 => ?_)
    · refine x_iconst (pc := 32) (v := 0) G dX11_pass_32 ic_0 ?_
      refine y_c1 (pc := 33) G (c_holds0 hl hM) q_ml_X11_210 h_X11_holds rfl ⟨Nat.le_of_ble_eq_true rfl, Nat.le_of_ble_eq_true rfl⟩ (Nat.le_of_ble_eq_true rfl) (Nat.le_refl _) (Nat.le_refl _) dX11_pass_33 ?_
      refine x_if_ne (pc := 36) (y := 0) (tgt := 41) G dX11_pass_36 rfl (fun _ => ?_) (fun q => absurd q (by decide))
      refine x_iconst (pc := 41) (v := 0) G dX11_pass_41 ic_0 ?_
      refine x_istore2 (pc := 42) G dX11_pass_42 (Nat.le_of_ble_eq_true rfl) rfl ?_
      obtain ⟨n1, hn1, en1⟩ := nI_of2 (M := 360) (n := 360) (by decide) (Int32.not_lt.mpr (Int32.le_trans (show (0 : Int32) ≤ 1 by decide) c1.1)) c1.2
      have hF : f_pass p1 M = (mI (it_pass (sI M 0 0) n1) 1, it_pass (sI M 0 0) n1) := by rw [f_pass, if_pos c1, if_pos c2, en1, nI_clamp (by omega)]
      have hdn : d + n1 ≤ 1079 := pass_le hd hn1 (by rw [← e1, ← en1]; exact c2)
      have loop : ∀ (f i : Nat) (Mi : MS), i ≤ n1 → n1 - i < f → it_pass (sI M 0 0) i = Mi → (mI Mi 1 = nI (d + i) ∧ mI Mi 14 = nI n ∧ mI Mi 39 = mI M 39 ∧ ∀ x, gI Mi 16 x = gI M 16 x) → Wx p l e rm_X11_pass s m args below meth c k A 3 Q 0 0 43 [some (.ref mo), some (.int p1), some (.int (nI i))] [] (mW k mo ad Mi) := by
        intro f
        induction f with
        | zero => intro i Mi _ h9 _ _; omega
        | succ f ih =>
          intro i Mi hi hf hit hI
          refine x_iload2 (pc := 43) G dX11_pass_43 ?_
          refine x_iload1 (pc := 44) G dX11_pass_44 ?_
          refine x_icmp_ge (pc := 45) (tgt := 79) G dX11_pass_45 rfl (fun c1 => ?_) (fun c1 => ?_)
          · have ei : i = n1 := lp_end en1 c1 hi (by omega)
            refine x_aload0 (pc := 79) G dX11_pass_79 ?_
            refine y_gI (pc := 80) (v := (mI Mi 1)) G g_195 mG_1 rfl dX11_pass_80 ?_
            exact x_iret (pc := 83) G B rfl dX11_pass_83 ⟨by rw [hF, ← ei, hit], by rw [hF, ← ei, hit]⟩
          have hlt := lp_lt en1 c1 hi (by omega)
          refine x_aload0 (pc := 48) G dX11_pass_48 ?_
          refine x_dup (pc := 49) G dX11_pass_49 rfl ?_
          refine y_gI (pc := 50) (v := (mI Mi 1)) G g_195 mG_1 rfl dX11_pass_50 ?_
          refine x_iconst (pc := 53) (v := 1) G dX11_pass_53 ic_1 ?_
          refine x_iadd (pc := 54) G dX11_pass_54 ?_
          refine y_pI (pc := 55) G p_195 mS_1 dX11_pass_55 ?_
          refine x_aload0 (pc := 58) G dX11_pass_58 ?_
          refine y_gI (pc := 59) (v := ((mI Mi 1) + 1)) G g_195 mG_1 mI_sIs dX11_pass_59 ?_
          refine x_sipush (pc := 62) (v := 360) G dX11_pass_62 sp_360 ?_
          refine x_irem (pc := 65) G dX11_pass_65 (by decide) ?_
          refine x_if_ne (pc := 66) (y := 0) (tgt := 73) G dX11_pass_66 rfl (fun c2 => ?_) (fun c2 => ?_)
          · refine x_iinc2 (pc := 73) (v := ((nI i) + 1)) G dX11_pass_73 (by rfl) (Nat.le_of_ble_eq_true rfl) rfl ?_
            refine x_goto (pc := 76) (tgt := 43) G dX11_pass_76 rfl ?_
            have h9 := ih (i + 1) (sI Mi 1 ((mI Mi 1) + 1)) (by omega) (by omega) (by show st_pass (it_pass (sI M 0 0) i) = _; rw [hit, st_pass, if_neg c2]) ⟨by rw [mI_sIs, hI.1, nI_1]; rfl, by rw [mI_sIn rfl]; exact hI.2.1, by rw [mI_sIn rfl]; exact hI.2.2.1, fun x => hI.2.2.2 x⟩
            rw [← nI_1 i] at h9
            exact h9
          refine x_aload0 (pc := 69) G dX11_pass_69 ?_
          refine y_cv0 (pc := 70) G (c_closes hl hM hn hI.2.1 (fun r h => by show P_isCentre (gI Mi 16 (nI r)); rw [hI.2.2.2]; exact hr r h) (h39_of hI.2.2.1 h39) (by unfold f_yearNow; rw [mI_sIs, hI.1, nI_1]; exact yr_pass (by omega) (by omega) (by rw [← nI_1, ← hI.1]; exact c2))) q_ml_X11_236 h_X11_closes rfl ⟨Nat.le_of_ble_eq_true rfl, Nat.le_of_ble_eq_true rfl⟩ (Nat.le_of_ble_eq_true rfl) (Nat.le_refl _) (Nat.le_refl _) dX11_pass_70 ?_
          refine x_iinc2 (pc := 73) (v := ((nI i) + 1)) G dX11_pass_73 (by rfl) (Nat.le_of_ble_eq_true rfl) rfl ?_
          refine x_goto (pc := 76) (tgt := 43) G dX11_pass_76 rfl ?_
          have h9 := ih (i + 1) (f_closes (sI Mi 1 ((mI Mi 1) + 1))) (by omega) (by omega) (by show st_pass (it_pass (sI M 0 0) i) = _; rw [hit, st_pass, if_pos c2]) ⟨by rw [mI_closes, mI_sIs, hI.1, nI_1]; rfl, by rw [mI_closes, mI_sIn rfl]; exact hI.2.1, by rw [mI_closes, mI_sIn rfl]; exact hI.2.2.1, fun x => by rw [gI_closes rfl]; exact hI.2.2.2 x⟩
          rw [← nI_1 i] at h9
          exact h9
      exact loop (n1 + 1) 0 (sI M 0 0) (by omega) (by omega) rfl ⟨by rw [mI_sIn rfl]; exact e1, by rw [mI_sIn rfl]; exact e14, mI_sIn rfl, fun x => rfl⟩
    refine x_iconst (pc := 28) (v := 2) G dX11_pass_28 ic_2 ?_
    refine x_goto (pc := 29) (tgt := 33) G dX11_pass_29 rfl ?_
    refine y_c1 (pc := 33) G (c_holdsN hl hM (by decide)) q_ml_X11_210 h_X11_holds rfl ⟨Nat.le_of_ble_eq_true rfl, Nat.le_of_ble_eq_true rfl⟩ (Nat.le_of_ble_eq_true rfl) (Nat.le_refl _) (Nat.le_refl _) dX11_pass_33 ?_
    refine x_if_ne (pc := 36) (y := 0) (tgt := 41) G dX11_pass_36 rfl (fun q => absurd q (by decide)) (fun _ => ?_)
    refine x_iconst (pc := 39) (v := 0) G dX11_pass_39 ic_0 ?_
    exact x_iret (pc := 40) G B rfl dX11_pass_40 ⟨by rw [f_pass, if_pos c1, if_neg c2], by rw [f_pass, if_pos c1, if_neg c2]⟩
  refine x_if_ne (pc := 9) (y := 0) (tgt := 16) G dX11_pass_9 rfl (fun q => absurd q (by decide)) (fun _ => ?_)
  refine x_iconst (pc := 12) (v := 1) G dX11_pass_12 ic_1 ?_
  refine x_goto (pc := 13) (tgt := 33) G dX11_pass_13 rfl ?_
  refine y_c1 (pc := 33) G (c_holdsN hl hM (by decide)) q_ml_X11_210 h_X11_holds rfl ⟨Nat.le_of_ble_eq_true rfl, Nat.le_of_ble_eq_true rfl⟩ (Nat.le_of_ble_eq_true rfl) (Nat.le_refl _) (Nat.le_refl _) dX11_pass_33 ?_
  refine x_if_ne (pc := 36) (y := 0) (tgt := 41) G dX11_pass_36 rfl (fun q => absurd q (by decide)) (fun _ => ?_)
  refine x_iconst (pc := 39) (v := 0) G dX11_pass_39 ic_0 ?_
  exact x_iret (pc := 40) G B rfl dX11_pass_40 ⟨by rw [f_pass, if_neg c1], by rw [f_pass, if_neg c1]⟩
