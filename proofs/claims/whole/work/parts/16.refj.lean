theorem IvOK.mono {M M' : MS} {v : Int32} (h : IvOK M v) (e : ∀ j x, (j = 15 ∨ j = 16 ∨ j = 18 ∨ j = 20 ∨ j = 21 ∨ j = 23 ∨ j = 24 ∨ j = 25 ∨ j = 26 ∨ j = 32 ∨ j = 40) → gI M' j x = gI M j x) (e19 : ∀ r, 0 < gJ M' 19 r → 0 < gJ M 19 r ∨ P_isYear (gI M 20 r)) : IvOK M' v := by
  obtain ⟨h1, h2, h3, h4, h5, h6⟩ := h
  have e40 : ∀ x, gI M' 40 x = gI M 40 x := fun x => e 40 x (by simp)
  have e21 : ∀ x, gI M' 21 x = gI M 21 x := fun x => e 21 x (by simp)
  have e32 : ∀ x, gI M' 32 x = gI M 32 x := fun x => e 32 x (by simp)
  refine ⟨h1, by rw [e40]; exact h2, by rw [e40]; exact h3, ?_, by rw [e40, e21]; exact h5, by rw [e40, e21, e32]; exact h6⟩
  rw [e40]
  obtain ⟨g1, g2, g3, g4, g5, g6, g7⟩ := h4
  refine ⟨g1, by rw [e 15 _ (by simp)]; exact g2, by rw [e 16 _ (by simp)]; exact g3, by rw [e 18 _ (by simp)]; exact g4, fun q => ?_, fun q => ?_, fun q => ?_⟩
  · rw [e 20 _ (by simp)]
    rcases e19 _ q with q | q
    · exact g5 q
    · exact q
  · rw [e 24 _ (by simp), e 25 _ (by simp)] at q
    rw [e 25 _ (by simp), e 23 _ (by simp)]
    exact g6 q
  · rw [e 26 _ (by simp)] at q ⊢
    exact g7 q
/-- all invoices' rows -/
def HV (M : MS) : Prop := ∀ v, P_isInvoice v M → IvOK M v
theorem HV.mono {M M' : MS} (h : HV M) (e39 : mI M' 39 = mI M 39) (e : ∀ j x, (j = 15 ∨ j = 16 ∨ j = 18 ∨ j = 20 ∨ j = 21 ∨ j = 23 ∨ j = 24 ∨ j = 25 ∨ j = 26 ∨ j = 32 ∨ j = 40) → gI M' j x = gI M j x) (e19 : ∀ r, 0 < gJ M' 19 r → 0 < gJ M 19 r ∨ P_isYear (gI M 20 r)) : HV M' := fun v hv => (h v (by unfold P_isInvoice at hv ⊢; rw [e39] at hv; exact hv)).mono e e19
theorem HV.rI {M : MS} {a : Nat} {i x : Int32} (h : HV M) (ha : a ≠ 15 ∧ a ≠ 16 ∧ a ≠ 18 ∧ a ≠ 20 ∧ a ≠ 21 ∧ a ≠ 23 ∧ a ≠ 24 ∧ a ≠ 25 ∧ a ≠ 26 ∧ a ≠ 32 ∧ a ≠ 40) : HV (rI M a i x) := h.mono rfl (fun j y hj => gI_rIn (by rw [beq_eq_false_iff_ne]; omega)) (fun r q => Or.inl q)
theorem HV.sI {M : MS} {a : Nat} {x : Int32} (h : HV M) (ha : a ≠ 39) : HV (sI M a x) := h.mono (mI_sIn (by rw [beq_eq_false_iff_ne]; omega)) (fun j y hj => rfl) (fun r q => Or.inl q)
theorem HV.frees {M : MS} {a : Int32} {b : Int64} (h : HV M) : HV (f_frees a b M).2 := h.mono mI_frees (fun j y hj => gI_frees) (fun r q => Or.inl (gJ_frees_pos q))
theorem HV.commits {M : MS} {a : Int32} {b : Int64} (h : HV M) (hy : P_isYear (gI M 20 a)) : HV (f_commits a b M) := h.mono mI_commits (fun j y hj => gI_commits) (fun r q => by
  by_cases e : r.toNatClampNeg = a.toNatClampNeg
  · refine Or.inr ?_
    have : gI M 20 r = gI M 20 a := by unfold gI; rw [e]
    rw [this]
    exact hy
  · refine Or.inl ?_
    unfold f_commits at q
    rwa [gJ_rJn rfl, gJ_rJc (by simpa using e)] at q)
theorem hy_of {M M' : MS} (e : mI M' 1 = mI M 1) (hy : P_isYear (f_yearNow M)) : P_isYear (f_yearNow M') := by unfold f_yearNow at hy ⊢; rw [e]; exact hy
theorem h39_of {M M' : MS} (e : mI M' 39 = mI M 39) (h : LE (mI M 39) 60) : LE (mI M' 39) 60 := by rw [e]; exact h
theorem vin_what {p : Int32} (h : P_in p 0 3) (hx : ¬ p = 3) : 0 ≤ p ∧ p ≤ 2 := by
  obtain ⟨j, hj, rfl⟩ := vin_cj (c := 3) (N := 3) (by decide) (by decide) h
  have : j ≠ 3 := fun e => hx (by rw [e]; rfl)
  exact ⟨nI_pos' (by omega), nI_le (a := j) (b := 2) (by omega) (by decide)⟩
theorem div4 {p q : Int32} (h : vp_in p 40) (hq : vp_in q 4) : (4 * p + q) / 4 = p := by
  obtain ⟨i, hi, rfl⟩ := vp_in_of h (by decide)
  obtain ⟨j, hj, rfl⟩ := vp_in_of hq (by decide)
  rw [show (4 : Int32) = nI 4 from rfl, pk_mul, nI_add, pk_div (by omega) (by decide) (by decide), show (4 * i + j) / 4 = i by omega]
theorem dX11_centre_0 : decode cX11_centre 0 = .ok (.aload_n 0, 1) := by decide +kernel
theorem dX11_centre_1 : decode cX11_centre 1 = .ok (.iload_n 1, 1) := by decide +kernel
theorem dX11_centre_2 : decode cX11_centre 2 = .ok (.invokestatic 216, 3) := by decide +kernel
theorem dX11_centre_5 : decode cX11_centre 5 = .ok (.ifCond .eq 10, 3) := by decide +kernel
theorem dX11_centre_8 : decode cX11_centre 8 = .ok (.iload_n 2, 1) := by decide +kernel
theorem dX11_centre_9 : decode cX11_centre 9 = .ok (.invokestatic 219, 3) := by decide +kernel
theorem dX11_centre_12 : decode cX11_centre 12 = .ok (.ifCond .ne 7, 3) := by decide +kernel
theorem dX11_centre_15 : decode cX11_centre 15 = .ok (.iconst 1, 1) := by decide +kernel
theorem dX11_centre_16 : decode cX11_centre 16 = .ok (.goto 17, 3) := by decide +kernel
theorem dX11_centre_19 : decode cX11_centre 19 = .ok (.iload_n 3, 1) := by decide +kernel
theorem dX11_centre_20 : decode cX11_centre 20 = .ok (.iconst 0, 1) := by decide +kernel
theorem dX11_centre_21 : decode cX11_centre 21 = .ok (.iconst 3, 1) := by decide +kernel
theorem dX11_centre_22 : decode cX11_centre 22 = .ok (.invokestatic 181, 3) := by decide +kernel
theorem dX11_centre_25 : decode cX11_centre 25 = .ok (.ifCond .eq 7, 3) := by decide +kernel
theorem dX11_centre_28 : decode cX11_centre 28 = .ok (.iconst 0, 1) := by decide +kernel
theorem dX11_centre_29 : decode cX11_centre 29 = .ok (.goto 4, 3) := by decide +kernel
theorem dX11_centre_32 : decode cX11_centre 32 = .ok (.iconst 2, 1) := by decide +kernel
theorem dX11_centre_33 : decode cX11_centre 33 = .ok (.invokevirtual 210, 3) := by decide +kernel
theorem dX11_centre_36 : decode cX11_centre 36 = .ok (.ifCond .ne 5, 3) := by decide +kernel
theorem dX11_centre_39 : decode cX11_centre 39 = .ok (.lconst 0, 1) := by decide +kernel
theorem dX11_centre_40 : decode cX11_centre 40 = .ok (.lreturn, 1) := by decide +kernel
theorem dX11_centre_41 : decode cX11_centre 41 = .ok (.iload_n 3, 1) := by decide +kernel
theorem dX11_centre_42 : decode cX11_centre 42 = .ok (.iconst 3, 1) := by decide +kernel
theorem dX11_centre_43 : decode cX11_centre 43 = .ok (.if_icmp .ne 12, 3) := by decide +kernel
theorem dX11_centre_46 : decode cX11_centre 46 = .ok (.aload_n 0, 1) := by decide +kernel
theorem dX11_centre_47 : decode cX11_centre 47 = .ok (.iload_n 1, 1) := by decide +kernel
theorem dX11_centre_48 : decode cX11_centre 48 = .ok (.iload_n 2, 1) := by decide +kernel
theorem dX11_centre_49 : decode cX11_centre 49 = .ok (.invokevirtual 202, 3) := by decide +kernel
theorem dX11_centre_52 : decode cX11_centre 52 = .ok (.goto 14, 3) := by decide +kernel
theorem dX11_centre_55 : decode cX11_centre 55 = .ok (.aload_n 0, 1) := by decide +kernel
theorem dX11_centre_56 : decode cX11_centre 56 = .ok (.getfield 32, 3) := by decide +kernel
theorem dX11_centre_59 : decode cX11_centre 59 = .ok (.iload_n 1, 1) := by decide +kernel
theorem dX11_centre_60 : decode cX11_centre 60 = .ok (.iload_n 2, 1) := by decide +kernel
theorem dX11_centre_61 : decode cX11_centre 61 = .ok (.iload_n 3, 1) := by decide +kernel
theorem dX11_centre_62 : decode cX11_centre 62 = .ok (.invokestatic 198, 3) := by decide +kernel
theorem dX11_centre_65 : decode cX11_centre 65 = .ok (.laload, 1) := by decide +kernel
theorem dX11_centre_66 : decode cX11_centre 66 = .ok (.lreturn, 1) := by decide +kernel
def f_centre (p1 : Int32) (p2 : Int32) (p3 : Int32) (M : MS) : Int64 × MS :=
    if P_isCentre p1 then
      if P_isYear p2 then
        if P_in p3 0 3 then
          if p3 = 3 then
            ((f_free p1 p2 (sI M 0 0)), (sI M 0 0))
          else
          ((gJ M 11 (f_at p1 p2 p3)), (sI M 0 0))
        else
        (0, (sI M 0 2))
      else
      (0, (sI M 0 1))
    else
    (0, (sI M 0 1))
abbrev rm_X11_centre : Room := { frames := 2, cells := 0, slots := 0, locals := 44 }
set_option maxRecDepth 100000 in
set_option maxHeartbeats 4000000 in
theorem c_centre {l : Launch} {k : KC} {mo : Nat} {ad : Nat → Nat} (hl : l.stackTraces = false) (hM : HM mo ad) {M : MS} {p1 : Int32} {p2 : Int32} {p3 : Int32}  : CM l k mo ad yX11_centre (.code yX11_centre cX11_centre 4 (some .long)) rm_X11_centre [.int p1, .int p2, .int p3] M (some (.long (f_centre p1 p2 p3 M).1)) (f_centre p1 p2 p3 M).2 := by
  refine MC.of 0 hl (by decide) (Nat.le_of_ble_eq_true rfl) ?_
  intro p e s m args below meth c A Q G B _ _
  show Wx p l e rm_X11_centre s m args below meth c k A 4 Q 0 0 0 [some (.ref mo), some (.int p1), some (.int p2), some (.int p3)] [] (mW k mo ad M)
  refine x_aload0 (pc := 0) G dX11_centre_0 ?_
  refine x_iload1 (pc := 1) G dX11_centre_1 ?_
  refine x_cSb1 (pc := 2) G (b_isCentre hl hM _) q_ml_X11_216 h_X11_isCentre ⟨Nat.le_of_ble_eq_true rfl, Nat.le_of_ble_eq_true rfl⟩ (Nat.le_of_ble_eq_true rfl) (Nat.le_refl _) (Nat.le_refl _) dX11_centre_2 (fun c1 => ?_) (fun c1 => ?_)
  · refine x_if_eq (pc := 5) (y := 0) (tgt := 15) G dX11_centre_5 rfl (fun q => absurd q (by decide)) (fun _ => ?_)
    refine x_iload2 (pc := 8) G dX11_centre_8 ?_
    refine x_cSb1 (pc := 9) G (b_isYear hl hM _) q_ml_X11_219 h_X11_isYear ⟨Nat.le_of_ble_eq_true rfl, Nat.le_of_ble_eq_true rfl⟩ (Nat.le_of_ble_eq_true rfl) (Nat.le_refl _) (Nat.le_refl _) dX11_centre_9 (fun c2 => ?_) (fun c2 => ?_)
    · refine x_if_ne (pc := 12) (y := 0) (tgt := 19) G dX11_centre_12 rfl (fun _ => ?_) (fun q => absurd q (by decide))
      refine x_iload3 (pc := 19) G dX11_centre_19 ?_
      refine x_iconst (pc := 20) (v := 0) G dX11_centre_20 ic_0 ?_
      refine x_iconst (pc := 21) (v := 3) G dX11_centre_21 ic_3 ?_
      refine x_cSb3 (pc := 22) G (b_in hl hM _) q_ml_X11_181 h_X11_in ⟨Nat.le_of_ble_eq_true rfl, Nat.le_of_ble_eq_true rfl⟩ (Nat.le_of_ble_eq_true rfl) (Nat.le_refl _) (Nat.le_refl _) dX11_centre_22 (fun c3 => ?_) (fun c3 => ?_)
      · refine x_if_eq (pc := 25) (y := 0) (tgt := 32) G dX11_centre_25 rfl (fun q => absurd q (by decide)) (fun _ => ?_)
        refine x_iconst (pc := 28) (v := 0) G dX11_centre_28 ic_0 ?_
        refine x_goto (pc := 29) (tgt := 33) G dX11_centre_29 rfl ?_
        refine y_c1 (pc := 33) G (c_holds0 hl hM) q_ml_X11_210 h_X11_holds rfl ⟨Nat.le_of_ble_eq_true rfl, Nat.le_of_ble_eq_true rfl⟩ (Nat.le_of_ble_eq_true rfl) (Nat.le_refl _) (Nat.le_refl _) dX11_centre_33 ?_
        refine x_if_ne (pc := 36) (y := 0) (tgt := 41) G dX11_centre_36 rfl (fun _ => ?_) (fun q => absurd q (by decide))
        refine x_iload3 (pc := 41) G dX11_centre_41 ?_
        refine x_iconst (pc := 42) (v := 3) G dX11_centre_42 ic_3 ?_
        refine x_icmp_ne (pc := 43) (tgt := 55) G dX11_centre_43 rfl (fun c4 => ?_) (fun c4 => ?_)
        · refine x_aload0 (pc := 55) G dX11_centre_55 ?_
          refine y_gA (pc := 56) G g_32 mG_11 dX11_centre_56 ?_
          refine x_iload1 (pc := 59) G dX11_centre_59 ?_
          refine x_iload2 (pc := 60) G dX11_centre_60 ?_
          refine x_iload3 (pc := 61) G dX11_centre_61 ?_
          refine x_cS3 (pc := 62) G (c_at hl hM _) q_ml_X11_198 h_X11_at ⟨Nat.le_of_ble_eq_true rfl, Nat.le_of_ble_eq_true rfl⟩ (Nat.le_of_ble_eq_true rfl) (Nat.le_refl _) (Nat.le_refl _) dX11_centre_62 ?_
          refine y_lald (pc := 65) (v := (gJ M 11 (f_at p1 p2 p3))) G hM a_11 (vin_at c1 c2 (vin_what c3 c4)) gJ_sI dX11_centre_65 ?_
          exact x_lret (pc := 66) G B rfl dX11_centre_66 ⟨by rw [f_centre, if_pos c1, if_pos c2, if_pos c3, if_neg c4], by rw [f_centre, if_pos c1, if_pos c2, if_pos c3, if_neg c4]⟩
        refine x_aload0 (pc := 46) G dX11_centre_46 ?_
        refine x_iload1 (pc := 47) G dX11_centre_47 ?_
        refine x_iload2 (pc := 48) G dX11_centre_48 ?_
        refine y_c2 (pc := 49) G (c_free hl hM c1 c2) q_ml_X11_202 h_X11_free rfl ⟨Nat.le_of_ble_eq_true rfl, Nat.le_of_ble_eq_true rfl⟩ (Nat.le_of_ble_eq_true rfl) (Nat.le_refl _) (Nat.le_refl _) dX11_centre_49 ?_
        refine x_goto (pc := 52) (tgt := 66) G dX11_centre_52 rfl ?_
        exact x_lret (pc := 66) G B rfl dX11_centre_66 ⟨by rw [f_centre, if_pos c1, if_pos c2, if_pos c3, if_pos c4], by rw [f_centre, if_pos c1, if_pos c2, if_pos c3, if_pos c4]⟩
      refine x_if_eq (pc := 25) (y := 0) (tgt := 32) G dX11_centre_25 rfl (fun _ => ?_) (fun q => absurd q (by decide))
      refine x_iconst (pc := 32) (v := 2) G dX11_centre_32 ic_2 ?_
      refine y_c1 (pc := 33) G (c_holdsN hl hM (by decide)) q_ml_X11_210 h_X11_holds rfl ⟨Nat.le_of_ble_eq_true rfl, Nat.le_of_ble_eq_true rfl⟩ (Nat.le_of_ble_eq_true rfl) (Nat.le_refl _) (Nat.le_refl _) dX11_centre_33 ?_
      refine x_if_ne (pc := 36) (y := 0) (tgt := 41) G dX11_centre_36 rfl (fun q => absurd q (by decide)) (fun _ => ?_)
      refine x_lconst (pc := 39) (v := 0) G dX11_centre_39 lc_0 ?_
      exact x_lret (pc := 40) G B rfl dX11_centre_40 ⟨by rw [f_centre, if_pos c1, if_pos c2, if_neg c3], by rw [f_centre, if_pos c1, if_pos c2, if_neg c3]⟩
    refine x_if_ne (pc := 12) (y := 0) (tgt := 19) G dX11_centre_12 rfl (fun q => absurd q (by decide)) (fun _ => ?_)
    refine x_iconst (pc := 15) (v := 1) G dX11_centre_15 ic_1 ?_
    refine x_goto (pc := 16) (tgt := 33) G dX11_centre_16 rfl ?_
    refine y_c1 (pc := 33) G (c_holdsN hl hM (by decide)) q_ml_X11_210 h_X11_holds rfl ⟨Nat.le_of_ble_eq_true rfl, Nat.le_of_ble_eq_true rfl⟩ (Nat.le_of_ble_eq_true rfl) (Nat.le_refl _) (Nat.le_refl _) dX11_centre_33 ?_
    refine x_if_ne (pc := 36) (y := 0) (tgt := 41) G dX11_centre_36 rfl (fun q => absurd q (by decide)) (fun _ => ?_)
    refine x_lconst (pc := 39) (v := 0) G dX11_centre_39 lc_0 ?_
    exact x_lret (pc := 40) G B rfl dX11_centre_40 ⟨by rw [f_centre, if_pos c1, if_neg c2], by rw [f_centre, if_pos c1, if_neg c2]⟩
  refine x_if_eq (pc := 5) (y := 0) (tgt := 15) G dX11_centre_5 rfl (fun _ => ?_) (fun q => absurd q (by decide))
  refine x_iconst (pc := 15) (v := 1) G dX11_centre_15 ic_1 ?_
  refine x_goto (pc := 16) (tgt := 33) G dX11_centre_16 rfl ?_
  refine y_c1 (pc := 33) G (c_holdsN hl hM (by decide)) q_ml_X11_210 h_X11_holds rfl ⟨Nat.le_of_ble_eq_true rfl, Nat.le_of_ble_eq_true rfl⟩ (Nat.le_of_ble_eq_true rfl) (Nat.le_refl _) (Nat.le_refl _) dX11_centre_33 ?_
  refine x_if_ne (pc := 36) (y := 0) (tgt := 41) G dX11_centre_36 rfl (fun q => absurd q (by decide)) (fun _ => ?_)
  refine x_lconst (pc := 39) (v := 0) G dX11_centre_39 lc_0 ?_
  exact x_lret (pc := 40) G B rfl dX11_centre_40 ⟨by rw [f_centre, if_neg c1], by rw [f_centre, if_neg c1]⟩
theorem dX11_receive_0 : decode cX11_receive 0 = .ok (.aload_n 0, 1) := by decide +kernel
theorem dX11_receive_1 : decode cX11_receive 1 = .ok (.iload_n 1, 1) := by decide +kernel
theorem dX11_receive_2 : decode cX11_receive 2 = .ok (.iload_n 2, 1) := by decide +kernel
theorem dX11_receive_3 : decode cX11_receive 3 = .ok (.invokevirtual 278, 3) := by decide +kernel
theorem dX11_receive_6 : decode cX11_receive 6 = .ok (.istore 4, 2) := by decide +kernel
theorem dX11_receive_8 : decode cX11_receive 8 = .ok (.iload 4, 2) := by decide +kernel
theorem dX11_receive_10 : decode cX11_receive 10 = .ok (.ifCond .eq 11, 3) := by decide +kernel
theorem dX11_receive_13 : decode cX11_receive 13 = .ok (.iconst 4, 1) := by decide +kernel
theorem dX11_receive_14 : decode cX11_receive 14 = .ok (.iload_n 1, 1) := by decide +kernel
theorem dX11_receive_15 : decode cX11_receive 15 = .ok (.imul, 1) := by decide +kernel
theorem dX11_receive_16 : decode cX11_receive 16 = .ok (.iload_n 2, 1) := by decide +kernel
theorem dX11_receive_17 : decode cX11_receive 17 = .ok (.iadd, 1) := by decide +kernel
theorem dX11_receive_18 : decode cX11_receive 18 = .ok (.goto 4, 3) := by decide +kernel
theorem dX11_receive_21 : decode cX11_receive 21 = .ok (.iconst 0, 1) := by decide +kernel
theorem dX11_receive_22 : decode cX11_receive 22 = .ok (.istore 5, 2) := by decide +kernel
theorem dX11_receive_24 : decode cX11_receive 24 = .ok (.aload_n 0, 1) := by decide +kernel
theorem dX11_receive_25 : decode cX11_receive 25 = .ok (.getfield 84, 3) := by decide +kernel
theorem dX11_receive_28 : decode cX11_receive 28 = .ok (.iload 5, 2) := by decide +kernel
theorem dX11_receive_30 : decode cX11_receive 30 = .ok (.iaload, 1) := by decide +kernel
theorem dX11_receive_31 : decode cX11_receive 31 = .ok (.iload_n 3, 1) := by decide +kernel
theorem dX11_receive_32 : decode cX11_receive 32 = .ok (.bipush (-99), 2) := by decide +kernel
theorem dX11_receive_34 : decode cX11_receive 34 = .ok (.bipush 99, 2) := by decide +kernel
theorem dX11_receive_36 : decode cX11_receive 36 = .ok (.invokestatic 181, 3) := by decide +kernel
theorem dX11_receive_39 : decode cX11_receive 39 = .ok (.ifCond .eq 7, 3) := by decide +kernel
theorem dX11_receive_42 : decode cX11_receive 42 = .ok (.iload_n 3, 1) := by decide +kernel
theorem dX11_receive_43 : decode cX11_receive 43 = .ok (.goto 4, 3) := by decide +kernel
theorem dX11_receive_46 : decode cX11_receive 46 = .ok (.iconst 0, 1) := by decide +kernel
theorem dX11_receive_47 : decode cX11_receive 47 = .ok (.iadd, 1) := by decide +kernel
theorem dX11_receive_48 : decode cX11_receive 48 = .ok (.istore 6, 2) := by decide +kernel
theorem dX11_receive_50 : decode cX11_receive 50 = .ok (.iload 4, 2) := by decide +kernel
theorem dX11_receive_52 : decode cX11_receive 52 = .ok (.ifCond .eq 48, 3) := by decide +kernel
theorem dX11_receive_55 : decode cX11_receive 55 = .ok (.aload_n 0, 1) := by decide +kernel
theorem dX11_receive_56 : decode cX11_receive 56 = .ok (.getfield 45, 3) := by decide +kernel
theorem dX11_receive_59 : decode cX11_receive 59 = .ok (.iload_n 1, 1) := by decide +kernel
theorem dX11_receive_60 : decode cX11_receive 60 = .ok (.iaload, 1) := by decide +kernel
theorem dX11_receive_61 : decode cX11_receive 61 = .ok (.iconst 4, 1) := by decide +kernel
theorem dX11_receive_62 : decode cX11_receive 62 = .ok (.if_icmp .ne 38, 3) := by decide +kernel
theorem dX11_receive_65 : decode cX11_receive 65 = .ok (.aload_n 0, 1) := by decide +kernel
theorem dX11_receive_66 : decode cX11_receive 66 = .ok (.getfield 75, 3) := by decide +kernel
theorem dX11_receive_69 : decode cX11_receive 69 = .ok (.iload 5, 2) := by decide +kernel
theorem dX11_receive_71 : decode cX11_receive 71 = .ok (.baload, 1) := by decide +kernel
theorem dX11_receive_72 : decode cX11_receive 72 = .ok (.ifCond .ne 28, 3) := by decide +kernel
theorem dX11_receive_75 : decode cX11_receive 75 = .ok (.iload 6, 2) := by decide +kernel
theorem dX11_receive_77 : decode cX11_receive 77 = .ok (.aload_n 0, 1) := by decide +kernel
theorem dX11_receive_78 : decode cX11_receive 78 = .ok (.iload 5, 2) := by decide +kernel
theorem dX11_receive_80 : decode cX11_receive 80 = .ok (.invokevirtual 230, 3) := by decide +kernel
theorem dX11_receive_83 : decode cX11_receive 83 = .ok (.aload_n 0, 1) := by decide +kernel
theorem dX11_receive_84 : decode cX11_receive 84 = .ok (.getfield 78, 3) := by decide +kernel
theorem dX11_receive_87 : decode cX11_receive 87 = .ok (.iload 5, 2) := by decide +kernel
theorem dX11_receive_89 : decode cX11_receive 89 = .ok (.iaload, 1) := by decide +kernel
theorem dX11_receive_90 : decode cX11_receive 90 = .ok (.invokestatic 181, 3) := by decide +kernel
theorem dX11_receive_93 : decode cX11_receive 93 = .ok (.ifCond .eq 7, 3) := by decide +kernel
theorem dX11_receive_96 : decode cX11_receive 96 = .ok (.iconst 1, 1) := by decide +kernel
theorem dX11_receive_97 : decode cX11_receive 97 = .ok (.goto 4, 3) := by decide +kernel
theorem dX11_receive_100 : decode cX11_receive 100 = .ok (.iconst 0, 1) := by decide +kernel
theorem dX11_receive_101 : decode cX11_receive 101 = .ok (.istore 7, 2) := by decide +kernel
theorem dX11_receive_103 : decode cX11_receive 103 = .ok (.aload_n 0, 1) := by decide +kernel
theorem dX11_receive_104 : decode cX11_receive 104 = .ok (.iload 4, 2) := by decide +kernel
theorem dX11_receive_106 : decode cX11_receive 106 = .ok (.ifCond .ne 7, 3) := by decide +kernel
theorem dX11_receive_109 : decode cX11_receive 109 = .ok (.iconst 1, 1) := by decide +kernel
theorem dX11_receive_110 : decode cX11_receive 110 = .ok (.goto 32, 3) := by decide +kernel
theorem dX11_receive_113 : decode cX11_receive 113 = .ok (.iload_n 3, 1) := by decide +kernel
theorem dX11_receive_114 : decode cX11_receive 114 = .ok (.bipush (-99), 2) := by decide +kernel
theorem dX11_receive_116 : decode cX11_receive 116 = .ok (.bipush 99, 2) := by decide +kernel
theorem dX11_receive_118 : decode cX11_receive 118 = .ok (.invokestatic 181, 3) := by decide +kernel
theorem dX11_receive_121 : decode cX11_receive 121 = .ok (.ifCond .eq 7, 3) := by decide +kernel
theorem dX11_receive_124 : decode cX11_receive 124 = .ok (.iload_n 3, 1) := by decide +kernel
theorem dX11_receive_125 : decode cX11_receive 125 = .ok (.ifCond .ne 7, 3) := by decide +kernel
theorem dX11_receive_128 : decode cX11_receive 128 = .ok (.iconst 2, 1) := by decide +kernel
theorem dX11_receive_129 : decode cX11_receive 129 = .ok (.goto 13, 3) := by decide +kernel
theorem dX11_receive_132 : decode cX11_receive 132 = .ok (.iload 7, 2) := by decide +kernel
theorem dX11_receive_134 : decode cX11_receive 134 = .ok (.ifCond .eq 7, 3) := by decide +kernel
theorem dX11_receive_137 : decode cX11_receive 137 = .ok (.iconst 0, 1) := by decide +kernel
theorem dX11_receive_138 : decode cX11_receive 138 = .ok (.goto 4, 3) := by decide +kernel
theorem dX11_receive_141 : decode cX11_receive 141 = .ok (.iconst 3, 1) := by decide +kernel
theorem dX11_receive_142 : decode cX11_receive 142 = .ok (.invokevirtual 210, 3) := by decide +kernel
theorem dX11_receive_145 : decode cX11_receive 145 = .ok (.ifCond .ne 5, 3) := by decide +kernel
theorem dX11_receive_148 : decode cX11_receive 148 = .ok (.iconst 0, 1) := by decide +kernel
theorem dX11_receive_149 : decode cX11_receive 149 = .ok (.ireturn, 1) := by decide +kernel
theorem dX11_receive_150 : decode cX11_receive 150 = .ok (.aload_n 0, 1) := by decide +kernel
theorem dX11_receive_151 : decode cX11_receive 151 = .ok (.getfield 84, 3) := by decide +kernel
theorem dX11_receive_154 : decode cX11_receive 154 = .ok (.iload 5, 2) := by decide +kernel
theorem dX11_receive_156 : decode cX11_receive 156 = .ok (.iload 6, 2) := by decide +kernel
theorem dX11_receive_158 : decode cX11_receive 158 = .ok (.iastore, 1) := by decide +kernel
theorem dX11_receive_159 : decode cX11_receive 159 = .ok (.iload_n 3, 1) := by decide +kernel
theorem dX11_receive_160 : decode cX11_receive 160 = .ok (.ifCond .le 12, 3) := by decide +kernel
theorem dX11_receive_163 : decode cX11_receive 163 = .ok (.aload_n 0, 1) := by decide +kernel
theorem dX11_receive_164 : decode cX11_receive 164 = .ok (.iload 5, 2) := by decide +kernel
theorem dX11_receive_166 : decode cX11_receive 166 = .ok (.invokevirtual 290, 3) := by decide +kernel
theorem dX11_receive_169 : decode cX11_receive 169 = .ok (.goto 4, 3) := by decide +kernel
theorem dX11_receive_172 : decode cX11_receive 172 = .ok (.iconst 0, 1) := by decide +kernel
theorem dX11_receive_173 : decode cX11_receive 173 = .ok (.ireturn, 1) := by decide +kernel
def f_receive (p1 : Int32) (p2 : Int32) (p3 : Int32) (M : MS) : Int32 × MS :=
    if P_isLine p1 p2 M then
      if P_in p3 (-99) 99 then
        if (gI M 17 p1) = 4 then
          if (gI M 27 ((4 * p1) + p2)) = 0 then
            if P_in ((gI M 30 ((4 * p1) + p2)) + p3) (f_bookedPieces ((4 * p1) + p2) M) (gI M 28 ((4 * p1) + p2)) then
              if P_in p3 (-99) 99 then
                if p3 = 0 then
                  (0, (sI M 0 2))
                else
                if p3 ≤ 0 then
                  (0, (rI (sI M 0 0) 30 ((4 * p1) + p2) ((gI M 30 ((4 * p1) + p2)) + p3)))
                else
                ((f_looksAgain ((4 * p1) + p2) (rI (sI M 0 0) 30 ((4 * p1) + p2) ((gI M 30 ((4 * p1) + p2)) + p3))).1, (f_looksAgain ((4 * p1) + p2) (rI (sI M 0 0) 30 ((4 * p1) + p2) ((gI M 30 ((4 * p1) + p2)) + p3))).2)
              else
              (0, (sI M 0 2))
            else
            if P_in p3 (-99) 99 then
              if p3 = 0 then
                (0, (sI M 0 2))
              else
              (0, (sI M 0 3))
            else
            (0, (sI M 0 2))
          else
          if P_in p3 (-99) 99 then
            if p3 = 0 then
              (0, (sI M 0 2))
            else
            (0, (sI M 0 3))
          else
          (0, (sI M 0 2))
        else
        if P_in p3 (-99) 99 then
          if p3 = 0 then
            (0, (sI M 0 2))
          else
          (0, (sI M 0 3))
        else
        (0, (sI M 0 2))
      else
      if (gI M 17 p1) = 4 then
        if (gI M 27 ((4 * p1) + p2)) = 0 then
          if P_in ((gI M 30 ((4 * p1) + p2)) + 0) (f_bookedPieces ((4 * p1) + p2) M) (gI M 28 ((4 * p1) + p2)) then
            if P_in p3 (-99) 99 then
              if p3 = 0 then
                (0, (sI M 0 2))
              else
              if p3 ≤ 0 then
                (0, (rI (sI M 0 0) 30 ((4 * p1) + p2) ((gI M 30 ((4 * p1) + p2)) + 0)))
              else
              ((f_looksAgain ((4 * p1) + p2) (rI (sI M 0 0) 30 ((4 * p1) + p2) ((gI M 30 ((4 * p1) + p2)) + 0))).1, (f_looksAgain ((4 * p1) + p2) (rI (sI M 0 0) 30 ((4 * p1) + p2) ((gI M 30 ((4 * p1) + p2)) + 0))).2)
            else
            (0, (sI M 0 2))
          else
          if P_in p3 (-99) 99 then
            if p3 = 0 then
              (0, (sI M 0 2))
            else
            (0, (sI M 0 3))
          else
          (0, (sI M 0 2))
        else
        if P_in p3 (-99) 99 then
          if p3 = 0 then
            (0, (sI M 0 2))
          else
          (0, (sI M 0 3))
        else
        (0, (sI M 0 2))
      else
      if P_in p3 (-99) 99 then
        if p3 = 0 then
          (0, (sI M 0 2))
        else
        (0, (sI M 0 3))
      else
      (0, (sI M 0 2))
    else
    if P_in p3 (-99) 99 then
      (0, (sI M 0 1))
    else
    (0, (sI M 0 1))
abbrev rm_X11_receive : Room := { frames := 5, cells := 0, slots := 0, locals := 125 }
set_option maxRecDepth 100000 in
set_option maxHeartbeats 4000000 in
theorem c_receive {l : Launch} {k : KC} {mo : Nat} {ad : Nat → Nat} (hl : l.stackTraces = false) (hM : HM mo ad) {M : MS} {p1 : Int32} {p2 : Int32} {p3 : Int32} (hr : ∀ r, P_isRequest r M → RqOK M r) (h39 : LE (mI M 39) 60) (hy : P_isYear (f_yearNow M)) (hv : HV M) : CM l k mo ad yX11_receive (.code yX11_receive cX11_receive 8 (some .int)) rm_X11_receive [.int p1, .int p2, .int p3] M (some (.int (f_receive p1 p2 p3 M).1)) (f_receive p1 p2 p3 M).2 := by
  refine MC.of 4 hl (by decide) (Nat.le_of_ble_eq_true rfl) ?_
  intro p e s m args below meth c A Q G B _ _
  show Wx p l e rm_X11_receive s m args below meth c k A 8 Q 0 0 0 [some (.ref mo), some (.int p1), some (.int p2), some (.int p3), none, none, none, none] [] (mW k mo ad M)
  refine x_aload0 (pc := 0) G dX11_receive_0 ?_
  refine x_iload1 (pc := 1) G dX11_receive_1 ?_
  refine x_iload2 (pc := 2) G dX11_receive_2 ?_
  refine y_cb2 (pc := 3) G (b_isLine hl hM (fun q => (hr _ q).1)) q_ml_X11_278 h_X11_isLine rfl ⟨Nat.le_of_ble_eq_true rfl, Nat.le_of_ble_eq_true rfl⟩ (Nat.le_of_ble_eq_true rfl) (Nat.le_refl _) (Nat.le_refl _) dX11_receive_3 (fun c1 => ?_) (fun c1 => ?_)
  · refine x_istore4 (pc := 6) G dX11_receive_6 (Nat.le_of_ble_eq_true rfl) rfl ?_
    refine x_iload4 (pc := 8) G dX11_receive_8 ?_
    refine x_if_eq (pc := 10) (y := 0) (tgt := 21) G dX11_receive_10 rfl (fun q => absurd q (by decide)) (fun _ => ?_)
    refine x_iconst (pc := 13) (v := 4) G dX11_receive_13 ic_4 ?_
    refine x_iload1 (pc := 14) G dX11_receive_14 ?_
    refine x_imul (pc := 15) G dX11_receive_15 ?_
    refine x_iload2 (pc := 16) G dX11_receive_16 ?_
    refine x_iadd (pc := 17) G dX11_receive_17 ?_
    refine x_goto (pc := 18) (tgt := 22) G dX11_receive_18 rfl ?_
    refine x_istore5 (pc := 22) G dX11_receive_22 (Nat.le_of_ble_eq_true rfl) rfl ?_
    refine x_aload0 (pc := 24) G dX11_receive_24 ?_
    refine y_gA (pc := 25) G g_84 mG_30 dX11_receive_25 ?_
    refine x_iload5 (pc := 28) G dX11_receive_28 ?_
    refine y_iald (pc := 30) (v := (gI M 30 ((4 * p1) + p2))) G hM a_30 (vin_linep (hr _ (And.left c1)).1 (hr _ (And.left c1)).2.2.2.1 (And.right c1)) rfl dX11_receive_30 ?_
    refine x_iload3 (pc := 31) G dX11_receive_31 ?_
    refine x_bipush (pc := 32) (v := (-99)) G dX11_receive_32 bp_m99 ?_
    refine x_bipush (pc := 34) (v := 99) G dX11_receive_34 bp_99 ?_
    refine x_cSb3 (pc := 36) G (b_in hl hM _) q_ml_X11_181 h_X11_in ⟨Nat.le_of_ble_eq_true rfl, Nat.le_of_ble_eq_true rfl⟩ (Nat.le_of_ble_eq_true rfl) (Nat.le_refl _) (Nat.le_refl _) dX11_receive_36 (fun c2 => ?_) (fun c2 => ?_)
    · refine x_if_eq (pc := 39) (y := 0) (tgt := 46) G dX11_receive_39 rfl (fun q => absurd q (by decide)) (fun _ => ?_)
      refine x_iload3 (pc := 42) G dX11_receive_42 ?_
      refine x_goto (pc := 43) (tgt := 47) G dX11_receive_43 rfl ?_
      refine x_iadd (pc := 47) G dX11_receive_47 ?_
      refine x_istore6 (pc := 48) G dX11_receive_48 (Nat.le_of_ble_eq_true rfl) rfl ?_
      refine x_iload4 (pc := 50) G dX11_receive_50 ?_
      refine x_if_eq (pc := 52) (y := 0) (tgt := 100) G dX11_receive_52 rfl (fun q => absurd q (by decide)) (fun _ => ?_)
      refine x_aload0 (pc := 55) G dX11_receive_55 ?_
      refine y_gA (pc := 56) G g_45 mG_17 dX11_receive_56 ?_
      refine x_iload1 (pc := 59) G dX11_receive_59 ?_
      refine y_iald (pc := 60) (v := (gI M 17 p1)) G hM a_17 ((hr _ (And.left c1)).1) rfl dX11_receive_60 ?_
      refine x_iconst (pc := 61) (v := 4) G dX11_receive_61 ic_4 ?_
      refine x_icmp_ne (pc := 62) (tgt := 100) G dX11_receive_62 rfl (fun c3 => ?_) (fun c3 => ?_)
      · refine x_iconst (pc := 100) (v := 0) G dX11_receive_100 ic_0 ?_
        refine x_istore7 (pc := 101) G dX11_receive_101 (Nat.le_of_ble_eq_true rfl) rfl ?_
        refine x_aload0 (pc := 103) G dX11_receive_103 ?_
        refine x_iload4 (pc := 104) G dX11_receive_104 ?_
        refine x_if_ne (pc := 106) (y := 0) (tgt := 113) G dX11_receive_106 rfl (fun _ => ?_) (fun q => absurd q (by decide))
        refine x_iload3 (pc := 113) G dX11_receive_113 ?_
        refine x_bipush (pc := 114) (v := (-99)) G dX11_receive_114 bp_m99 ?_
        refine x_bipush (pc := 116) (v := 99) G dX11_receive_116 bp_99 ?_
        refine x_cSb3 (pc := 118) G (b_in hl hM _) q_ml_X11_181 h_X11_in ⟨Nat.le_of_ble_eq_true rfl, Nat.le_of_ble_eq_true rfl⟩ (Nat.le_of_ble_eq_true rfl) (Nat.le_refl _) (Nat.le_refl _) dX11_receive_118 (fun c4 => ?_) (fun c4 => ?_)
        · refine x_if_eq (pc := 121) (y := 0) (tgt := 128) G dX11_receive_121 rfl (fun q => absurd q (by decide)) (fun _ => ?_)
          refine x_iload3 (pc := 124) G dX11_receive_124 ?_
          refine x_if_ne (pc := 125) (y := 0) (tgt := 132) G dX11_receive_125 rfl (fun c5 => ?_) (fun c5 => ?_)
          · refine x_iload7 (pc := 132) G dX11_receive_132 ?_
            refine x_if_eq (pc := 134) (y := 0) (tgt := 141) G dX11_receive_134 rfl (fun _ => ?_) (fun q => absurd q (by decide))
            refine x_iconst (pc := 141) (v := 3) G dX11_receive_141 ic_3 ?_
            refine y_c1 (pc := 142) G (c_holdsN hl hM (by decide)) q_ml_X11_210 h_X11_holds rfl ⟨Nat.le_of_ble_eq_true rfl, Nat.le_of_ble_eq_true rfl⟩ (Nat.le_of_ble_eq_true rfl) (Nat.le_refl _) (Nat.le_refl _) dX11_receive_142 ?_
            refine x_if_ne (pc := 145) (y := 0) (tgt := 150) G dX11_receive_145 rfl (fun q => absurd q (by decide)) (fun _ => ?_)
            refine x_iconst (pc := 148) (v := 0) G dX11_receive_148 ic_0 ?_
            exact x_iret (pc := 149) G B rfl dX11_receive_149 ⟨by rw [f_receive, if_pos c1, if_pos c2, if_neg c3, if_pos c4, if_neg c5], by rw [f_receive, if_pos c1, if_pos c2, if_neg c3, if_pos c4, if_neg c5]⟩
          refine x_iconst (pc := 128) (v := 2) G dX11_receive_128 ic_2 ?_
          refine x_goto (pc := 129) (tgt := 142) G dX11_receive_129 rfl ?_
          refine y_c1 (pc := 142) G (c_holdsN hl hM (by decide)) q_ml_X11_210 h_X11_holds rfl ⟨Nat.le_of_ble_eq_true rfl, Nat.le_of_ble_eq_true rfl⟩ (Nat.le_of_ble_eq_true rfl) (Nat.le_refl _) (Nat.le_refl _) dX11_receive_142 ?_
          refine x_if_ne (pc := 145) (y := 0) (tgt := 150) G dX11_receive_145 rfl (fun q => absurd q (by decide)) (fun _ => ?_)
          refine x_iconst (pc := 148) (v := 0) G dX11_receive_148 ic_0 ?_
          exact x_iret (pc := 149) G B rfl dX11_receive_149 ⟨by rw [f_receive, if_pos c1, if_pos c2, if_neg c3, if_pos c4, if_pos c5], by rw [f_receive, if_pos c1, if_pos c2, if_neg c3, if_pos c4, if_pos c5]⟩
        refine x_if_eq (pc := 121) (y := 0) (tgt := 128) G dX11_receive_121 rfl (fun _ => ?_) (fun q => absurd q (by decide))
        refine x_iconst (pc := 128) (v := 2) G dX11_receive_128 ic_2 ?_
        refine x_goto (pc := 129) (tgt := 142) G dX11_receive_129 rfl ?_
        refine y_c1 (pc := 142) G (c_holdsN hl hM (by decide)) q_ml_X11_210 h_X11_holds rfl ⟨Nat.le_of_ble_eq_true rfl, Nat.le_of_ble_eq_true rfl⟩ (Nat.le_of_ble_eq_true rfl) (Nat.le_refl _) (Nat.le_refl _) dX11_receive_142 ?_
        refine x_if_ne (pc := 145) (y := 0) (tgt := 150) G dX11_receive_145 rfl (fun q => absurd q (by decide)) (fun _ => ?_)
        refine x_iconst (pc := 148) (v := 0) G dX11_receive_148 ic_0 ?_
        exact x_iret (pc := 149) G B rfl dX11_receive_149 ⟨by rw [f_receive, if_pos c1, if_pos c2, if_neg c3, if_neg c4], by rw [f_receive, if_pos c1, if_pos c2, if_neg c3, if_neg c4]⟩
      refine x_aload0 (pc := 65) G dX11_receive_65 ?_
      refine y_gA (pc := 66) G g_75 mG_27 dX11_receive_66 ?_
      refine x_iload5 (pc := 69) G dX11_receive_69 ?_
      refine y_zald (pc := 71) (v := (gI M 27 ((4 * p1) + p2))) G hM a_27 (vin_linep (hr _ (And.left c1)).1 (hr _ (And.left c1)).2.2.2.1 (And.right c1)) rfl dX11_receive_71 ?_
      refine x_if_ne (pc := 72) (y := 0) (tgt := 100) G dX11_receive_72 rfl (fun c6 => ?_) (fun c6 => ?_)
      · refine x_iconst (pc := 100) (v := 0) G dX11_receive_100 ic_0 ?_
        refine x_istore7 (pc := 101) G dX11_receive_101 (Nat.le_of_ble_eq_true rfl) rfl ?_
        refine x_aload0 (pc := 103) G dX11_receive_103 ?_
        refine x_iload4 (pc := 104) G dX11_receive_104 ?_
        refine x_if_ne (pc := 106) (y := 0) (tgt := 113) G dX11_receive_106 rfl (fun _ => ?_) (fun q => absurd q (by decide))
        refine x_iload3 (pc := 113) G dX11_receive_113 ?_
        refine x_bipush (pc := 114) (v := (-99)) G dX11_receive_114 bp_m99 ?_
        refine x_bipush (pc := 116) (v := 99) G dX11_receive_116 bp_99 ?_
        refine x_cSb3 (pc := 118) G (b_in hl hM _) q_ml_X11_181 h_X11_in ⟨Nat.le_of_ble_eq_true rfl, Nat.le_of_ble_eq_true rfl⟩ (Nat.le_of_ble_eq_true rfl) (Nat.le_refl _) (Nat.le_refl _) dX11_receive_118 (fun c7 => ?_) (fun c7 => ?_)
        · refine x_if_eq (pc := 121) (y := 0) (tgt := 128) G dX11_receive_121 rfl (fun q => absurd q (by decide)) (fun _ => ?_)
          refine x_iload3 (pc := 124) G dX11_receive_124 ?_
          refine x_if_ne (pc := 125) (y := 0) (tgt := 132) G dX11_receive_125 rfl (fun c8 => ?_) (fun c8 => ?_)
          · refine x_iload7 (pc := 132) G dX11_receive_132 ?_
            refine x_if_eq (pc := 134) (y := 0) (tgt := 141) G dX11_receive_134 rfl (fun _ => ?_) (fun q => absurd q (by decide))
            refine x_iconst (pc := 141) (v := 3) G dX11_receive_141 ic_3 ?_
            refine y_c1 (pc := 142) G (c_holdsN hl hM (by decide)) q_ml_X11_210 h_X11_holds rfl ⟨Nat.le_of_ble_eq_true rfl, Nat.le_of_ble_eq_true rfl⟩ (Nat.le_of_ble_eq_true rfl) (Nat.le_refl _) (Nat.le_refl _) dX11_receive_142 ?_
            refine x_if_ne (pc := 145) (y := 0) (tgt := 150) G dX11_receive_145 rfl (fun q => absurd q (by decide)) (fun _ => ?_)
            refine x_iconst (pc := 148) (v := 0) G dX11_receive_148 ic_0 ?_
            exact x_iret (pc := 149) G B rfl dX11_receive_149 ⟨by rw [f_receive, if_pos c1, if_pos c2, if_pos c3, if_neg c6, if_pos c7, if_neg c8], by rw [f_receive, if_pos c1, if_pos c2, if_pos c3, if_neg c6, if_pos c7, if_neg c8]⟩
          refine x_iconst (pc := 128) (v := 2) G dX11_receive_128 ic_2 ?_
          refine x_goto (pc := 129) (tgt := 142) G dX11_receive_129 rfl ?_
          refine y_c1 (pc := 142) G (c_holdsN hl hM (by decide)) q_ml_X11_210 h_X11_holds rfl ⟨Nat.le_of_ble_eq_true rfl, Nat.le_of_ble_eq_true rfl⟩ (Nat.le_of_ble_eq_true rfl) (Nat.le_refl _) (Nat.le_refl _) dX11_receive_142 ?_
          refine x_if_ne (pc := 145) (y := 0) (tgt := 150) G dX11_receive_145 rfl (fun q => absurd q (by decide)) (fun _ => ?_)
          refine x_iconst (pc := 148) (v := 0) G dX11_receive_148 ic_0 ?_
          exact x_iret (pc := 149) G B rfl dX11_receive_149 ⟨by rw [f_receive, if_pos c1, if_pos c2, if_pos c3, if_neg c6, if_pos c7, if_pos c8], by rw [f_receive, if_pos c1, if_pos c2, if_pos c3, if_neg c6, if_pos c7, if_pos c8]⟩
        refine x_if_eq (pc := 121) (y := 0) (tgt := 128) G dX11_receive_121 rfl (fun _ => ?_) (fun q => absurd q (by decide))
        refine x_iconst (pc := 128) (v := 2) G dX11_receive_128 ic_2 ?_
        refine x_goto (pc := 129) (tgt := 142) G dX11_receive_129 rfl ?_
        refine y_c1 (pc := 142) G (c_holdsN hl hM (by decide)) q_ml_X11_210 h_X11_holds rfl ⟨Nat.le_of_ble_eq_true rfl, Nat.le_of_ble_eq_true rfl⟩ (Nat.le_of_ble_eq_true rfl) (Nat.le_refl _) (Nat.le_refl _) dX11_receive_142 ?_
        refine x_if_ne (pc := 145) (y := 0) (tgt := 150) G dX11_receive_145 rfl (fun q => absurd q (by decide)) (fun _ => ?_)
        refine x_iconst (pc := 148) (v := 0) G dX11_receive_148 ic_0 ?_
        exact x_iret (pc := 149) G B rfl dX11_receive_149 ⟨by rw [f_receive, if_pos c1, if_pos c2, if_pos c3, if_neg c6, if_neg c7], by rw [f_receive, if_pos c1, if_pos c2, if_pos c3, if_neg c6, if_neg c7]⟩
      refine x_iload6 (pc := 75) G dX11_receive_75 ?_
      refine x_aload0 (pc := 77) G dX11_receive_77 ?_
      refine x_iload5 (pc := 78) G dX11_receive_78 ?_
      refine y_c1 (pc := 80) G (c_bookedPieces hl hM h39) q_ml_X11_230 h_X11_bookedPieces rfl ⟨Nat.le_of_ble_eq_true rfl, Nat.le_of_ble_eq_true rfl⟩ (Nat.le_of_ble_eq_true rfl) (Nat.le_refl _) (Nat.le_refl _) dX11_receive_80 ?_
      refine x_aload0 (pc := 83) G dX11_receive_83 ?_
      refine y_gA (pc := 84) G g_78 mG_28 dX11_receive_84 ?_
      refine x_iload5 (pc := 87) G dX11_receive_87 ?_
      refine y_iald (pc := 89) (v := (gI M 28 ((4 * p1) + p2))) G hM a_28 (vin_linep (hr _ (And.left c1)).1 (hr _ (And.left c1)).2.2.2.1 (And.right c1)) rfl dX11_receive_89 ?_
      refine x_cSb3 (pc := 90) G (b_in hl hM _) q_ml_X11_181 h_X11_in ⟨Nat.le_of_ble_eq_true rfl, Nat.le_of_ble_eq_true rfl⟩ (Nat.le_of_ble_eq_true rfl) (Nat.le_refl _) (Nat.le_refl _) dX11_receive_90 (fun c9 => ?_) (fun c9 => ?_)
      · refine x_if_eq (pc := 93) (y := 0) (tgt := 100) G dX11_receive_93 rfl (fun q => absurd q (by decide)) (fun _ => ?_)
        refine x_iconst (pc := 96) (v := 1) G dX11_receive_96 ic_1 ?_
        refine x_goto (pc := 97) (tgt := 101) G dX11_receive_97 rfl ?_
        refine x_istore7 (pc := 101) G dX11_receive_101 (Nat.le_of_ble_eq_true rfl) rfl ?_
        refine x_aload0 (pc := 103) G dX11_receive_103 ?_
        refine x_iload4 (pc := 104) G dX11_receive_104 ?_
        refine x_if_ne (pc := 106) (y := 0) (tgt := 113) G dX11_receive_106 rfl (fun _ => ?_) (fun q => absurd q (by decide))
        refine x_iload3 (pc := 113) G dX11_receive_113 ?_
        refine x_bipush (pc := 114) (v := (-99)) G dX11_receive_114 bp_m99 ?_
        refine x_bipush (pc := 116) (v := 99) G dX11_receive_116 bp_99 ?_
        refine x_cSb3 (pc := 118) G (b_in hl hM _) q_ml_X11_181 h_X11_in ⟨Nat.le_of_ble_eq_true rfl, Nat.le_of_ble_eq_true rfl⟩ (Nat.le_of_ble_eq_true rfl) (Nat.le_refl _) (Nat.le_refl _) dX11_receive_118 (fun c10 => ?_) (fun c10 => ?_)
        · refine x_if_eq (pc := 121) (y := 0) (tgt := 128) G dX11_receive_121 rfl (fun q => absurd q (by decide)) (fun _ => ?_)
          refine x_iload3 (pc := 124) G dX11_receive_124 ?_
          refine x_if_ne (pc := 125) (y := 0) (tgt := 132) G dX11_receive_125 rfl (fun c11 => ?_) (fun c11 => ?_)
          · refine x_iload7 (pc := 132) G dX11_receive_132 ?_
            refine x_if_eq (pc := 134) (y := 0) (tgt := 141) G dX11_receive_134 rfl (fun q => absurd q (by decide)) (fun _ => ?_)
            refine x_iconst (pc := 137) (v := 0) G dX11_receive_137 ic_0 ?_
            refine x_goto (pc := 138) (tgt := 142) G dX11_receive_138 rfl ?_
            refine y_c1 (pc := 142) G (c_holds0 hl hM) q_ml_X11_210 h_X11_holds rfl ⟨Nat.le_of_ble_eq_true rfl, Nat.le_of_ble_eq_true rfl⟩ (Nat.le_of_ble_eq_true rfl) (Nat.le_refl _) (Nat.le_refl _) dX11_receive_142 ?_
            refine x_if_ne (pc := 145) (y := 0) (tgt := 150) G dX11_receive_145 rfl (fun _ => ?_) (fun q => absurd q (by decide))
            refine x_aload0 (pc := 150) G dX11_receive_150 ?_
            refine y_gA (pc := 151) G g_84 mG_30 dX11_receive_151 ?_
            refine x_iload5 (pc := 154) G dX11_receive_154 ?_
            refine x_iload6 (pc := 156) G dX11_receive_156 ?_
            refine y_iast (pc := 158) G hM a_30 (vin_linep (hr _ (And.left c1)).1 (hr _ (And.left c1)).2.2.2.1 (And.right c1)) dX11_receive_158 ?_
            refine x_iload3 (pc := 159) G dX11_receive_159 ?_
            refine x_if_le (pc := 160) (y := 0) (tgt := 172) G dX11_receive_160 rfl (fun c12 => ?_) (fun c12 => ?_)
            · refine x_iconst (pc := 172) (v := 0) G dX11_receive_172 ic_0 ?_
              exact x_iret (pc := 173) G B rfl dX11_receive_173 ⟨by rw [f_receive, if_pos c1, if_pos c2, if_pos c3, if_pos c6, if_pos c9, if_pos c10, if_neg c11, if_pos c12], by rw [f_receive, if_pos c1, if_pos c2, if_pos c3, if_pos c6, if_pos c9, if_pos c10, if_neg c11, if_pos c12]⟩
            refine x_aload0 (pc := 163) G dX11_receive_163 ?_
            refine x_iload5 (pc := 164) G dX11_receive_164 ?_
            refine y_c1 (pc := 166) G (c_looksAgain hl hM (h39_of rfl h39) (hy_of rfl hy) ((hv.sI (a := 0) (by decide)).rI (a := 30) (by decide))) q_ml_X11_290 h_X11_looksAgain rfl ⟨Nat.le_of_ble_eq_true rfl, Nat.le_of_ble_eq_true rfl⟩ (Nat.le_of_ble_eq_true rfl) (Nat.le_refl _) (Nat.le_refl _) dX11_receive_166 ?_
            refine x_goto (pc := 169) (tgt := 173) G dX11_receive_169 rfl ?_
            exact x_iret (pc := 173) G B rfl dX11_receive_173 ⟨by rw [f_receive, if_pos c1, if_pos c2, if_pos c3, if_pos c6, if_pos c9, if_pos c10, if_neg c11, if_neg c12], by rw [f_receive, if_pos c1, if_pos c2, if_pos c3, if_pos c6, if_pos c9, if_pos c10, if_neg c11, if_neg c12]⟩
          refine x_iconst (pc := 128) (v := 2) G dX11_receive_128 ic_2 ?_
          refine x_goto (pc := 129) (tgt := 142) G dX11_receive_129 rfl ?_
          refine y_c1 (pc := 142) G (c_holdsN hl hM (by decide)) q_ml_X11_210 h_X11_holds rfl ⟨Nat.le_of_ble_eq_true rfl, Nat.le_of_ble_eq_true rfl⟩ (Nat.le_of_ble_eq_true rfl) (Nat.le_refl _) (Nat.le_refl _) dX11_receive_142 ?_
          refine x_if_ne (pc := 145) (y := 0) (tgt := 150) G dX11_receive_145 rfl (fun q => absurd q (by decide)) (fun _ => ?_)
          refine x_iconst (pc := 148) (v := 0) G dX11_receive_148 ic_0 ?_
          exact x_iret (pc := 149) G B rfl dX11_receive_149 ⟨by rw [f_receive, if_pos c1, if_pos c2, if_pos c3, if_pos c6, if_pos c9, if_pos c10, if_pos c11], by rw [f_receive, if_pos c1, if_pos c2, if_pos c3, if_pos c6, if_pos c9, if_pos c10, if_pos c11]⟩
        refine x_if_eq (pc := 121) (y := 0) (tgt := 128) G dX11_receive_121 rfl (fun _ => ?_) (fun q => absurd q (by decide))
        refine x_iconst (pc := 128) (v := 2) G dX11_receive_128 ic_2 ?_
        refine x_goto (pc := 129) (tgt := 142) G dX11_receive_129 rfl ?_
        refine y_c1 (pc := 142) G (c_holdsN hl hM (by decide)) q_ml_X11_210 h_X11_holds rfl ⟨Nat.le_of_ble_eq_true rfl, Nat.le_of_ble_eq_true rfl⟩ (Nat.le_of_ble_eq_true rfl) (Nat.le_refl _) (Nat.le_refl _) dX11_receive_142 ?_
        refine x_if_ne (pc := 145) (y := 0) (tgt := 150) G dX11_receive_145 rfl (fun q => absurd q (by decide)) (fun _ => ?_)
        refine x_iconst (pc := 148) (v := 0) G dX11_receive_148 ic_0 ?_
        exact x_iret (pc := 149) G B rfl dX11_receive_149 ⟨by rw [f_receive, if_pos c1, if_pos c2, if_pos c3, if_pos c6, if_pos c9, if_neg c10], by rw [f_receive, if_pos c1, if_pos c2, if_pos c3, if_pos c6, if_pos c9, if_neg c10]⟩
      refine x_if_eq (pc := 93) (y := 0) (tgt := 100) G dX11_receive_93 rfl (fun _ => ?_) (fun q => absurd q (by decide))
      refine x_iconst (pc := 100) (v := 0) G dX11_receive_100 ic_0 ?_
      refine x_istore7 (pc := 101) G dX11_receive_101 (Nat.le_of_ble_eq_true rfl) rfl ?_
      refine x_aload0 (pc := 103) G dX11_receive_103 ?_
      refine x_iload4 (pc := 104) G dX11_receive_104 ?_
      refine x_if_ne (pc := 106) (y := 0) (tgt := 113) G dX11_receive_106 rfl (fun _ => ?_) (fun q => absurd q (by decide))
      refine x_iload3 (pc := 113) G dX11_receive_113 ?_
      refine x_bipush (pc := 114) (v := (-99)) G dX11_receive_114 bp_m99 ?_
      refine x_bipush (pc := 116) (v := 99) G dX11_receive_116 bp_99 ?_
      refine x_cSb3 (pc := 118) G (b_in hl hM _) q_ml_X11_181 h_X11_in ⟨Nat.le_of_ble_eq_true rfl, Nat.le_of_ble_eq_true rfl⟩ (Nat.le_of_ble_eq_true rfl) (Nat.le_refl _) (Nat.le_refl _) dX11_receive_118 (fun c13 => ?_) (fun c13 => ?_)
      · refine x_if_eq (pc := 121) (y := 0) (tgt := 128) G dX11_receive_121 rfl (fun q => absurd q (by decide)) (fun _ => ?_)
        refine x_iload3 (pc := 124) G dX11_receive_124 ?_
        refine x_if_ne (pc := 125) (y := 0) (tgt := 132) G dX11_receive_125 rfl (fun c14 => ?_) (fun c14 => ?_)
        · refine x_iload7 (pc := 132) G dX11_receive_132 ?_
          refine x_if_eq (pc := 134) (y := 0) (tgt := 141) G dX11_receive_134 rfl (fun _ => ?_) (fun q => absurd q (by decide))
          refine x_iconst (pc := 141) (v := 3) G dX11_receive_141 ic_3 ?_
          refine y_c1 (pc := 142) G (c_holdsN hl hM (by decide)) q_ml_X11_210 h_X11_holds rfl ⟨Nat.le_of_ble_eq_true rfl, Nat.le_of_ble_eq_true rfl⟩ (Nat.le_of_ble_eq_true rfl) (Nat.le_refl _) (Nat.le_refl _) dX11_receive_142 ?_
          refine x_if_ne (pc := 145) (y := 0) (tgt := 150) G dX11_receive_145 rfl (fun q => absurd q (by decide)) (fun _ => ?_)
          refine x_iconst (pc := 148) (v := 0) G dX11_receive_148 ic_0 ?_
          exact x_iret (pc := 149) G B rfl dX11_receive_149 ⟨by rw [f_receive, if_pos c1, if_pos c2, if_pos c3, if_pos c6, if_neg c9, if_pos c13, if_neg c14], by rw [f_receive, if_pos c1, if_pos c2, if_pos c3, if_pos c6, if_neg c9, if_pos c13, if_neg c14]⟩
        refine x_iconst (pc := 128) (v := 2) G dX11_receive_128 ic_2 ?_
        refine x_goto (pc := 129) (tgt := 142) G dX11_receive_129 rfl ?_
        refine y_c1 (pc := 142) G (c_holdsN hl hM (by decide)) q_ml_X11_210 h_X11_holds rfl ⟨Nat.le_of_ble_eq_true rfl, Nat.le_of_ble_eq_true rfl⟩ (Nat.le_of_ble_eq_true rfl) (Nat.le_refl _) (Nat.le_refl _) dX11_receive_142 ?_
        refine x_if_ne (pc := 145) (y := 0) (tgt := 150) G dX11_receive_145 rfl (fun q => absurd q (by decide)) (fun _ => ?_)
        refine x_iconst (pc := 148) (v := 0) G dX11_receive_148 ic_0 ?_
        exact x_iret (pc := 149) G B rfl dX11_receive_149 ⟨by rw [f_receive, if_pos c1, if_pos c2, if_pos c3, if_pos c6, if_neg c9, if_pos c13, if_pos c14], by rw [f_receive, if_pos c1, if_pos c2, if_pos c3, if_pos c6, if_neg c9, if_pos c13, if_pos c14]⟩
      refine x_if_eq (pc := 121) (y := 0) (tgt := 128) G dX11_receive_121 rfl (fun _ => ?_) (fun q => absurd q (by decide))
      refine x_iconst (pc := 128) (v := 2) G dX11_receive_128 ic_2 ?_
      refine x_goto (pc := 129) (tgt := 142) G dX11_receive_129 rfl ?_
      refine y_c1 (pc := 142) G (c_holdsN hl hM (by decide)) q_ml_X11_210 h_X11_holds rfl ⟨Nat.le_of_ble_eq_true rfl, Nat.le_of_ble_eq_true rfl⟩ (Nat.le_of_ble_eq_true rfl) (Nat.le_refl _) (Nat.le_refl _) dX11_receive_142 ?_
      refine x_if_ne (pc := 145) (y := 0) (tgt := 150) G dX11_receive_145 rfl (fun q => absurd q (by decide)) (fun _ => ?_)
      refine x_iconst (pc := 148) (v := 0) G dX11_receive_148 ic_0 ?_
      exact x_iret (pc := 149) G B rfl dX11_receive_149 ⟨by rw [f_receive, if_pos c1, if_pos c2, if_pos c3, if_pos c6, if_neg c9, if_neg c13], by rw [f_receive, if_pos c1, if_pos c2, if_pos c3, if_pos c6, if_neg c9, if_neg c13]⟩
    refine x_if_eq (pc := 39) (y := 0) (tgt := 46) G dX11_receive_39 rfl (fun _ => ?_) (fun q => absurd q (by decide))
    refine x_iconst (pc := 46) (v := 0) G dX11_receive_46 ic_0 ?_
    refine x_iadd (pc := 47) G dX11_receive_47 ?_
    refine x_istore6 (pc := 48) G dX11_receive_48 (Nat.le_of_ble_eq_true rfl) rfl ?_
    refine x_iload4 (pc := 50) G dX11_receive_50 ?_
    refine x_if_eq (pc := 52) (y := 0) (tgt := 100) G dX11_receive_52 rfl (fun q => absurd q (by decide)) (fun _ => ?_)
    refine x_aload0 (pc := 55) G dX11_receive_55 ?_
    refine y_gA (pc := 56) G g_45 mG_17 dX11_receive_56 ?_
    refine x_iload1 (pc := 59) G dX11_receive_59 ?_
    refine y_iald (pc := 60) (v := (gI M 17 p1)) G hM a_17 ((hr _ (And.left c1)).1) rfl dX11_receive_60 ?_
    refine x_iconst (pc := 61) (v := 4) G dX11_receive_61 ic_4 ?_
    refine x_icmp_ne (pc := 62) (tgt := 100) G dX11_receive_62 rfl (fun c15 => ?_) (fun c15 => ?_)
    · refine x_iconst (pc := 100) (v := 0) G dX11_receive_100 ic_0 ?_
      refine x_istore7 (pc := 101) G dX11_receive_101 (Nat.le_of_ble_eq_true rfl) rfl ?_
      refine x_aload0 (pc := 103) G dX11_receive_103 ?_
      refine x_iload4 (pc := 104) G dX11_receive_104 ?_
      refine x_if_ne (pc := 106) (y := 0) (tgt := 113) G dX11_receive_106 rfl (fun _ => ?_) (fun q => absurd q (by decide))
      refine x_iload3 (pc := 113) G dX11_receive_113 ?_
      refine x_bipush (pc := 114) (v := (-99)) G dX11_receive_114 bp_m99 ?_
      refine x_bipush (pc := 116) (v := 99) G dX11_receive_116 bp_99 ?_
      refine x_cSb3 (pc := 118) G (b_in hl hM _) q_ml_X11_181 h_X11_in ⟨Nat.le_of_ble_eq_true rfl, Nat.le_of_ble_eq_true rfl⟩ (Nat.le_of_ble_eq_true rfl) (Nat.le_refl _) (Nat.le_refl _) dX11_receive_118 (fun c16 => ?_) (fun c16 => ?_)
      · refine x_if_eq (pc := 121) (y := 0) (tgt := 128) G dX11_receive_121 rfl (fun q => absurd q (by decide)) (fun _ => ?_)
        refine x_iload3 (pc := 124) G dX11_receive_124 ?_
        refine x_if_ne (pc := 125) (y := 0) (tgt := 132) G dX11_receive_125 rfl (fun c17 => ?_) (fun c17 => ?_)
        · refine x_iload7 (pc := 132) G dX11_receive_132 ?_
          refine x_if_eq (pc := 134) (y := 0) (tgt := 141) G dX11_receive_134 rfl (fun _ => ?_) (fun q => absurd q (by decide))
          refine x_iconst (pc := 141) (v := 3) G dX11_receive_141 ic_3 ?_
          refine y_c1 (pc := 142) G (c_holdsN hl hM (by decide)) q_ml_X11_210 h_X11_holds rfl ⟨Nat.le_of_ble_eq_true rfl, Nat.le_of_ble_eq_true rfl⟩ (Nat.le_of_ble_eq_true rfl) (Nat.le_refl _) (Nat.le_refl _) dX11_receive_142 ?_
          refine x_if_ne (pc := 145) (y := 0) (tgt := 150) G dX11_receive_145 rfl (fun q => absurd q (by decide)) (fun _ => ?_)
          refine x_iconst (pc := 148) (v := 0) G dX11_receive_148 ic_0 ?_
          exact x_iret (pc := 149) G B rfl dX11_receive_149 ⟨by rw [f_receive, if_pos c1, if_neg c2, if_neg c15, if_pos c16, if_neg c17], by rw [f_receive, if_pos c1, if_neg c2, if_neg c15, if_pos c16, if_neg c17]⟩
        refine x_iconst (pc := 128) (v := 2) G dX11_receive_128 ic_2 ?_
        refine x_goto (pc := 129) (tgt := 142) G dX11_receive_129 rfl ?_
        refine y_c1 (pc := 142) G (c_holdsN hl hM (by decide)) q_ml_X11_210 h_X11_holds rfl ⟨Nat.le_of_ble_eq_true rfl, Nat.le_of_ble_eq_true rfl⟩ (Nat.le_of_ble_eq_true rfl) (Nat.le_refl _) (Nat.le_refl _) dX11_receive_142 ?_
        refine x_if_ne (pc := 145) (y := 0) (tgt := 150) G dX11_receive_145 rfl (fun q => absurd q (by decide)) (fun _ => ?_)
        refine x_iconst (pc := 148) (v := 0) G dX11_receive_148 ic_0 ?_
        exact x_iret (pc := 149) G B rfl dX11_receive_149 ⟨by rw [f_receive, if_pos c1, if_neg c2, if_neg c15, if_pos c16, if_pos c17], by rw [f_receive, if_pos c1, if_neg c2, if_neg c15, if_pos c16, if_pos c17]⟩
      refine x_if_eq (pc := 121) (y := 0) (tgt := 128) G dX11_receive_121 rfl (fun _ => ?_) (fun q => absurd q (by decide))
      refine x_iconst (pc := 128) (v := 2) G dX11_receive_128 ic_2 ?_
      refine x_goto (pc := 129) (tgt := 142) G dX11_receive_129 rfl ?_
      refine y_c1 (pc := 142) G (c_holdsN hl hM (by decide)) q_ml_X11_210 h_X11_holds rfl ⟨Nat.le_of_ble_eq_true rfl, Nat.le_of_ble_eq_true rfl⟩ (Nat.le_of_ble_eq_true rfl) (Nat.le_refl _) (Nat.le_refl _) dX11_receive_142 ?_
      refine x_if_ne (pc := 145) (y := 0) (tgt := 150) G dX11_receive_145 rfl (fun q => absurd q (by decide)) (fun _ => ?_)
      refine x_iconst (pc := 148) (v := 0) G dX11_receive_148 ic_0 ?_
      exact x_iret (pc := 149) G B rfl dX11_receive_149 ⟨by rw [f_receive, if_pos c1, if_neg c2, if_neg c15, if_neg c16], by rw [f_receive, if_pos c1, if_neg c2, if_neg c15, if_neg c16]⟩
    refine x_aload0 (pc := 65) G dX11_receive_65 ?_
    refine y_gA (pc := 66) G g_75 mG_27 dX11_receive_66 ?_
    refine x_iload5 (pc := 69) G dX11_receive_69 ?_
    refine y_zald (pc := 71) (v := (gI M 27 ((4 * p1) + p2))) G hM a_27 (vin_linep (hr _ (And.left c1)).1 (hr _ (And.left c1)).2.2.2.1 (And.right c1)) rfl dX11_receive_71 ?_
    refine x_if_ne (pc := 72) (y := 0) (tgt := 100) G dX11_receive_72 rfl (fun c18 => ?_) (fun c18 => ?_)
    · refine x_iconst (pc := 100) (v := 0) G dX11_receive_100 ic_0 ?_
      refine x_istore7 (pc := 101) G dX11_receive_101 (Nat.le_of_ble_eq_true rfl) rfl ?_
      refine x_aload0 (pc := 103) G dX11_receive_103 ?_
      refine x_iload4 (pc := 104) G dX11_receive_104 ?_
      refine x_if_ne (pc := 106) (y := 0) (tgt := 113) G dX11_receive_106 rfl (fun _ => ?_) (fun q => absurd q (by decide))
      refine x_iload3 (pc := 113) G dX11_receive_113 ?_
      refine x_bipush (pc := 114) (v := (-99)) G dX11_receive_114 bp_m99 ?_
      refine x_bipush (pc := 116) (v := 99) G dX11_receive_116 bp_99 ?_
      refine x_cSb3 (pc := 118) G (b_in hl hM _) q_ml_X11_181 h_X11_in ⟨Nat.le_of_ble_eq_true rfl, Nat.le_of_ble_eq_true rfl⟩ (Nat.le_of_ble_eq_true rfl) (Nat.le_refl _) (Nat.le_refl _) dX11_receive_118 (fun c19 => ?_) (fun c19 => ?_)
      · refine x_if_eq (pc := 121) (y := 0) (tgt := 128) G dX11_receive_121 rfl (fun q => absurd q (by decide)) (fun _ => ?_)
        refine x_iload3 (pc := 124) G dX11_receive_124 ?_
        refine x_if_ne (pc := 125) (y := 0) (tgt := 132) G dX11_receive_125 rfl (fun c20 => ?_) (fun c20 => ?_)
        · refine x_iload7 (pc := 132) G dX11_receive_132 ?_
          refine x_if_eq (pc := 134) (y := 0) (tgt := 141) G dX11_receive_134 rfl (fun _ => ?_) (fun q => absurd q (by decide))
          refine x_iconst (pc := 141) (v := 3) G dX11_receive_141 ic_3 ?_
          refine y_c1 (pc := 142) G (c_holdsN hl hM (by decide)) q_ml_X11_210 h_X11_holds rfl ⟨Nat.le_of_ble_eq_true rfl, Nat.le_of_ble_eq_true rfl⟩ (Nat.le_of_ble_eq_true rfl) (Nat.le_refl _) (Nat.le_refl _) dX11_receive_142 ?_
          refine x_if_ne (pc := 145) (y := 0) (tgt := 150) G dX11_receive_145 rfl (fun q => absurd q (by decide)) (fun _ => ?_)
          refine x_iconst (pc := 148) (v := 0) G dX11_receive_148 ic_0 ?_
          exact x_iret (pc := 149) G B rfl dX11_receive_149 ⟨by rw [f_receive, if_pos c1, if_neg c2, if_pos c15, if_neg c18, if_pos c19, if_neg c20], by rw [f_receive, if_pos c1, if_neg c2, if_pos c15, if_neg c18, if_pos c19, if_neg c20]⟩
        refine x_iconst (pc := 128) (v := 2) G dX11_receive_128 ic_2 ?_
        refine x_goto (pc := 129) (tgt := 142) G dX11_receive_129 rfl ?_
        refine y_c1 (pc := 142) G (c_holdsN hl hM (by decide)) q_ml_X11_210 h_X11_holds rfl ⟨Nat.le_of_ble_eq_true rfl, Nat.le_of_ble_eq_true rfl⟩ (Nat.le_of_ble_eq_true rfl) (Nat.le_refl _) (Nat.le_refl _) dX11_receive_142 ?_
        refine x_if_ne (pc := 145) (y := 0) (tgt := 150) G dX11_receive_145 rfl (fun q => absurd q (by decide)) (fun _ => ?_)
        refine x_iconst (pc := 148) (v := 0) G dX11_receive_148 ic_0 ?_
        exact x_iret (pc := 149) G B rfl dX11_receive_149 ⟨by rw [f_receive, if_pos c1, if_neg c2, if_pos c15, if_neg c18, if_pos c19, if_pos c20], by rw [f_receive, if_pos c1, if_neg c2, if_pos c15, if_neg c18, if_pos c19, if_pos c20]⟩
      refine x_if_eq (pc := 121) (y := 0) (tgt := 128) G dX11_receive_121 rfl (fun _ => ?_) (fun q => absurd q (by decide))
      refine x_iconst (pc := 128) (v := 2) G dX11_receive_128 ic_2 ?_
      refine x_goto (pc := 129) (tgt := 142) G dX11_receive_129 rfl ?_
      refine y_c1 (pc := 142) G (c_holdsN hl hM (by decide)) q_ml_X11_210 h_X11_holds rfl ⟨Nat.le_of_ble_eq_true rfl, Nat.le_of_ble_eq_true rfl⟩ (Nat.le_of_ble_eq_true rfl) (Nat.le_refl _) (Nat.le_refl _) dX11_receive_142 ?_
      refine x_if_ne (pc := 145) (y := 0) (tgt := 150) G dX11_receive_145 rfl (fun q => absurd q (by decide)) (fun _ => ?_)
      refine x_iconst (pc := 148) (v := 0) G dX11_receive_148 ic_0 ?_
      exact x_iret (pc := 149) G B rfl dX11_receive_149 ⟨by rw [f_receive, if_pos c1, if_neg c2, if_pos c15, if_neg c18, if_neg c19], by rw [f_receive, if_pos c1, if_neg c2, if_pos c15, if_neg c18, if_neg c19]⟩
    refine x_iload6 (pc := 75) G dX11_receive_75 ?_
    refine x_aload0 (pc := 77) G dX11_receive_77 ?_
    refine x_iload5 (pc := 78) G dX11_receive_78 ?_
    refine y_c1 (pc := 80) G (c_bookedPieces hl hM h39) q_ml_X11_230 h_X11_bookedPieces rfl ⟨Nat.le_of_ble_eq_true rfl, Nat.le_of_ble_eq_true rfl⟩ (Nat.le_of_ble_eq_true rfl) (Nat.le_refl _) (Nat.le_refl _) dX11_receive_80 ?_
    refine x_aload0 (pc := 83) G dX11_receive_83 ?_
    refine y_gA (pc := 84) G g_78 mG_28 dX11_receive_84 ?_
    refine x_iload5 (pc := 87) G dX11_receive_87 ?_
    refine y_iald (pc := 89) (v := (gI M 28 ((4 * p1) + p2))) G hM a_28 (vin_linep (hr _ (And.left c1)).1 (hr _ (And.left c1)).2.2.2.1 (And.right c1)) rfl dX11_receive_89 ?_
    refine x_cSb3 (pc := 90) G (b_in hl hM _) q_ml_X11_181 h_X11_in ⟨Nat.le_of_ble_eq_true rfl, Nat.le_of_ble_eq_true rfl⟩ (Nat.le_of_ble_eq_true rfl) (Nat.le_refl _) (Nat.le_refl _) dX11_receive_90 (fun c21 => ?_) (fun c21 => ?_)
    · refine x_if_eq (pc := 93) (y := 0) (tgt := 100) G dX11_receive_93 rfl (fun q => absurd q (by decide)) (fun _ => ?_)
      refine x_iconst (pc := 96) (v := 1) G dX11_receive_96 ic_1 ?_
      refine x_goto (pc := 97) (tgt := 101) G dX11_receive_97 rfl ?_
      refine x_istore7 (pc := 101) G dX11_receive_101 (Nat.le_of_ble_eq_true rfl) rfl ?_
      refine x_aload0 (pc := 103) G dX11_receive_103 ?_
      refine x_iload4 (pc := 104) G dX11_receive_104 ?_
      refine x_if_ne (pc := 106) (y := 0) (tgt := 113) G dX11_receive_106 rfl (fun _ => ?_) (fun q => absurd q (by decide))
      refine x_iload3 (pc := 113) G dX11_receive_113 ?_
      refine x_bipush (pc := 114) (v := (-99)) G dX11_receive_114 bp_m99 ?_
      refine x_bipush (pc := 116) (v := 99) G dX11_receive_116 bp_99 ?_
      refine x_cSb3 (pc := 118) G (b_in hl hM _) q_ml_X11_181 h_X11_in ⟨Nat.le_of_ble_eq_true rfl, Nat.le_of_ble_eq_true rfl⟩ (Nat.le_of_ble_eq_true rfl) (Nat.le_refl _) (Nat.le_refl _) dX11_receive_118 (fun c22 => ?_) (fun c22 => ?_)
      · refine x_if_eq (pc := 121) (y := 0) (tgt := 128) G dX11_receive_121 rfl (fun q => absurd q (by decide)) (fun _ => ?_)
        refine x_iload3 (pc := 124) G dX11_receive_124 ?_
        refine x_if_ne (pc := 125) (y := 0) (tgt := 132) G dX11_receive_125 rfl (fun c23 => ?_) (fun c23 => ?_)
        · refine x_iload7 (pc := 132) G dX11_receive_132 ?_
          refine x_if_eq (pc := 134) (y := 0) (tgt := 141) G dX11_receive_134 rfl (fun q => absurd q (by decide)) (fun _ => ?_)
          refine x_iconst (pc := 137) (v := 0) G dX11_receive_137 ic_0 ?_
          refine x_goto (pc := 138) (tgt := 142) G dX11_receive_138 rfl ?_
          refine y_c1 (pc := 142) G (c_holds0 hl hM) q_ml_X11_210 h_X11_holds rfl ⟨Nat.le_of_ble_eq_true rfl, Nat.le_of_ble_eq_true rfl⟩ (Nat.le_of_ble_eq_true rfl) (Nat.le_refl _) (Nat.le_refl _) dX11_receive_142 ?_
          refine x_if_ne (pc := 145) (y := 0) (tgt := 150) G dX11_receive_145 rfl (fun _ => ?_) (fun q => absurd q (by decide))
          refine x_aload0 (pc := 150) G dX11_receive_150 ?_
          refine y_gA (pc := 151) G g_84 mG_30 dX11_receive_151 ?_
          refine x_iload5 (pc := 154) G dX11_receive_154 ?_
          refine x_iload6 (pc := 156) G dX11_receive_156 ?_
          refine y_iast (pc := 158) G hM a_30 (vin_linep (hr _ (And.left c1)).1 (hr _ (And.left c1)).2.2.2.1 (And.right c1)) dX11_receive_158 ?_
          refine x_iload3 (pc := 159) G dX11_receive_159 ?_
          refine x_if_le (pc := 160) (y := 0) (tgt := 172) G dX11_receive_160 rfl (fun c24 => ?_) (fun c24 => ?_)
          · refine x_iconst (pc := 172) (v := 0) G dX11_receive_172 ic_0 ?_
            exact x_iret (pc := 173) G B rfl dX11_receive_173 ⟨by rw [f_receive, if_pos c1, if_neg c2, if_pos c15, if_pos c18, if_pos c21, if_pos c22, if_neg c23, if_pos c24], by rw [f_receive, if_pos c1, if_neg c2, if_pos c15, if_pos c18, if_pos c21, if_pos c22, if_neg c23, if_pos c24]⟩
          refine x_aload0 (pc := 163) G dX11_receive_163 ?_
          refine x_iload5 (pc := 164) G dX11_receive_164 ?_
          refine y_c1 (pc := 166) G (c_looksAgain hl hM (h39_of rfl h39) (hy_of rfl hy) ((hv.sI (a := 0) (by decide)).rI (a := 30) (by decide))) q_ml_X11_290 h_X11_looksAgain rfl ⟨Nat.le_of_ble_eq_true rfl, Nat.le_of_ble_eq_true rfl⟩ (Nat.le_of_ble_eq_true rfl) (Nat.le_refl _) (Nat.le_refl _) dX11_receive_166 ?_
          refine x_goto (pc := 169) (tgt := 173) G dX11_receive_169 rfl ?_
          exact x_iret (pc := 173) G B rfl dX11_receive_173 ⟨by rw [f_receive, if_pos c1, if_neg c2, if_pos c15, if_pos c18, if_pos c21, if_pos c22, if_neg c23, if_neg c24], by rw [f_receive, if_pos c1, if_neg c2, if_pos c15, if_pos c18, if_pos c21, if_pos c22, if_neg c23, if_neg c24]⟩
        refine x_iconst (pc := 128) (v := 2) G dX11_receive_128 ic_2 ?_
        refine x_goto (pc := 129) (tgt := 142) G dX11_receive_129 rfl ?_
        refine y_c1 (pc := 142) G (c_holdsN hl hM (by decide)) q_ml_X11_210 h_X11_holds rfl ⟨Nat.le_of_ble_eq_true rfl, Nat.le_of_ble_eq_true rfl⟩ (Nat.le_of_ble_eq_true rfl) (Nat.le_refl _) (Nat.le_refl _) dX11_receive_142 ?_
        refine x_if_ne (pc := 145) (y := 0) (tgt := 150) G dX11_receive_145 rfl (fun q => absurd q (by decide)) (fun _ => ?_)
        refine x_iconst (pc := 148) (v := 0) G dX11_receive_148 ic_0 ?_
        exact x_iret (pc := 149) G B rfl dX11_receive_149 ⟨by rw [f_receive, if_pos c1, if_neg c2, if_pos c15, if_pos c18, if_pos c21, if_pos c22, if_pos c23], by rw [f_receive, if_pos c1, if_neg c2, if_pos c15, if_pos c18, if_pos c21, if_pos c22, if_pos c23]⟩
      refine x_if_eq (pc := 121) (y := 0) (tgt := 128) G dX11_receive_121 rfl (fun _ => ?_) (fun q => absurd q (by decide))
      refine x_iconst (pc := 128) (v := 2) G dX11_receive_128 ic_2 ?_
      refine x_goto (pc := 129) (tgt := 142) G dX11_receive_129 rfl ?_
      refine y_c1 (pc := 142) G (c_holdsN hl hM (by decide)) q_ml_X11_210 h_X11_holds rfl ⟨Nat.le_of_ble_eq_true rfl, Nat.le_of_ble_eq_true rfl⟩ (Nat.le_of_ble_eq_true rfl) (Nat.le_refl _) (Nat.le_refl _) dX11_receive_142 ?_
      refine x_if_ne (pc := 145) (y := 0) (tgt := 150) G dX11_receive_145 rfl (fun q => absurd q (by decide)) (fun _ => ?_)
      refine x_iconst (pc := 148) (v := 0) G dX11_receive_148 ic_0 ?_
      exact x_iret (pc := 149) G B rfl dX11_receive_149 ⟨by rw [f_receive, if_pos c1, if_neg c2, if_pos c15, if_pos c18, if_pos c21, if_neg c22], by rw [f_receive, if_pos c1, if_neg c2, if_pos c15, if_pos c18, if_pos c21, if_neg c22]⟩
    refine x_if_eq (pc := 93) (y := 0) (tgt := 100) G dX11_receive_93 rfl (fun _ => ?_) (fun q => absurd q (by decide))
    refine x_iconst (pc := 100) (v := 0) G dX11_receive_100 ic_0 ?_
    refine x_istore7 (pc := 101) G dX11_receive_101 (Nat.le_of_ble_eq_true rfl) rfl ?_
    refine x_aload0 (pc := 103) G dX11_receive_103 ?_
    refine x_iload4 (pc := 104) G dX11_receive_104 ?_
    refine x_if_ne (pc := 106) (y := 0) (tgt := 113) G dX11_receive_106 rfl (fun _ => ?_) (fun q => absurd q (by decide))
    refine x_iload3 (pc := 113) G dX11_receive_113 ?_
    refine x_bipush (pc := 114) (v := (-99)) G dX11_receive_114 bp_m99 ?_
    refine x_bipush (pc := 116) (v := 99) G dX11_receive_116 bp_99 ?_
    refine x_cSb3 (pc := 118) G (b_in hl hM _) q_ml_X11_181 h_X11_in ⟨Nat.le_of_ble_eq_true rfl, Nat.le_of_ble_eq_true rfl⟩ (Nat.le_of_ble_eq_true rfl) (Nat.le_refl _) (Nat.le_refl _) dX11_receive_118 (fun c25 => ?_) (fun c25 => ?_)
    · refine x_if_eq (pc := 121) (y := 0) (tgt := 128) G dX11_receive_121 rfl (fun q => absurd q (by decide)) (fun _ => ?_)
      refine x_iload3 (pc := 124) G dX11_receive_124 ?_
      refine x_if_ne (pc := 125) (y := 0) (tgt := 132) G dX11_receive_125 rfl (fun c26 => ?_) (fun c26 => ?_)
      · refine x_iload7 (pc := 132) G dX11_receive_132 ?_
        refine x_if_eq (pc := 134) (y := 0) (tgt := 141) G dX11_receive_134 rfl (fun _ => ?_) (fun q => absurd q (by decide))
        refine x_iconst (pc := 141) (v := 3) G dX11_receive_141 ic_3 ?_
        refine y_c1 (pc := 142) G (c_holdsN hl hM (by decide)) q_ml_X11_210 h_X11_holds rfl ⟨Nat.le_of_ble_eq_true rfl, Nat.le_of_ble_eq_true rfl⟩ (Nat.le_of_ble_eq_true rfl) (Nat.le_refl _) (Nat.le_refl _) dX11_receive_142 ?_
        refine x_if_ne (pc := 145) (y := 0) (tgt := 150) G dX11_receive_145 rfl (fun q => absurd q (by decide)) (fun _ => ?_)
        refine x_iconst (pc := 148) (v := 0) G dX11_receive_148 ic_0 ?_
        exact x_iret (pc := 149) G B rfl dX11_receive_149 ⟨by rw [f_receive, if_pos c1, if_neg c2, if_pos c15, if_pos c18, if_neg c21, if_pos c25, if_neg c26], by rw [f_receive, if_pos c1, if_neg c2, if_pos c15, if_pos c18, if_neg c21, if_pos c25, if_neg c26]⟩
      refine x_iconst (pc := 128) (v := 2) G dX11_receive_128 ic_2 ?_
      refine x_goto (pc := 129) (tgt := 142) G dX11_receive_129 rfl ?_
      refine y_c1 (pc := 142) G (c_holdsN hl hM (by decide)) q_ml_X11_210 h_X11_holds rfl ⟨Nat.le_of_ble_eq_true rfl, Nat.le_of_ble_eq_true rfl⟩ (Nat.le_of_ble_eq_true rfl) (Nat.le_refl _) (Nat.le_refl _) dX11_receive_142 ?_
      refine x_if_ne (pc := 145) (y := 0) (tgt := 150) G dX11_receive_145 rfl (fun q => absurd q (by decide)) (fun _ => ?_)
      refine x_iconst (pc := 148) (v := 0) G dX11_receive_148 ic_0 ?_
      exact x_iret (pc := 149) G B rfl dX11_receive_149 ⟨by rw [f_receive, if_pos c1, if_neg c2, if_pos c15, if_pos c18, if_neg c21, if_pos c25, if_pos c26], by rw [f_receive, if_pos c1, if_neg c2, if_pos c15, if_pos c18, if_neg c21, if_pos c25, if_pos c26]⟩
    refine x_if_eq (pc := 121) (y := 0) (tgt := 128) G dX11_receive_121 rfl (fun _ => ?_) (fun q => absurd q (by decide))
    refine x_iconst (pc := 128) (v := 2) G dX11_receive_128 ic_2 ?_
    refine x_goto (pc := 129) (tgt := 142) G dX11_receive_129 rfl ?_
    refine y_c1 (pc := 142) G (c_holdsN hl hM (by decide)) q_ml_X11_210 h_X11_holds rfl ⟨Nat.le_of_ble_eq_true rfl, Nat.le_of_ble_eq_true rfl⟩ (Nat.le_of_ble_eq_true rfl) (Nat.le_refl _) (Nat.le_refl _) dX11_receive_142 ?_
    refine x_if_ne (pc := 145) (y := 0) (tgt := 150) G dX11_receive_145 rfl (fun q => absurd q (by decide)) (fun _ => ?_)
    refine x_iconst (pc := 148) (v := 0) G dX11_receive_148 ic_0 ?_
    exact x_iret (pc := 149) G B rfl dX11_receive_149 ⟨by rw [f_receive, if_pos c1, if_neg c2, if_pos c15, if_pos c18, if_neg c21, if_neg c25], by rw [f_receive, if_pos c1, if_neg c2, if_pos c15, if_pos c18, if_neg c21, if_neg c25]⟩
  refine x_istore4 (pc := 6) G dX11_receive_6 (Nat.le_of_ble_eq_true rfl) rfl ?_
  refine x_iload4 (pc := 8) G dX11_receive_8 ?_
  refine x_if_eq (pc := 10) (y := 0) (tgt := 21) G dX11_receive_10 rfl (fun _ => ?_) (fun q => absurd q (by decide))
  refine x_iconst (pc := 21) (v := 0) G dX11_receive_21 ic_0 ?_
  refine x_istore5 (pc := 22) G dX11_receive_22 (Nat.le_of_ble_eq_true rfl) rfl ?_
  refine x_aload0 (pc := 24) G dX11_receive_24 ?_
  refine y_gA (pc := 25) G g_84 mG_30 dX11_receive_25 ?_
  refine x_iload5 (pc := 28) G dX11_receive_28 ?_
  refine y_iald (pc := 30) (v := (gI M 30 0)) G hM a_30 (vin_lit (by decide)) rfl dX11_receive_30 ?_
  refine x_iload3 (pc := 31) G dX11_receive_31 ?_
  refine x_bipush (pc := 32) (v := (-99)) G dX11_receive_32 bp_m99 ?_
  refine x_bipush (pc := 34) (v := 99) G dX11_receive_34 bp_99 ?_
  refine x_cSb3 (pc := 36) G (b_in hl hM _) q_ml_X11_181 h_X11_in ⟨Nat.le_of_ble_eq_true rfl, Nat.le_of_ble_eq_true rfl⟩ (Nat.le_of_ble_eq_true rfl) (Nat.le_refl _) (Nat.le_refl _) dX11_receive_36 (fun c27 => ?_) (fun c27 => ?_)
  · refine x_if_eq (pc := 39) (y := 0) (tgt := 46) G dX11_receive_39 rfl (fun q => absurd q (by decide)) (fun _ => ?_)
    refine x_iload3 (pc := 42) G dX11_receive_42 ?_
    refine x_goto (pc := 43) (tgt := 47) G dX11_receive_43 rfl ?_
    refine x_iadd (pc := 47) G dX11_receive_47 ?_
    refine x_istore6 (pc := 48) G dX11_receive_48 (Nat.le_of_ble_eq_true rfl) rfl ?_
    refine x_iload4 (pc := 50) G dX11_receive_50 ?_
    refine x_if_eq (pc := 52) (y := 0) (tgt := 100) G dX11_receive_52 rfl (fun _ => ?_) (fun q => absurd q (by decide))
    refine x_iconst (pc := 100) (v := 0) G dX11_receive_100 ic_0 ?_
    refine x_istore7 (pc := 101) G dX11_receive_101 (Nat.le_of_ble_eq_true rfl) rfl ?_
    refine x_aload0 (pc := 103) G dX11_receive_103 ?_
    refine x_iload4 (pc := 104) G dX11_receive_104 ?_
    refine x_if_ne (pc := 106) (y := 0) (tgt := 113) G dX11_receive_106 rfl (fun q => absurd q (by decide)) (fun _ => ?_)
    refine x_iconst (pc := 109) (v := 1) G dX11_receive_109 ic_1 ?_
    refine x_goto (pc := 110) (tgt := 142) G dX11_receive_110 rfl ?_
    refine y_c1 (pc := 142) G (c_holdsN hl hM (by decide)) q_ml_X11_210 h_X11_holds rfl ⟨Nat.le_of_ble_eq_true rfl, Nat.le_of_ble_eq_true rfl⟩ (Nat.le_of_ble_eq_true rfl) (Nat.le_refl _) (Nat.le_refl _) dX11_receive_142 ?_
    refine x_if_ne (pc := 145) (y := 0) (tgt := 150) G dX11_receive_145 rfl (fun q => absurd q (by decide)) (fun _ => ?_)
    refine x_iconst (pc := 148) (v := 0) G dX11_receive_148 ic_0 ?_
    exact x_iret (pc := 149) G B rfl dX11_receive_149 ⟨by rw [f_receive, if_neg c1, if_pos c27], by rw [f_receive, if_neg c1, if_pos c27]⟩
  refine x_if_eq (pc := 39) (y := 0) (tgt := 46) G dX11_receive_39 rfl (fun _ => ?_) (fun q => absurd q (by decide))
  refine x_iconst (pc := 46) (v := 0) G dX11_receive_46 ic_0 ?_
  refine x_iadd (pc := 47) G dX11_receive_47 ?_
  refine x_istore6 (pc := 48) G dX11_receive_48 (Nat.le_of_ble_eq_true rfl) rfl ?_
  refine x_iload4 (pc := 50) G dX11_receive_50 ?_
  refine x_if_eq (pc := 52) (y := 0) (tgt := 100) G dX11_receive_52 rfl (fun _ => ?_) (fun q => absurd q (by decide))
  refine x_iconst (pc := 100) (v := 0) G dX11_receive_100 ic_0 ?_
  refine x_istore7 (pc := 101) G dX11_receive_101 (Nat.le_of_ble_eq_true rfl) rfl ?_
  refine x_aload0 (pc := 103) G dX11_receive_103 ?_
  refine x_iload4 (pc := 104) G dX11_receive_104 ?_
  refine x_if_ne (pc := 106) (y := 0) (tgt := 113) G dX11_receive_106 rfl (fun q => absurd q (by decide)) (fun _ => ?_)
  refine x_iconst (pc := 109) (v := 1) G dX11_receive_109 ic_1 ?_
  refine x_goto (pc := 110) (tgt := 142) G dX11_receive_110 rfl ?_
  refine y_c1 (pc := 142) G (c_holdsN hl hM (by decide)) q_ml_X11_210 h_X11_holds rfl ⟨Nat.le_of_ble_eq_true rfl, Nat.le_of_ble_eq_true rfl⟩ (Nat.le_of_ble_eq_true rfl) (Nat.le_refl _) (Nat.le_refl _) dX11_receive_142 ?_
  refine x_if_ne (pc := 145) (y := 0) (tgt := 150) G dX11_receive_145 rfl (fun q => absurd q (by decide)) (fun _ => ?_)
  refine x_iconst (pc := 148) (v := 0) G dX11_receive_148 ic_0 ?_
  exact x_iret (pc := 149) G B rfl dX11_receive_149 ⟨by rw [f_receive, if_neg c1, if_neg c27], by rw [f_receive, if_neg c1, if_neg c27]⟩
theorem dX11_canChange_0 : decode cX11_canChange 0 = .ok (.aload_n 0, 1) := by decide +kernel
theorem dX11_canChange_1 : decode cX11_canChange 1 = .ok (.getfield 45, 3) := by decide +kernel
theorem dX11_canChange_4 : decode cX11_canChange 4 = .ok (.iload_n 1, 1) := by decide +kernel
theorem dX11_canChange_5 : decode cX11_canChange 5 = .ok (.iaload, 1) := by decide +kernel
theorem dX11_canChange_6 : decode cX11_canChange 6 = .ok (.iconst 4, 1) := by decide +kernel
theorem dX11_canChange_7 : decode cX11_canChange 7 = .ok (.if_icmp .ne 28, 3) := by decide +kernel
theorem dX11_canChange_10 : decode cX11_canChange 10 = .ok (.iload_n 3, 1) := by decide +kernel
theorem dX11_canChange_11 : decode cX11_canChange 11 = .ok (.aload_n 0, 1) := by decide +kernel
theorem dX11_canChange_12 : decode cX11_canChange 12 = .ok (.getfield 84, 3) := by decide +kernel
theorem dX11_canChange_15 : decode cX11_canChange 15 = .ok (.iload_n 2, 1) := by decide +kernel
theorem dX11_canChange_16 : decode cX11_canChange 16 = .ok (.iaload, 1) := by decide +kernel
theorem dX11_canChange_17 : decode cX11_canChange 17 = .ok (.if_icmp .lt 18, 3) := by decide +kernel
theorem dX11_canChange_20 : decode cX11_canChange 20 = .ok (.iload_n 3, 1) := by decide +kernel
theorem dX11_canChange_21 : decode cX11_canChange 21 = .ok (.aload_n 0, 1) := by decide +kernel
theorem dX11_canChange_22 : decode cX11_canChange 22 = .ok (.iload_n 2, 1) := by decide +kernel
theorem dX11_canChange_23 : decode cX11_canChange 23 = .ok (.invokevirtual 230, 3) := by decide +kernel
theorem dX11_canChange_26 : decode cX11_canChange 26 = .ok (.aload_n 0, 1) := by decide +kernel
theorem dX11_canChange_27 : decode cX11_canChange 27 = .ok (.iload_n 2, 1) := by decide +kernel
theorem dX11_canChange_28 : decode cX11_canChange 28 = .ok (.invokevirtual 293, 3) := by decide +kernel
theorem dX11_canChange_31 : decode cX11_canChange 31 = .ok (.iadd, 1) := by decide +kernel
theorem dX11_canChange_32 : decode cX11_canChange 32 = .ok (.if_icmp .ge 5, 3) := by decide +kernel
theorem dX11_canChange_35 : decode cX11_canChange 35 = .ok (.iconst 0, 1) := by decide +kernel
theorem dX11_canChange_36 : decode cX11_canChange 36 = .ok (.ireturn, 1) := by decide +kernel
theorem dX11_canChange_37 : decode cX11_canChange 37 = .ok (.iload_n 3, 1) := by decide +kernel
theorem dX11_canChange_38 : decode cX11_canChange 38 = .ok (.aload_n 0, 1) := by decide +kernel
theorem dX11_canChange_39 : decode cX11_canChange 39 = .ok (.getfield 78, 3) := by decide +kernel
theorem dX11_canChange_42 : decode cX11_canChange 42 = .ok (.iload_n 2, 1) := by decide +kernel
theorem dX11_canChange_43 : decode cX11_canChange 43 = .ok (.iaload, 1) := by decide +kernel
theorem dX11_canChange_44 : decode cX11_canChange 44 = .ok (.isub, 1) := by decide +kernel
theorem dX11_canChange_45 : decode cX11_canChange 45 = .ok (.i2l, 1) := by decide +kernel
theorem dX11_canChange_46 : decode cX11_canChange 46 = .ok (.aload_n 0, 1) := by decide +kernel
theorem dX11_canChange_47 : decode cX11_canChange 47 = .ok (.getfield 81, 3) := by decide +kernel
theorem dX11_canChange_50 : decode cX11_canChange 50 = .ok (.iload_n 2, 1) := by decide +kernel
theorem dX11_canChange_51 : decode cX11_canChange 51 = .ok (.iaload, 1) := by decide +kernel
theorem dX11_canChange_52 : decode cX11_canChange 52 = .ok (.i2l, 1) := by decide +kernel
theorem dX11_canChange_53 : decode cX11_canChange 53 = .ok (.lmul, 1) := by decide +kernel
theorem dX11_canChange_54 : decode cX11_canChange 54 = .ok (.lstore 4, 2) := by decide +kernel
theorem dX11_canChange_56 : decode cX11_canChange 56 = .ok (.aload_n 0, 1) := by decide +kernel
theorem dX11_canChange_57 : decode cX11_canChange 57 = .ok (.iload_n 1, 1) := by decide +kernel
theorem dX11_canChange_58 : decode cX11_canChange 58 = .ok (.invokevirtual 246, 3) := by decide +kernel
theorem dX11_canChange_61 : decode cX11_canChange 61 = .ok (.lload 4, 2) := by decide +kernel
theorem dX11_canChange_63 : decode cX11_canChange 63 = .ok (.ladd, 1) := by decide +kernel
theorem dX11_canChange_64 : decode cX11_canChange 64 = .ok (.aload_n 0, 1) := by decide +kernel
theorem dX11_canChange_65 : decode cX11_canChange 65 = .ok (.getfield 60, 3) := by decide +kernel
theorem dX11_canChange_68 : decode cX11_canChange 68 = .ok (.iload_n 1, 1) := by decide +kernel
theorem dX11_canChange_69 : decode cX11_canChange 69 = .ok (.laload, 1) := by decide +kernel
theorem dX11_canChange_70 : decode cX11_canChange 70 = .ok (.ldc2_w 296, 3) := by decide +kernel
theorem dX11_canChange_73 : decode cX11_canChange 73 = .ok (.lmul, 1) := by decide +kernel
theorem dX11_canChange_74 : decode cX11_canChange 74 = .ok (.ldc2_w 234, 3) := by decide +kernel
theorem dX11_canChange_77 : decode cX11_canChange 77 = .ok (.ldiv, 1) := by decide +kernel
theorem dX11_canChange_78 : decode cX11_canChange 78 = .ok (.lcmp, 1) := by decide +kernel
theorem dX11_canChange_79 : decode cX11_canChange 79 = .ok (.ifCond .gt 35, 3) := by decide +kernel
theorem dX11_canChange_82 : decode cX11_canChange 82 = .ok (.lload 4, 2) := by decide +kernel
theorem dX11_canChange_84 : decode cX11_canChange 84 = .ok (.lconst 0, 1) := by decide +kernel
theorem dX11_canChange_85 : decode cX11_canChange 85 = .ok (.lcmp, 1) := by decide +kernel
theorem dX11_canChange_86 : decode cX11_canChange 86 = .ok (.ifCond .le 24, 3) := by decide +kernel
theorem dX11_canChange_89 : decode cX11_canChange 89 = .ok (.aload_n 0, 1) := by decide +kernel
theorem dX11_canChange_90 : decode cX11_canChange 90 = .ok (.aload_n 0, 1) := by decide +kernel
theorem dX11_canChange_91 : decode cX11_canChange 91 = .ok (.getfield 42, 3) := by decide +kernel
theorem dX11_canChange_94 : decode cX11_canChange 94 = .ok (.iload_n 1, 1) := by decide +kernel
theorem dX11_canChange_95 : decode cX11_canChange 95 = .ok (.iaload, 1) := by decide +kernel
theorem dX11_canChange_96 : decode cX11_canChange 96 = .ok (.aload_n 0, 1) := by decide +kernel
theorem dX11_canChange_97 : decode cX11_canChange 97 = .ok (.getfield 54, 3) := by decide +kernel
theorem dX11_canChange_100 : decode cX11_canChange 100 = .ok (.iload_n 1, 1) := by decide +kernel
theorem dX11_canChange_101 : decode cX11_canChange 101 = .ok (.iaload, 1) := by decide +kernel
theorem dX11_canChange_102 : decode cX11_canChange 102 = .ok (.lload 4, 2) := by decide +kernel
theorem dX11_canChange_104 : decode cX11_canChange 104 = .ok (.invokevirtual 250, 3) := by decide +kernel
theorem dX11_canChange_107 : decode cX11_canChange 107 = .ok (.ifCond .eq 7, 3) := by decide +kernel
theorem dX11_canChange_110 : decode cX11_canChange 110 = .ok (.iconst 1, 1) := by decide +kernel
theorem dX11_canChange_111 : decode cX11_canChange 111 = .ok (.goto 4, 3) := by decide +kernel
theorem dX11_canChange_114 : decode cX11_canChange 114 = .ok (.iconst 0, 1) := by decide +kernel
theorem dX11_canChange_115 : decode cX11_canChange 115 = .ok (.ireturn, 1) := by decide +kernel
def f_canChange (p1 : Int32) (p2 : Int32) (p3 : Int32) (M : MS) : Int32 :=
    if (gI M 17 p1) = 4 then
      if p3 < (gI M 30 p2) then
        0
      else
      if ((f_bookedPieces p2 M) + (f_heldPieces p2 M)) ≤ p3 then
        if 0 < (lg_cmp ((f_total p1 M) + (((p3 - (gI M 28 p2)).toInt64) * ((gI M 29 p2).toInt64))) (((gJ M 22 p1) * 105) / 100)) then
          0
        else
        if (lg_cmp (((p3 - (gI M 28 p2)).toInt64) * ((gI M 29 p2).toInt64)) 0) ≤ 0 then
          1
        else
        if P_may (gI M 16 p1) (gI M 20 p1) (((p3 - (gI M 28 p2)).toInt64) * ((gI M 29 p2).toInt64)) M then
          1
        else
        0
      else
      0
    else
    0
abbrev rm_X11_canChange : Room := { frames := 3, cells := 0, slots := 0, locals := 68 }
set_option maxRecDepth 100000 in
set_option maxHeartbeats 4000000 in
theorem c_canChange {l : Launch} {k : KC} {mo : Nat} {ad : Nat → Nat} (hl : l.stackTraces = false) (hM : HM mo ad) {M : MS} {p1 : Int32} {p2 : Int32} {p3 : Int32} (hq : RqOK M p1) (ho : gI M 17 p1 = 4 → P_isYear (gI M 20 p1)) (h2 : vp_in p2 160) (h39 : LE (mI M 39) 60) : CM l k mo ad yX11_canChange (.code yX11_canChange cX11_canChange 6 (some .boolean)) rm_X11_canChange [.int p1, .int p2, .int p3] M (some (.int (f_canChange p1 p2 p3 M))) M := by
  refine MC.of 2 hl (by decide) (Nat.le_of_ble_eq_true rfl) ?_
  intro p e s m args below meth c A Q G B _ _
  show Wx p l e rm_X11_canChange s m args below meth c k A 6 Q 0 0 0 [some (.ref mo), some (.int p1), some (.int p2), some (.int p3), none, none] [] (mW k mo ad M)
  refine x_aload0 (pc := 0) G dX11_canChange_0 ?_
  refine y_gA (pc := 1) G g_45 mG_17 dX11_canChange_1 ?_
  refine x_iload1 (pc := 4) G dX11_canChange_4 ?_
  refine y_iald (pc := 5) (v := (gI M 17 p1)) G hM a_17 (hq.1) rfl dX11_canChange_5 ?_
  refine x_iconst (pc := 6) (v := 4) G dX11_canChange_6 ic_4 ?_
  refine x_icmp_ne (pc := 7) (tgt := 35) G dX11_canChange_7 rfl (fun c1 => ?_) (fun c1 => ?_)
  · refine x_iconst (pc := 35) (v := 0) G dX11_canChange_35 ic_0 ?_
    exact x_zret (pc := 36) G B rfl (by decide) dX11_canChange_36 ⟨by rw [f_canChange, if_neg c1], rfl⟩
  refine x_iload3 (pc := 10) G dX11_canChange_10 ?_
  refine x_aload0 (pc := 11) G dX11_canChange_11 ?_
  refine y_gA (pc := 12) G g_84 mG_30 dX11_canChange_12 ?_
  refine x_iload2 (pc := 15) G dX11_canChange_15 ?_
  refine y_iald (pc := 16) (v := (gI M 30 p2)) G hM a_30 (h2) rfl dX11_canChange_16 ?_
  refine x_icmp_lt (pc := 17) (tgt := 35) G dX11_canChange_17 rfl (fun c2 => ?_) (fun c2 => ?_)
  · refine x_iconst (pc := 35) (v := 0) G dX11_canChange_35 ic_0 ?_
    exact x_zret (pc := 36) G B rfl (by decide) dX11_canChange_36 ⟨by rw [f_canChange, if_pos c1, if_pos c2], rfl⟩
  refine x_iload3 (pc := 20) G dX11_canChange_20 ?_
  refine x_aload0 (pc := 21) G dX11_canChange_21 ?_
  refine x_iload2 (pc := 22) G dX11_canChange_22 ?_
  refine y_c1 (pc := 23) G (c_bookedPieces hl hM h39) q_ml_X11_230 h_X11_bookedPieces rfl ⟨Nat.le_of_ble_eq_true rfl, Nat.le_of_ble_eq_true rfl⟩ (Nat.le_of_ble_eq_true rfl) (Nat.le_refl _) (Nat.le_refl _) dX11_canChange_23 ?_
  refine x_aload0 (pc := 26) G dX11_canChange_26 ?_
  refine x_iload2 (pc := 27) G dX11_canChange_27 ?_
  refine y_c1 (pc := 28) G (c_heldPieces hl hM h39) q_ml_X11_293 h_X11_heldPieces rfl ⟨Nat.le_of_ble_eq_true rfl, Nat.le_of_ble_eq_true rfl⟩ (Nat.le_of_ble_eq_true rfl) (Nat.le_refl _) (Nat.le_refl _) dX11_canChange_28 ?_
  refine x_iadd (pc := 31) G dX11_canChange_31 ?_
  refine x_icmp_ge (pc := 32) (tgt := 37) G dX11_canChange_32 rfl (fun c3 => ?_) (fun c3 => ?_)
  · refine x_iload3 (pc := 37) G dX11_canChange_37 ?_
    refine x_aload0 (pc := 38) G dX11_canChange_38 ?_
    refine y_gA (pc := 39) G g_78 mG_28 dX11_canChange_39 ?_
    refine x_iload2 (pc := 42) G dX11_canChange_42 ?_
    refine y_iald (pc := 43) (v := (gI M 28 p2)) G hM a_28 (h2) rfl dX11_canChange_43 ?_
    refine x_isub (pc := 44) G dX11_canChange_44 ?_
    refine x_i2l (pc := 45) G dX11_canChange_45 ?_
    refine x_aload0 (pc := 46) G dX11_canChange_46 ?_
    refine y_gA (pc := 47) G g_81 mG_29 dX11_canChange_47 ?_
    refine x_iload2 (pc := 50) G dX11_canChange_50 ?_
    refine y_iald (pc := 51) (v := (gI M 29 p2)) G hM a_29 (h2) rfl dX11_canChange_51 ?_
    refine x_i2l (pc := 52) G dX11_canChange_52 ?_
    refine x_lmul (pc := 53) G dX11_canChange_53 ?_
    refine x_lstore4 (pc := 54) G dX11_canChange_54 (Nat.le_of_ble_eq_true rfl) rfl ?_
    refine x_aload0 (pc := 56) G dX11_canChange_56 ?_
    refine x_iload1 (pc := 57) G dX11_canChange_57 ?_
    refine y_c1 (pc := 58) G (c_total hl hM hq.1 hq.2.2.2.1) q_ml_X11_246 h_X11_total rfl ⟨Nat.le_of_ble_eq_true rfl, Nat.le_of_ble_eq_true rfl⟩ (Nat.le_of_ble_eq_true rfl) (Nat.le_refl _) (Nat.le_refl _) dX11_canChange_58 ?_
    refine x_lload4 (pc := 61) G dX11_canChange_61 ?_
    refine x_ladd (pc := 63) G dX11_canChange_63 ?_
    refine x_aload0 (pc := 64) G dX11_canChange_64 ?_
    refine y_gA (pc := 65) G g_60 mG_22 dX11_canChange_65 ?_
    refine x_iload1 (pc := 68) G dX11_canChange_68 ?_
    refine y_lald (pc := 69) (v := (gJ M 22 p1)) G hM a_22 (hq.1) rfl dX11_canChange_69 ?_
    refine x_ldc2 (pc := 70) G q_cL_X11_296 dX11_canChange_70 ?_
    refine x_lmul (pc := 73) G dX11_canChange_73 ?_
    refine x_ldc2 (pc := 74) G q_cL_X11_234 dX11_canChange_74 ?_
    refine x_ldiv (pc := 77) G dX11_canChange_77 (by decide) ?_
    refine x_lcmp (pc := 78) G dX11_canChange_78 ?_
    refine x_if_gt (pc := 79) (y := 0) (tgt := 114) G dX11_canChange_79 rfl (fun c4 => ?_) (fun c4 => ?_)
    · refine x_iconst (pc := 114) (v := 0) G dX11_canChange_114 ic_0 ?_
      exact x_zret (pc := 115) G B rfl (by decide) dX11_canChange_115 ⟨by rw [f_canChange, if_pos c1, if_neg c2, if_pos c3, if_pos c4], rfl⟩
    refine x_lload4 (pc := 82) G dX11_canChange_82 ?_
    refine x_lconst (pc := 84) (v := 0) G dX11_canChange_84 lc_0 ?_
    refine x_lcmp (pc := 85) G dX11_canChange_85 ?_
    refine x_if_le (pc := 86) (y := 0) (tgt := 110) G dX11_canChange_86 rfl (fun c5 => ?_) (fun c5 => ?_)
    · refine x_iconst (pc := 110) (v := 1) G dX11_canChange_110 ic_1 ?_
      refine x_goto (pc := 111) (tgt := 115) G dX11_canChange_111 rfl ?_
      exact x_zret (pc := 115) G B rfl (by decide) dX11_canChange_115 ⟨by rw [f_canChange, if_pos c1, if_neg c2, if_pos c3, if_neg c4, if_pos c5], rfl⟩
    refine x_aload0 (pc := 89) G dX11_canChange_89 ?_
    refine x_aload0 (pc := 90) G dX11_canChange_90 ?_
    refine y_gA (pc := 91) G g_42 mG_16 dX11_canChange_91 ?_
    refine x_iload1 (pc := 94) G dX11_canChange_94 ?_
    refine y_iald (pc := 95) (v := (gI M 16 p1)) G hM a_16 (hq.1) rfl dX11_canChange_95 ?_
    refine x_aload0 (pc := 96) G dX11_canChange_96 ?_
    refine y_gA (pc := 97) G g_54 mG_20 dX11_canChange_97 ?_
    refine x_iload1 (pc := 100) G dX11_canChange_100 ?_
    refine y_iald (pc := 101) (v := (gI M 20 p1)) G hM a_20 (hq.1) rfl dX11_canChange_101 ?_
    refine x_lload4 (pc := 102) G dX11_canChange_102 ?_
    refine y_cb3 (pc := 104) G (b_may hl hM hq.2.2.1 (ho c1)) q_ml_X11_250 h_X11_may rfl ⟨Nat.le_of_ble_eq_true rfl, Nat.le_of_ble_eq_true rfl⟩ (Nat.le_of_ble_eq_true rfl) (Nat.le_refl _) (Nat.le_refl _) dX11_canChange_104 (fun c6 => ?_) (fun c6 => ?_)
    · refine x_if_eq (pc := 107) (y := 0) (tgt := 114) G dX11_canChange_107 rfl (fun q => absurd q (by decide)) (fun _ => ?_)
      refine x_iconst (pc := 110) (v := 1) G dX11_canChange_110 ic_1 ?_
      refine x_goto (pc := 111) (tgt := 115) G dX11_canChange_111 rfl ?_
      exact x_zret (pc := 115) G B rfl (by decide) dX11_canChange_115 ⟨by rw [f_canChange, if_pos c1, if_neg c2, if_pos c3, if_neg c4, if_neg c5, if_pos c6], rfl⟩
    refine x_if_eq (pc := 107) (y := 0) (tgt := 114) G dX11_canChange_107 rfl (fun _ => ?_) (fun q => absurd q (by decide))
    refine x_iconst (pc := 114) (v := 0) G dX11_canChange_114 ic_0 ?_
    exact x_zret (pc := 115) G B rfl (by decide) dX11_canChange_115 ⟨by rw [f_canChange, if_pos c1, if_neg c2, if_pos c3, if_neg c4, if_neg c5, if_neg c6], rfl⟩
  refine x_iconst (pc := 35) (v := 0) G dX11_canChange_35 ic_0 ?_
  exact x_zret (pc := 36) G B rfl (by decide) dX11_canChange_36 ⟨by rw [f_canChange, if_pos c1, if_neg c2, if_neg c3], rfl⟩
theorem canChange_st {M : MS} {p1 p2 p3 : Int32} (h : ¬ f_canChange p1 p2 p3 M = 0) : gI M 17 p1 = 4 := by
  unfold f_canChange at h
  by_cases c : gI M 17 p1 = 4
  · exact c
  · rw [if_neg c] at h
    exact absurd rfl h
theorem dX11_end_0 : decode cX11_end 0 = .ok (.aload_n 0, 1) := by decide +kernel
theorem dX11_end_1 : decode cX11_end 1 = .ok (.iload_n 1, 1) := by decide +kernel
theorem dX11_end_2 : decode cX11_end 2 = .ok (.invokevirtual 188, 3) := by decide +kernel
theorem dX11_end_5 : decode cX11_end 5 = .ok (.istore_n 2, 1) := by decide +kernel
theorem dX11_end_6 : decode cX11_end 6 = .ok (.iconst 0, 1) := by decide +kernel
theorem dX11_end_7 : decode cX11_end 7 = .ok (.istore_n 3, 1) := by decide +kernel
theorem dX11_end_8 : decode cX11_end 8 = .ok (.iconst 0, 1) := by decide +kernel
theorem dX11_end_9 : decode cX11_end 9 = .ok (.istore 4, 2) := by decide +kernel
theorem dX11_end_11 : decode cX11_end 11 = .ok (.iload 4, 2) := by decide +kernel
theorem dX11_end_13 : decode cX11_end 13 = .ok (.iconst 4, 1) := by decide +kernel
theorem dX11_end_14 : decode cX11_end 14 = .ok (.if_icmp .ge 26, 3) := by decide +kernel
theorem dX11_end_17 : decode cX11_end 17 = .ok (.iload_n 2, 1) := by decide +kernel
theorem dX11_end_18 : decode cX11_end 18 = .ok (.ifCond .eq 22, 3) := by decide +kernel
theorem dX11_end_21 : decode cX11_end 21 = .ok (.iload_n 3, 1) := by decide +kernel
theorem dX11_end_22 : decode cX11_end 22 = .ok (.aload_n 0, 1) := by decide +kernel
theorem dX11_end_23 : decode cX11_end 23 = .ok (.iconst 4, 1) := by decide +kernel
theorem dX11_end_24 : decode cX11_end 24 = .ok (.iload_n 1, 1) := by decide +kernel
theorem dX11_end_25 : decode cX11_end 25 = .ok (.imul, 1) := by decide +kernel
theorem dX11_end_26 : decode cX11_end 26 = .ok (.iload 4, 2) := by decide +kernel
theorem dX11_end_28 : decode cX11_end 28 = .ok (.iadd, 1) := by decide +kernel
theorem dX11_end_29 : decode cX11_end 29 = .ok (.invokevirtual 293, 3) := by decide +kernel
theorem dX11_end_32 : decode cX11_end 32 = .ok (.iadd, 1) := by decide +kernel
theorem dX11_end_33 : decode cX11_end 33 = .ok (.istore_n 3, 1) := by decide +kernel
theorem dX11_end_34 : decode cX11_end 34 = .ok (.iinc 4 1, 3) := by decide +kernel
theorem dX11_end_37 : decode cX11_end 37 = .ok (.goto (-26), 3) := by decide +kernel
theorem dX11_end_40 : decode cX11_end 40 = .ok (.aload_n 0, 1) := by decide +kernel
theorem dX11_end_41 : decode cX11_end 41 = .ok (.iload_n 2, 1) := by decide +kernel
theorem dX11_end_42 : decode cX11_end 42 = .ok (.ifCond .ne 7, 3) := by decide +kernel
theorem dX11_end_45 : decode cX11_end 45 = .ok (.iconst 1, 1) := by decide +kernel
theorem dX11_end_46 : decode cX11_end 46 = .ok (.goto 22, 3) := by decide +kernel
theorem dX11_end_49 : decode cX11_end 49 = .ok (.aload_n 0, 1) := by decide +kernel
theorem dX11_end_50 : decode cX11_end 50 = .ok (.getfield 45, 3) := by decide +kernel
theorem dX11_end_53 : decode cX11_end 53 = .ok (.iload_n 1, 1) := by decide +kernel
theorem dX11_end_54 : decode cX11_end 54 = .ok (.iaload, 1) := by decide +kernel
theorem dX11_end_55 : decode cX11_end 55 = .ok (.iconst 4, 1) := by decide +kernel
theorem dX11_end_56 : decode cX11_end 56 = .ok (.if_icmp .ne 7, 3) := by decide +kernel
theorem dX11_end_59 : decode cX11_end 59 = .ok (.iload_n 3, 1) := by decide +kernel
theorem dX11_end_60 : decode cX11_end 60 = .ok (.ifCond .le 7, 3) := by decide +kernel
theorem dX11_end_63 : decode cX11_end 63 = .ok (.iconst 2, 1) := by decide +kernel
theorem dX11_end_64 : decode cX11_end 64 = .ok (.goto 4, 3) := by decide +kernel
theorem dX11_end_67 : decode cX11_end 67 = .ok (.iconst 0, 1) := by decide +kernel
theorem dX11_end_68 : decode cX11_end 68 = .ok (.invokevirtual 210, 3) := by decide +kernel
theorem dX11_end_71 : decode cX11_end 71 = .ok (.ifCond .ne 5, 3) := by decide +kernel
theorem dX11_end_74 : decode cX11_end 74 = .ok (.lconst 0, 1) := by decide +kernel
theorem dX11_end_75 : decode cX11_end 75 = .ok (.lreturn, 1) := by decide +kernel
theorem dX11_end_76 : decode cX11_end 76 = .ok (.aload_n 0, 1) := by decide +kernel
theorem dX11_end_77 : decode cX11_end 77 = .ok (.getfield 45, 3) := by decide +kernel
theorem dX11_end_80 : decode cX11_end 80 = .ok (.iload_n 1, 1) := by decide +kernel
theorem dX11_end_81 : decode cX11_end 81 = .ok (.iconst 5, 1) := by decide +kernel
theorem dX11_end_82 : decode cX11_end 82 = .ok (.iastore, 1) := by decide +kernel
theorem dX11_end_83 : decode cX11_end 83 = .ok (.aload_n 0, 1) := by decide +kernel
theorem dX11_end_84 : decode cX11_end 84 = .ok (.iload_n 1, 1) := by decide +kernel
theorem dX11_end_85 : decode cX11_end 85 = .ok (.aload_n 0, 1) := by decide +kernel
theorem dX11_end_86 : decode cX11_end 86 = .ok (.getfield 51, 3) := by decide +kernel
theorem dX11_end_89 : decode cX11_end 89 = .ok (.iload_n 1, 1) := by decide +kernel
theorem dX11_end_90 : decode cX11_end 90 = .ok (.laload, 1) := by decide +kernel
theorem dX11_end_91 : decode cX11_end 91 = .ok (.invokevirtual 274, 3) := by decide +kernel
theorem dX11_end_94 : decode cX11_end 94 = .ok (.lreturn, 1) := by decide +kernel
def f_end (p1 : Int32) (M : MS) : Int64 × MS :=
    if P_isRequest p1 M then
      if (gI M 17 p1) = 4 then
        if ((((0 + (f_heldPieces ((4 * p1) + 0) M)) + (f_heldPieces ((4 * p1) + 1) M)) + (f_heldPieces ((4 * p1) + 2) M)) + (f_heldPieces ((4 * p1) + 3) M)) ≤ 0 then
          ((f_frees p1 (gJ M 19 p1) (rI (sI M 0 0) 17 p1 5)).1, (f_frees p1 (gJ M 19 p1) (rI (sI M 0 0) 17 p1 5)).2)
        else
        (0, (sI M 0 2))
      else
      (0, (sI M 0 2))
    else
    (0, (sI M 0 1))
abbrev rm_X11_end : Room := { frames := 3, cells := 0, slots := 0, locals := 70 }
set_option maxRecDepth 100000 in
set_option maxHeartbeats 4000000 in
theorem c_end {l : Launch} {k : KC} {mo : Nat} {ad : Nat → Nat} (hl : l.stackTraces = false) (hM : HM mo ad) {M : MS} {p1 : Int32} (hr : ∀ r, P_isRequest r M → RqOK M r) (h39 : LE (mI M 39) 60) : CM l k mo ad yX11_end (.code yX11_end cX11_end 5 (some .long)) rm_X11_end [.int p1] M (some (.long (f_end p1 M).1)) (f_end p1 M).2 := by
  refine MC.of 3 hl (by decide) (Nat.le_of_ble_eq_true rfl) ?_
  intro p e s m args below meth c A Q G B _ _
  show Wx p l e rm_X11_end s m args below meth c k A 5 Q 0 0 0 [some (.ref mo), some (.int p1), none, none, none] [] (mW k mo ad M)
  refine x_aload0 (pc := 0) G dX11_end_0 ?_
  refine x_iload1 (pc := 1) G dX11_end_1 ?_
  refine y_cb1 (pc := 2) G (b_isRequest hl hM ) q_ml_X11_188 h_X11_isRequest rfl ⟨Nat.le_of_ble_eq_true rfl, Nat.le_of_ble_eq_true rfl⟩ (Nat.le_of_ble_eq_true rfl) (Nat.le_refl _) (Nat.le_refl _) dX11_end_2 (fun c1 => ?_) (fun c1 => ?_)
  · refine x_istore2 (pc := 5) G dX11_end_5 (Nat.le_of_ble_eq_true rfl) rfl ?_
    refine x_iconst (pc := 6) (v := 0) G dX11_end_6 ic_0 ?_
    refine x_istore3 (pc := 7) G dX11_end_7 (Nat.le_of_ble_eq_true rfl) rfl ?_
    refine x_iconst (pc := 8) (v := 0) G dX11_end_8 ic_0 ?_
    refine x_istore4 (pc := 9) G dX11_end_9 (Nat.le_of_ble_eq_true rfl) rfl ?_
    refine x_iload4 (pc := 11) G dX11_end_11 ?_
    refine x_iconst (pc := 13) (v := 4) G dX11_end_13 ic_4 ?_
    refine x_icmp_ge (pc := 14) (tgt := 40) G dX11_end_14 rfl (fun q => absurd q (by decide)) (fun _ => ?_)
    refine x_iload2 (pc := 17) G dX11_end_17 ?_
    refine x_if_eq (pc := 18) (y := 0) (tgt := 40) G dX11_end_18 rfl (fun q => absurd q (by decide)) (fun _ => ?_)
    refine x_iload3 (pc := 21) G dX11_end_21 ?_
    refine x_aload0 (pc := 22) G dX11_end_22 ?_
    refine x_iconst (pc := 23) (v := 4) G dX11_end_23 ic_4 ?_
    refine x_iload1 (pc := 24) G dX11_end_24 ?_
    refine x_imul (pc := 25) G dX11_end_25 ?_
    refine x_iload4 (pc := 26) G dX11_end_26 ?_
    refine x_iadd (pc := 28) G dX11_end_28 ?_
    refine y_c1 (pc := 29) G (c_heldPieces hl hM h39) q_ml_X11_293 h_X11_heldPieces rfl ⟨Nat.le_of_ble_eq_true rfl, Nat.le_of_ble_eq_true rfl⟩ (Nat.le_of_ble_eq_true rfl) (Nat.le_refl _) (Nat.le_refl _) dX11_end_29 ?_
    refine x_iadd (pc := 32) G dX11_end_32 ?_
    refine x_istore3 (pc := 33) G dX11_end_33 (Nat.le_of_ble_eq_true rfl) rfl ?_
    refine x_iinc4 (pc := 34) (v := 1) G dX11_end_34 (by decide) (Nat.le_of_ble_eq_true rfl) rfl ?_
    refine x_goto (pc := 37) (tgt := 11) G dX11_end_37 rfl ?_
    refine x_iload4 (pc := 11) G dX11_end_11 ?_
    refine x_iconst (pc := 13) (v := 4) G dX11_end_13 ic_4 ?_
    refine x_icmp_ge (pc := 14) (tgt := 40) G dX11_end_14 rfl (fun q => absurd q (by decide)) (fun _ => ?_)
    refine x_iload2 (pc := 17) G dX11_end_17 ?_
    refine x_if_eq (pc := 18) (y := 0) (tgt := 40) G dX11_end_18 rfl (fun q => absurd q (by decide)) (fun _ => ?_)
    refine x_iload3 (pc := 21) G dX11_end_21 ?_
    refine x_aload0 (pc := 22) G dX11_end_22 ?_
    refine x_iconst (pc := 23) (v := 4) G dX11_end_23 ic_4 ?_
    refine x_iload1 (pc := 24) G dX11_end_24 ?_
    refine x_imul (pc := 25) G dX11_end_25 ?_
    refine x_iload4 (pc := 26) G dX11_end_26 ?_
    refine x_iadd (pc := 28) G dX11_end_28 ?_
    refine y_c1 (pc := 29) G (c_heldPieces hl hM h39) q_ml_X11_293 h_X11_heldPieces rfl ⟨Nat.le_of_ble_eq_true rfl, Nat.le_of_ble_eq_true rfl⟩ (Nat.le_of_ble_eq_true rfl) (Nat.le_refl _) (Nat.le_refl _) dX11_end_29 ?_
    refine x_iadd (pc := 32) G dX11_end_32 ?_
    refine x_istore3 (pc := 33) G dX11_end_33 (Nat.le_of_ble_eq_true rfl) rfl ?_
    refine x_iinc4 (pc := 34) (v := 2) G dX11_end_34 (by decide) (Nat.le_of_ble_eq_true rfl) rfl ?_
    refine x_goto (pc := 37) (tgt := 11) G dX11_end_37 rfl ?_
    refine x_iload4 (pc := 11) G dX11_end_11 ?_
    refine x_iconst (pc := 13) (v := 4) G dX11_end_13 ic_4 ?_
    refine x_icmp_ge (pc := 14) (tgt := 40) G dX11_end_14 rfl (fun q => absurd q (by decide)) (fun _ => ?_)
    refine x_iload2 (pc := 17) G dX11_end_17 ?_
    refine x_if_eq (pc := 18) (y := 0) (tgt := 40) G dX11_end_18 rfl (fun q => absurd q (by decide)) (fun _ => ?_)
    refine x_iload3 (pc := 21) G dX11_end_21 ?_
    refine x_aload0 (pc := 22) G dX11_end_22 ?_
    refine x_iconst (pc := 23) (v := 4) G dX11_end_23 ic_4 ?_
    refine x_iload1 (pc := 24) G dX11_end_24 ?_
    refine x_imul (pc := 25) G dX11_end_25 ?_
    refine x_iload4 (pc := 26) G dX11_end_26 ?_
    refine x_iadd (pc := 28) G dX11_end_28 ?_
    refine y_c1 (pc := 29) G (c_heldPieces hl hM h39) q_ml_X11_293 h_X11_heldPieces rfl ⟨Nat.le_of_ble_eq_true rfl, Nat.le_of_ble_eq_true rfl⟩ (Nat.le_of_ble_eq_true rfl) (Nat.le_refl _) (Nat.le_refl _) dX11_end_29 ?_
    refine x_iadd (pc := 32) G dX11_end_32 ?_
    refine x_istore3 (pc := 33) G dX11_end_33 (Nat.le_of_ble_eq_true rfl) rfl ?_
    refine x_iinc4 (pc := 34) (v := 3) G dX11_end_34 (by decide) (Nat.le_of_ble_eq_true rfl) rfl ?_
    refine x_goto (pc := 37) (tgt := 11) G dX11_end_37 rfl ?_
    refine x_iload4 (pc := 11) G dX11_end_11 ?_
    refine x_iconst (pc := 13) (v := 4) G dX11_end_13 ic_4 ?_
    refine x_icmp_ge (pc := 14) (tgt := 40) G dX11_end_14 rfl (fun q => absurd q (by decide)) (fun _ => ?_)
    refine x_iload2 (pc := 17) G dX11_end_17 ?_
    refine x_if_eq (pc := 18) (y := 0) (tgt := 40) G dX11_end_18 rfl (fun q => absurd q (by decide)) (fun _ => ?_)
    refine x_iload3 (pc := 21) G dX11_end_21 ?_
    refine x_aload0 (pc := 22) G dX11_end_22 ?_
    refine x_iconst (pc := 23) (v := 4) G dX11_end_23 ic_4 ?_
    refine x_iload1 (pc := 24) G dX11_end_24 ?_
    refine x_imul (pc := 25) G dX11_end_25 ?_
    refine x_iload4 (pc := 26) G dX11_end_26 ?_
    refine x_iadd (pc := 28) G dX11_end_28 ?_
    refine y_c1 (pc := 29) G (c_heldPieces hl hM h39) q_ml_X11_293 h_X11_heldPieces rfl ⟨Nat.le_of_ble_eq_true rfl, Nat.le_of_ble_eq_true rfl⟩ (Nat.le_of_ble_eq_true rfl) (Nat.le_refl _) (Nat.le_refl _) dX11_end_29 ?_
    refine x_iadd (pc := 32) G dX11_end_32 ?_
    refine x_istore3 (pc := 33) G dX11_end_33 (Nat.le_of_ble_eq_true rfl) rfl ?_
    refine x_iinc4 (pc := 34) (v := 4) G dX11_end_34 (by decide) (Nat.le_of_ble_eq_true rfl) rfl ?_
    refine x_goto (pc := 37) (tgt := 11) G dX11_end_37 rfl ?_
    refine x_iload4 (pc := 11) G dX11_end_11 ?_
    refine x_iconst (pc := 13) (v := 4) G dX11_end_13 ic_4 ?_
    refine x_icmp_ge (pc := 14) (tgt := 40) G dX11_end_14 rfl (fun _ => ?_) (fun q => absurd q (by decide))
    refine x_aload0 (pc := 40) G dX11_end_40 ?_
    refine x_iload2 (pc := 41) G dX11_end_41 ?_
    refine x_if_ne (pc := 42) (y := 0) (tgt := 49) G dX11_end_42 rfl (fun _ => ?_) (fun q => absurd q (by decide))
    refine x_aload0 (pc := 49) G dX11_end_49 ?_
    refine y_gA (pc := 50) G g_45 mG_17 dX11_end_50 ?_
    refine x_iload1 (pc := 53) G dX11_end_53 ?_
    refine y_iald (pc := 54) (v := (gI M 17 p1)) G hM a_17 ((hr _ c1).1) rfl dX11_end_54 ?_
    refine x_iconst (pc := 55) (v := 4) G dX11_end_55 ic_4 ?_
    refine x_icmp_ne (pc := 56) (tgt := 63) G dX11_end_56 rfl (fun c2 => ?_) (fun c2 => ?_)
    · refine x_iconst (pc := 63) (v := 2) G dX11_end_63 ic_2 ?_
      refine x_goto (pc := 64) (tgt := 68) G dX11_end_64 rfl ?_
      refine y_c1 (pc := 68) G (c_holdsN hl hM (by decide)) q_ml_X11_210 h_X11_holds rfl ⟨Nat.le_of_ble_eq_true rfl, Nat.le_of_ble_eq_true rfl⟩ (Nat.le_of_ble_eq_true rfl) (Nat.le_refl _) (Nat.le_refl _) dX11_end_68 ?_
      refine x_if_ne (pc := 71) (y := 0) (tgt := 76) G dX11_end_71 rfl (fun q => absurd q (by decide)) (fun _ => ?_)
      refine x_lconst (pc := 74) (v := 0) G dX11_end_74 lc_0 ?_
      exact x_lret (pc := 75) G B rfl dX11_end_75 ⟨by rw [f_end, if_pos c1, if_neg c2], by rw [f_end, if_pos c1, if_neg c2]⟩
    refine x_iload3 (pc := 59) G dX11_end_59 ?_
    refine x_if_le (pc := 60) (y := 0) (tgt := 67) G dX11_end_60 rfl (fun c3 => ?_) (fun c3 => ?_)
    · refine x_iconst (pc := 67) (v := 0) G dX11_end_67 ic_0 ?_
      refine y_c1 (pc := 68) G (c_holds0 hl hM) q_ml_X11_210 h_X11_holds rfl ⟨Nat.le_of_ble_eq_true rfl, Nat.le_of_ble_eq_true rfl⟩ (Nat.le_of_ble_eq_true rfl) (Nat.le_refl _) (Nat.le_refl _) dX11_end_68 ?_
      refine x_if_ne (pc := 71) (y := 0) (tgt := 76) G dX11_end_71 rfl (fun _ => ?_) (fun q => absurd q (by decide))
      refine x_aload0 (pc := 76) G dX11_end_76 ?_
      refine y_gA (pc := 77) G g_45 mG_17 dX11_end_77 ?_
      refine x_iload1 (pc := 80) G dX11_end_80 ?_
      refine x_iconst (pc := 81) (v := 5) G dX11_end_81 ic_5 ?_
      refine y_iast (pc := 82) G hM a_17 ((hr _ c1).1) dX11_end_82 ?_
      refine x_aload0 (pc := 83) G dX11_end_83 ?_
      refine x_iload1 (pc := 84) G dX11_end_84 ?_
      refine x_aload0 (pc := 85) G dX11_end_85 ?_
      refine y_gA (pc := 86) G g_51 mG_19 dX11_end_86 ?_
      refine x_iload1 (pc := 89) G dX11_end_89 ?_
      refine y_lald (pc := 90) (v := (gJ M 19 p1)) G hM a_19 ((hr _ c1).1) (gJ_rI.trans gJ_sI) dX11_end_90 ?_
      refine y_c2 (pc := 91) G (c_frees hl hM (hr _ c1).1 (RqOK.fr (hr _ c1))) q_ml_X11_274 h_X11_frees rfl ⟨Nat.le_of_ble_eq_true rfl, Nat.le_of_ble_eq_true rfl⟩ (Nat.le_of_ble_eq_true rfl) (Nat.le_refl _) (Nat.le_refl _) dX11_end_91 ?_
      exact x_lret (pc := 94) G B rfl dX11_end_94 ⟨by rw [f_end, if_pos c1, if_pos c2, if_pos c3], by rw [f_end, if_pos c1, if_pos c2, if_pos c3]⟩
    refine x_iconst (pc := 63) (v := 2) G dX11_end_63 ic_2 ?_
    refine x_goto (pc := 64) (tgt := 68) G dX11_end_64 rfl ?_
    refine y_c1 (pc := 68) G (c_holdsN hl hM (by decide)) q_ml_X11_210 h_X11_holds rfl ⟨Nat.le_of_ble_eq_true rfl, Nat.le_of_ble_eq_true rfl⟩ (Nat.le_of_ble_eq_true rfl) (Nat.le_refl _) (Nat.le_refl _) dX11_end_68 ?_
    refine x_if_ne (pc := 71) (y := 0) (tgt := 76) G dX11_end_71 rfl (fun q => absurd q (by decide)) (fun _ => ?_)
    refine x_lconst (pc := 74) (v := 0) G dX11_end_74 lc_0 ?_
    exact x_lret (pc := 75) G B rfl dX11_end_75 ⟨by rw [f_end, if_pos c1, if_pos c2, if_neg c3], by rw [f_end, if_pos c1, if_pos c2, if_neg c3]⟩
  refine x_istore2 (pc := 5) G dX11_end_5 (Nat.le_of_ble_eq_true rfl) rfl ?_
  refine x_iconst (pc := 6) (v := 0) G dX11_end_6 ic_0 ?_
  refine x_istore3 (pc := 7) G dX11_end_7 (Nat.le_of_ble_eq_true rfl) rfl ?_
  refine x_iconst (pc := 8) (v := 0) G dX11_end_8 ic_0 ?_
  refine x_istore4 (pc := 9) G dX11_end_9 (Nat.le_of_ble_eq_true rfl) rfl ?_
  refine x_iload4 (pc := 11) G dX11_end_11 ?_
  refine x_iconst (pc := 13) (v := 4) G dX11_end_13 ic_4 ?_
  refine x_icmp_ge (pc := 14) (tgt := 40) G dX11_end_14 rfl (fun q => absurd q (by decide)) (fun _ => ?_)
  refine x_iload2 (pc := 17) G dX11_end_17 ?_
  refine x_if_eq (pc := 18) (y := 0) (tgt := 40) G dX11_end_18 rfl (fun _ => ?_) (fun q => absurd q (by decide))
  refine x_aload0 (pc := 40) G dX11_end_40 ?_
  refine x_iload2 (pc := 41) G dX11_end_41 ?_
  refine x_if_ne (pc := 42) (y := 0) (tgt := 49) G dX11_end_42 rfl (fun q => absurd q (by decide)) (fun _ => ?_)
  refine x_iconst (pc := 45) (v := 1) G dX11_end_45 ic_1 ?_
  refine x_goto (pc := 46) (tgt := 68) G dX11_end_46 rfl ?_
  refine y_c1 (pc := 68) G (c_holdsN hl hM (by decide)) q_ml_X11_210 h_X11_holds rfl ⟨Nat.le_of_ble_eq_true rfl, Nat.le_of_ble_eq_true rfl⟩ (Nat.le_of_ble_eq_true rfl) (Nat.le_refl _) (Nat.le_refl _) dX11_end_68 ?_
  refine x_if_ne (pc := 71) (y := 0) (tgt := 76) G dX11_end_71 rfl (fun q => absurd q (by decide)) (fun _ => ?_)
  refine x_lconst (pc := 74) (v := 0) G dX11_end_74 lc_0 ?_
  exact x_lret (pc := 75) G B rfl dX11_end_75 ⟨by rw [f_end, if_neg c1], by rw [f_end, if_neg c1]⟩
