/-- a request's row, as far as the reference's places need it -/
def RqOK (M : MS) (r : Int32) : Prop := vp_in r 40 ∧ vp_in (gI M 15 r) 12 ∧ P_isCentre (gI M 16 r) ∧ LE (gI M 18 r) 4 ∧ (0 < gJ M 19 r → P_isYear (gI M 20 r)) ∧ (¬ gI M 24 r ≤ gI M 25 r → vp_in (12 * r + gI M 25 r) 480 ∧ vp_in (gI M 23 (12 * r + gI M 25 r)) 12) ∧ (¬ gI M 26 r = -1 → vp_in (gI M 26 r) 12)
theorem RqOK.fr {M : MS} {r : Int32} (h : RqOK M r) (hc : 0 < gJ M 19 r) : vp_in (f_at (gI M 16 r) (gI M 20 r) 1) 54 := vin_at h.2.2.1 (h.2.2.2.2.1 hc) (by decide)
/-- an invoice's row -/
def IvOK (M : MS) (v : Int32) : Prop := vp_in v 60 ∧ vp_in (gI M 40 v) 160 ∧ vp_in (gI M 40 v / 4) 40 ∧ RqOK M (gI M 40 v / 4) ∧ vp_in (gI M 21 (gI M 40 v / 4)) 6 ∧ vp_in (gI M 32 (gI M 21 (gI M 40 v / 4))) 3
theorem lt_of_nle {x y : Int32} (h : ¬ x ≤ y) : ¬ x ≤ y := h
theorem dX11_byTurn_0 : decode cX11_byTurn 0 = .ok (.aload_n 0, 1) := by decide +kernel
theorem dX11_byTurn_1 : decode cX11_byTurn 1 = .ok (.getfield 69, 3) := by decide +kernel
theorem dX11_byTurn_4 : decode cX11_byTurn 4 = .ok (.iload_n 1, 1) := by decide +kernel
theorem dX11_byTurn_5 : decode cX11_byTurn 5 = .ok (.iaload, 1) := by decide +kernel
theorem dX11_byTurn_6 : decode cX11_byTurn 6 = .ok (.aload_n 0, 1) := by decide +kernel
theorem dX11_byTurn_7 : decode cX11_byTurn 7 = .ok (.getfield 66, 3) := by decide +kernel
theorem dX11_byTurn_10 : decode cX11_byTurn 10 = .ok (.iload_n 1, 1) := by decide +kernel
theorem dX11_byTurn_11 : decode cX11_byTurn 11 = .ok (.iaload, 1) := by decide +kernel
theorem dX11_byTurn_12 : decode cX11_byTurn 12 = .ok (.if_icmp .ge 27, 3) := by decide +kernel
theorem dX11_byTurn_15 : decode cX11_byTurn 15 = .ok (.aload_n 0, 1) := by decide +kernel
theorem dX11_byTurn_16 : decode cX11_byTurn 16 = .ok (.aload_n 0, 1) := by decide +kernel
theorem dX11_byTurn_17 : decode cX11_byTurn 17 = .ok (.getfield 63, 3) := by decide +kernel
theorem dX11_byTurn_20 : decode cX11_byTurn 20 = .ok (.bipush 12, 2) := by decide +kernel
theorem dX11_byTurn_22 : decode cX11_byTurn 22 = .ok (.iload_n 1, 1) := by decide +kernel
theorem dX11_byTurn_23 : decode cX11_byTurn 23 = .ok (.imul, 1) := by decide +kernel
theorem dX11_byTurn_24 : decode cX11_byTurn 24 = .ok (.aload_n 0, 1) := by decide +kernel
theorem dX11_byTurn_25 : decode cX11_byTurn 25 = .ok (.getfield 69, 3) := by decide +kernel
theorem dX11_byTurn_28 : decode cX11_byTurn 28 = .ok (.iload_n 1, 1) := by decide +kernel
theorem dX11_byTurn_29 : decode cX11_byTurn 29 = .ok (.iaload, 1) := by decide +kernel
theorem dX11_byTurn_30 : decode cX11_byTurn 30 = .ok (.iadd, 1) := by decide +kernel
theorem dX11_byTurn_31 : decode cX11_byTurn 31 = .ok (.iaload, 1) := by decide +kernel
theorem dX11_byTurn_32 : decode cX11_byTurn 32 = .ok (.iload_n 1, 1) := by decide +kernel
theorem dX11_byTurn_33 : decode cX11_byTurn 33 = .ok (.invokevirtual 260, 3) := by decide +kernel
theorem dX11_byTurn_36 : decode cX11_byTurn 36 = .ok (.goto 4, 3) := by decide +kernel
theorem dX11_byTurn_39 : decode cX11_byTurn 39 = .ok (.iconst (-1), 1) := by decide +kernel
theorem dX11_byTurn_40 : decode cX11_byTurn 40 = .ok (.ireturn, 1) := by decide +kernel
def f_byTurn (p1 : Int32) (M : MS) : Int32 :=
    if (gI M 24 p1) ≤ (gI M 25 p1) then
      (-1)
    else
    (f_approver (gI M 23 ((12 * p1) + (gI M 25 p1))) p1 M)
abbrev rm_X11_byTurn : Room := { frames := 1, cells := 0, slots := 0, locals := 23 }
set_option maxRecDepth 100000 in
set_option maxHeartbeats 4000000 in
theorem c_byTurn {l : Launch} {k : KC} {mo : Nat} {ad : Nat → Nat} (hl : l.stackTraces = false) (hM : HM mo ad) {M : MS} {p1 : Int32} (hq : RqOK M p1) : CM l k mo ad yX11_byTurn (.code yX11_byTurn cX11_byTurn 2 (some .int)) rm_X11_byTurn [.int p1] M (some (.int (f_byTurn p1 M))) M := by
  refine MC.of 0 hl (by decide) (Nat.le_of_ble_eq_true rfl) ?_
  intro p e s m args below meth c A Q G B _ _
  show Wx p l e rm_X11_byTurn s m args below meth c k A 2 Q 0 0 0 [some (.ref mo), some (.int p1)] [] (mW k mo ad M)
  refine x_aload0 (pc := 0) G dX11_byTurn_0 ?_
  refine y_gA (pc := 1) G g_69 mG_25 dX11_byTurn_1 ?_
  refine x_iload1 (pc := 4) G dX11_byTurn_4 ?_
  refine y_iald (pc := 5) (v := (gI M 25 p1)) G hM a_25 (by first | exact hq.1 | exact (hq.2.2.2.2.2.1 (by assumption)).1) rfl dX11_byTurn_5 ?_
  refine x_aload0 (pc := 6) G dX11_byTurn_6 ?_
  refine y_gA (pc := 7) G g_66 mG_24 dX11_byTurn_7 ?_
  refine x_iload1 (pc := 10) G dX11_byTurn_10 ?_
  refine y_iald (pc := 11) (v := (gI M 24 p1)) G hM a_24 (by first | exact hq.1 | exact (hq.2.2.2.2.2.1 (by assumption)).1) rfl dX11_byTurn_11 ?_
  refine x_icmp_ge (pc := 12) (tgt := 39) G dX11_byTurn_12 rfl (fun c1 => ?_) (fun c1 => ?_)
  · refine x_iconst (pc := 39) (v := (-1)) G dX11_byTurn_39 ic_m1 ?_
    exact x_iret (pc := 40) G B rfl dX11_byTurn_40 ⟨by rw [f_byTurn, if_pos c1], rfl⟩
  refine x_aload0 (pc := 15) G dX11_byTurn_15 ?_
  refine x_aload0 (pc := 16) G dX11_byTurn_16 ?_
  refine y_gA (pc := 17) G g_63 mG_23 dX11_byTurn_17 ?_
  refine x_bipush (pc := 20) (v := 12) G dX11_byTurn_20 bp_12 ?_
  refine x_iload1 (pc := 22) G dX11_byTurn_22 ?_
  refine x_imul (pc := 23) G dX11_byTurn_23 ?_
  refine x_aload0 (pc := 24) G dX11_byTurn_24 ?_
  refine y_gA (pc := 25) G g_69 mG_25 dX11_byTurn_25 ?_
  refine x_iload1 (pc := 28) G dX11_byTurn_28 ?_
  refine y_iald (pc := 29) (v := (gI M 25 p1)) G hM a_25 (by first | exact hq.1 | exact (hq.2.2.2.2.2.1 (by assumption)).1) rfl dX11_byTurn_29 ?_
  refine x_iadd (pc := 30) G dX11_byTurn_30 ?_
  refine y_iald (pc := 31) (v := (gI M 23 ((12 * p1) + (gI M 25 p1)))) G hM a_23 (by first | exact hq.1 | exact (hq.2.2.2.2.2.1 (by assumption)).1) rfl dX11_byTurn_31 ?_
  refine x_iload1 (pc := 32) G dX11_byTurn_32 ?_
  refine y_c2 (pc := 33) G (c_approver hl hM (hq.2.2.2.2.2.1 (by assumption)).2 hq.1) q_ml_X11_260 h_X11_approver rfl ⟨Nat.le_of_ble_eq_true rfl, Nat.le_of_ble_eq_true rfl⟩ (Nat.le_of_ble_eq_true rfl) (Nat.le_refl _) (Nat.le_refl _) dX11_byTurn_33 ?_
  refine x_goto (pc := 36) (tgt := 40) G dX11_byTurn_36 rfl ?_
  exact x_iret (pc := 40) G B rfl dX11_byTurn_40 ⟨by rw [f_byTurn, if_neg c1], rfl⟩
theorem dX11_byController_0 : decode cX11_byController 0 = .ok (.aload_n 0, 1) := by decide +kernel
theorem dX11_byController_1 : decode cX11_byController 1 = .ok (.getfield 72, 3) := by decide +kernel
theorem dX11_byController_4 : decode cX11_byController 4 = .ok (.iload_n 1, 1) := by decide +kernel
theorem dX11_byController_5 : decode cX11_byController 5 = .ok (.iaload, 1) := by decide +kernel
theorem dX11_byController_6 : decode cX11_byController 6 = .ok (.iconst (-1), 1) := by decide +kernel
theorem dX11_byController_7 : decode cX11_byController 7 = .ok (.if_icmp .ne 7, 3) := by decide +kernel
theorem dX11_byController_10 : decode cX11_byController 10 = .ok (.iconst (-1), 1) := by decide +kernel
theorem dX11_byController_11 : decode cX11_byController 11 = .ok (.goto 14, 3) := by decide +kernel
theorem dX11_byController_14 : decode cX11_byController 14 = .ok (.aload_n 0, 1) := by decide +kernel
theorem dX11_byController_15 : decode cX11_byController 15 = .ok (.aload_n 0, 1) := by decide +kernel
theorem dX11_byController_16 : decode cX11_byController 16 = .ok (.getfield 72, 3) := by decide +kernel
theorem dX11_byController_19 : decode cX11_byController 19 = .ok (.iload_n 1, 1) := by decide +kernel
theorem dX11_byController_20 : decode cX11_byController 20 = .ok (.iaload, 1) := by decide +kernel
theorem dX11_byController_21 : decode cX11_byController 21 = .ok (.iload_n 1, 1) := by decide +kernel
theorem dX11_byController_22 : decode cX11_byController 22 = .ok (.invokevirtual 260, 3) := by decide +kernel
theorem dX11_byController_25 : decode cX11_byController 25 = .ok (.ireturn, 1) := by decide +kernel
def f_byController (p1 : Int32) (M : MS) : Int32 :=
    if (gI M 26 p1) = (-1) then
      (-1)
    else
    (f_approver (gI M 26 p1) p1 M)
abbrev rm_X11_byController : Room := { frames := 1, cells := 0, slots := 0, locals := 23 }
set_option maxRecDepth 100000 in
set_option maxHeartbeats 4000000 in
theorem c_byController {l : Launch} {k : KC} {mo : Nat} {ad : Nat → Nat} (hl : l.stackTraces = false) (hM : HM mo ad) {M : MS} {p1 : Int32} (hq : RqOK M p1) : CM l k mo ad yX11_byController (.code yX11_byController cX11_byController 2 (some .int)) rm_X11_byController [.int p1] M (some (.int (f_byController p1 M))) M := by
  refine MC.of 0 hl (by decide) (Nat.le_of_ble_eq_true rfl) ?_
  intro p e s m args below meth c A Q G B _ _
  show Wx p l e rm_X11_byController s m args below meth c k A 2 Q 0 0 0 [some (.ref mo), some (.int p1)] [] (mW k mo ad M)
  refine x_aload0 (pc := 0) G dX11_byController_0 ?_
  refine y_gA (pc := 1) G g_72 mG_26 dX11_byController_1 ?_
  refine x_iload1 (pc := 4) G dX11_byController_4 ?_
  refine y_iald (pc := 5) (v := (gI M 26 p1)) G hM a_26 (by exact hq.1) rfl dX11_byController_5 ?_
  refine x_iconst (pc := 6) (v := (-1)) G dX11_byController_6 ic_m1 ?_
  refine x_icmp_ne (pc := 7) (tgt := 14) G dX11_byController_7 rfl (fun c1 => ?_) (fun c1 => ?_)
  · refine x_aload0 (pc := 14) G dX11_byController_14 ?_
    refine x_aload0 (pc := 15) G dX11_byController_15 ?_
    refine y_gA (pc := 16) G g_72 mG_26 dX11_byController_16 ?_
    refine x_iload1 (pc := 19) G dX11_byController_19 ?_
    refine y_iald (pc := 20) (v := (gI M 26 p1)) G hM a_26 (by exact hq.1) rfl dX11_byController_20 ?_
    refine x_iload1 (pc := 21) G dX11_byController_21 ?_
    refine y_c2 (pc := 22) G (c_approver hl hM (hq.2.2.2.2.2.2 (by assumption)) hq.1) q_ml_X11_260 h_X11_approver rfl ⟨Nat.le_of_ble_eq_true rfl, Nat.le_of_ble_eq_true rfl⟩ (Nat.le_of_ble_eq_true rfl) (Nat.le_refl _) (Nat.le_refl _) dX11_byController_22 ?_
    exact x_iret (pc := 25) G B rfl dX11_byController_25 ⟨by rw [f_byController, if_neg c1], rfl⟩
  refine x_iconst (pc := 10) (v := (-1)) G dX11_byController_10 ic_m1 ?_
  refine x_goto (pc := 11) (tgt := 25) G dX11_byController_11 rfl ?_
  exact x_iret (pc := 25) G B rfl dX11_byController_25 ⟨by rw [f_byController, if_pos c1], rfl⟩
theorem dX11_can_0 : decode cX11_can 0 = .ok (.aload_n 0, 1) := by decide +kernel
theorem dX11_can_1 : decode cX11_can 1 = .ok (.getfield 45, 3) := by decide +kernel
theorem dX11_can_4 : decode cX11_can 4 = .ok (.iload_n 1, 1) := by decide +kernel
theorem dX11_can_5 : decode cX11_can 5 = .ok (.iaload, 1) := by decide +kernel
theorem dX11_can_6 : decode cX11_can 6 = .ok (.iconst 1, 1) := by decide +kernel
theorem dX11_can_7 : decode cX11_can 7 = .ok (.if_icmp .ne 25, 3) := by decide +kernel
theorem dX11_can_10 : decode cX11_can 10 = .ok (.aload_n 0, 1) := by decide +kernel
theorem dX11_can_11 : decode cX11_can 11 = .ok (.iload_n 1, 1) := by decide +kernel
theorem dX11_can_12 : decode cX11_can 12 = .ok (.invokevirtual 264, 3) := by decide +kernel
theorem dX11_can_15 : decode cX11_can 15 = .ok (.iload_n 2, 1) := by decide +kernel
theorem dX11_can_16 : decode cX11_can 16 = .ok (.if_icmp .eq 12, 3) := by decide +kernel
theorem dX11_can_19 : decode cX11_can 19 = .ok (.aload_n 0, 1) := by decide +kernel
theorem dX11_can_20 : decode cX11_can 20 = .ok (.iload_n 1, 1) := by decide +kernel
theorem dX11_can_21 : decode cX11_can 21 = .ok (.invokevirtual 267, 3) := by decide +kernel
theorem dX11_can_24 : decode cX11_can 24 = .ok (.iload_n 2, 1) := by decide +kernel
theorem dX11_can_25 : decode cX11_can 25 = .ok (.if_icmp .ne 7, 3) := by decide +kernel
theorem dX11_can_28 : decode cX11_can 28 = .ok (.iconst 1, 1) := by decide +kernel
theorem dX11_can_29 : decode cX11_can 29 = .ok (.goto 4, 3) := by decide +kernel
theorem dX11_can_32 : decode cX11_can 32 = .ok (.iconst 0, 1) := by decide +kernel
theorem dX11_can_33 : decode cX11_can 33 = .ok (.ireturn, 1) := by decide +kernel
def f_can (p1 : Int32) (p2 : Int32) (M : MS) : Int32 :=
    if (gI M 17 p1) = 1 then
      if (f_byTurn p1 M) = p2 then
        1
      else
      if (f_byController p1 M) = p2 then
        1
      else
      0
    else
    0
abbrev rm_X11_can : Room := { frames := 2, cells := 0, slots := 0, locals := 44 }
set_option maxRecDepth 100000 in
set_option maxHeartbeats 4000000 in
theorem c_can {l : Launch} {k : KC} {mo : Nat} {ad : Nat → Nat} (hl : l.stackTraces = false) (hM : HM mo ad) {M : MS} {p1 : Int32} {p2 : Int32} (hq : RqOK M p1) : CM l k mo ad yX11_can (.code yX11_can cX11_can 3 (some .boolean)) rm_X11_can [.int p1, .int p2] M (some (.int (f_can p1 p2 M))) M := by
  refine MC.of 0 hl (by decide) (Nat.le_of_ble_eq_true rfl) ?_
  intro p e s m args below meth c A Q G B _ _
  show Wx p l e rm_X11_can s m args below meth c k A 3 Q 0 0 0 [some (.ref mo), some (.int p1), some (.int p2)] [] (mW k mo ad M)
  refine x_aload0 (pc := 0) G dX11_can_0 ?_
  refine y_gA (pc := 1) G g_45 mG_17 dX11_can_1 ?_
  refine x_iload1 (pc := 4) G dX11_can_4 ?_
  refine y_iald (pc := 5) (v := (gI M 17 p1)) G hM a_17 (by exact hq.1) rfl dX11_can_5 ?_
  refine x_iconst (pc := 6) (v := 1) G dX11_can_6 ic_1 ?_
  refine x_icmp_ne (pc := 7) (tgt := 32) G dX11_can_7 rfl (fun c1 => ?_) (fun c1 => ?_)
  · refine x_iconst (pc := 32) (v := 0) G dX11_can_32 ic_0 ?_
    exact x_zret (pc := 33) G B rfl (by decide) dX11_can_33 ⟨by rw [f_can, if_neg c1], rfl⟩
  refine x_aload0 (pc := 10) G dX11_can_10 ?_
  refine x_iload1 (pc := 11) G dX11_can_11 ?_
  refine y_c1 (pc := 12) G (c_byTurn hl hM hq) q_ml_X11_264 h_X11_byTurn rfl ⟨Nat.le_of_ble_eq_true rfl, Nat.le_of_ble_eq_true rfl⟩ (Nat.le_of_ble_eq_true rfl) (Nat.le_refl _) (Nat.le_refl _) dX11_can_12 ?_
  refine x_iload2 (pc := 15) G dX11_can_15 ?_
  refine x_icmp_eq (pc := 16) (tgt := 28) G dX11_can_16 rfl (fun c2 => ?_) (fun c2 => ?_)
  · refine x_iconst (pc := 28) (v := 1) G dX11_can_28 ic_1 ?_
    refine x_goto (pc := 29) (tgt := 33) G dX11_can_29 rfl ?_
    exact x_zret (pc := 33) G B rfl (by decide) dX11_can_33 ⟨by rw [f_can, if_pos c1, if_pos c2], rfl⟩
  refine x_aload0 (pc := 19) G dX11_can_19 ?_
  refine x_iload1 (pc := 20) G dX11_can_20 ?_
  refine y_c1 (pc := 21) G (c_byController hl hM hq) q_ml_X11_267 h_X11_byController rfl ⟨Nat.le_of_ble_eq_true rfl, Nat.le_of_ble_eq_true rfl⟩ (Nat.le_of_ble_eq_true rfl) (Nat.le_refl _) (Nat.le_refl _) dX11_can_21 ?_
  refine x_iload2 (pc := 24) G dX11_can_24 ?_
  refine x_icmp_ne (pc := 25) (tgt := 32) G dX11_can_25 rfl (fun c3 => ?_) (fun c3 => ?_)
  · refine x_iconst (pc := 32) (v := 0) G dX11_can_32 ic_0 ?_
    exact x_zret (pc := 33) G B rfl (by decide) dX11_can_33 ⟨by rw [f_can, if_pos c1, if_neg c2, if_neg c3], rfl⟩
  refine x_iconst (pc := 28) (v := 1) G dX11_can_28 ic_1 ?_
  refine x_goto (pc := 29) (tgt := 33) G dX11_can_29 rfl ?_
  exact x_zret (pc := 33) G B rfl (by decide) dX11_can_33 ⟨by rw [f_can, if_pos c1, if_neg c2, if_pos c3], rfl⟩
abbrev P_can (p1 : Int32) (p2 : Int32) (M : MS) : Prop := gI M 17 p1 = 1 ∧ (f_byTurn p1 M = p2 ∨ f_byController p1 M = p2)
theorem v_can {p1 : Int32} {p2 : Int32} {M : MS} : f_can p1 p2 M = if P_can p1 p2 M then 1 else 0 := by unfold f_can P_can; by_cases h1 : gI M 17 p1 = 1 <;> by_cases h2 : f_byTurn p1 M = p2 <;> by_cases h3 : f_byController p1 M = p2 <;> simp [h1, h2, h3]
theorem b_can {l : Launch} {k : KC} {mo : Nat} {ad : Nat → Nat} (hl : l.stackTraces = false) (hM : HM mo ad) {M : MS} {p1 : Int32} {p2 : Int32} (hq : RqOK M p1) : (P_can p1 p2 M → CM l k mo ad yX11_can (.code yX11_can cX11_can 3 (some .boolean)) rm_X11_can [.int p1, .int p2] M (some (.int 1)) M) ∧ (¬ P_can p1 p2 M → CM l k mo ad yX11_can (.code yX11_can cX11_can 3 (some .boolean)) rm_X11_can [.int p1, .int p2] M (some (.int 0)) M) := MC.bool (by rw [← v_can]; exact c_can hl hM hq)
theorem dX11_refuse_0 : decode cX11_refuse 0 = .ok (.aload_n 0, 1) := by decide +kernel
theorem dX11_refuse_1 : decode cX11_refuse 1 = .ok (.iload_n 1, 1) := by decide +kernel
theorem dX11_refuse_2 : decode cX11_refuse 2 = .ok (.invokevirtual 188, 3) := by decide +kernel
theorem dX11_refuse_5 : decode cX11_refuse 5 = .ok (.ifCond .eq 15, 3) := by decide +kernel
theorem dX11_refuse_8 : decode cX11_refuse 8 = .ok (.aload_n 0, 1) := by decide +kernel
theorem dX11_refuse_9 : decode cX11_refuse 9 = .ok (.iload_n 2, 1) := by decide +kernel
theorem dX11_refuse_10 : decode cX11_refuse 10 = .ok (.invokevirtual 206, 3) := by decide +kernel
theorem dX11_refuse_13 : decode cX11_refuse 13 = .ok (.ifCond .eq 7, 3) := by decide +kernel
theorem dX11_refuse_16 : decode cX11_refuse 16 = .ok (.iconst 1, 1) := by decide +kernel
theorem dX11_refuse_17 : decode cX11_refuse 17 = .ok (.goto 4, 3) := by decide +kernel
theorem dX11_refuse_20 : decode cX11_refuse 20 = .ok (.iconst 0, 1) := by decide +kernel
theorem dX11_refuse_21 : decode cX11_refuse 21 = .ok (.istore_n 3, 1) := by decide +kernel
theorem dX11_refuse_22 : decode cX11_refuse 22 = .ok (.aload_n 0, 1) := by decide +kernel
theorem dX11_refuse_23 : decode cX11_refuse 23 = .ok (.iload_n 3, 1) := by decide +kernel
theorem dX11_refuse_24 : decode cX11_refuse 24 = .ok (.ifCond .ne 7, 3) := by decide +kernel
theorem dX11_refuse_27 : decode cX11_refuse 27 = .ok (.iconst 1, 1) := by decide +kernel
theorem dX11_refuse_28 : decode cX11_refuse 28 = .ok (.goto 17, 3) := by decide +kernel
theorem dX11_refuse_31 : decode cX11_refuse 31 = .ok (.aload_n 0, 1) := by decide +kernel
theorem dX11_refuse_32 : decode cX11_refuse 32 = .ok (.iload_n 1, 1) := by decide +kernel
theorem dX11_refuse_33 : decode cX11_refuse 33 = .ok (.iload_n 2, 1) := by decide +kernel
theorem dX11_refuse_34 : decode cX11_refuse 34 = .ok (.invokevirtual 270, 3) := by decide +kernel
theorem dX11_refuse_37 : decode cX11_refuse 37 = .ok (.ifCond .eq 7, 3) := by decide +kernel
theorem dX11_refuse_40 : decode cX11_refuse 40 = .ok (.iconst 0, 1) := by decide +kernel
theorem dX11_refuse_41 : decode cX11_refuse 41 = .ok (.goto 4, 3) := by decide +kernel
theorem dX11_refuse_44 : decode cX11_refuse 44 = .ok (.iconst 2, 1) := by decide +kernel
theorem dX11_refuse_45 : decode cX11_refuse 45 = .ok (.invokevirtual 210, 3) := by decide +kernel
theorem dX11_refuse_48 : decode cX11_refuse 48 = .ok (.ifCond .eq 23, 3) := by decide +kernel
theorem dX11_refuse_51 : decode cX11_refuse 51 = .ok (.aload_n 0, 1) := by decide +kernel
theorem dX11_refuse_52 : decode cX11_refuse 52 = .ok (.getfield 45, 3) := by decide +kernel
theorem dX11_refuse_55 : decode cX11_refuse 55 = .ok (.iload_n 1, 1) := by decide +kernel
theorem dX11_refuse_56 : decode cX11_refuse 56 = .ok (.iconst 3, 1) := by decide +kernel
theorem dX11_refuse_57 : decode cX11_refuse 57 = .ok (.iastore, 1) := by decide +kernel
theorem dX11_refuse_58 : decode cX11_refuse 58 = .ok (.aload_n 0, 1) := by decide +kernel
theorem dX11_refuse_59 : decode cX11_refuse 59 = .ok (.iload_n 1, 1) := by decide +kernel
theorem dX11_refuse_60 : decode cX11_refuse 60 = .ok (.aload_n 0, 1) := by decide +kernel
theorem dX11_refuse_61 : decode cX11_refuse 61 = .ok (.getfield 51, 3) := by decide +kernel
theorem dX11_refuse_64 : decode cX11_refuse 64 = .ok (.iload_n 1, 1) := by decide +kernel
theorem dX11_refuse_65 : decode cX11_refuse 65 = .ok (.laload, 1) := by decide +kernel
theorem dX11_refuse_66 : decode cX11_refuse 66 = .ok (.invokevirtual 274, 3) := by decide +kernel
theorem dX11_refuse_69 : decode cX11_refuse 69 = .ok (.lstore 4, 2) := by decide +kernel
theorem dX11_refuse_71 : decode cX11_refuse 71 = .ok (.return_, 1) := by decide +kernel
def f_refuse (p1 : Int32) (p2 : Int32) (M : MS) : MS :=
    if P_isRequest p1 M then
      if P_isPerson p2 M then
        if P_can p1 p2 M then
          (f_frees p1 (gJ M 19 p1) (rI (sI M 0 0) 17 p1 3)).2
        else
        (sI M 0 2)
      else
      (sI M 0 1)
    else
    (sI M 0 1)
abbrev rm_X11_refuse : Room := { frames := 3, cells := 0, slots := 0, locals := 70 }
set_option maxRecDepth 100000 in
set_option maxHeartbeats 4000000 in
theorem c_refuse {l : Launch} {k : KC} {mo : Nat} {ad : Nat → Nat} (hl : l.stackTraces = false) (hM : HM mo ad) {M : MS} {p1 : Int32} {p2 : Int32} (hr : ∀ r, P_isRequest r M → RqOK M r) : CM l k mo ad yX11_refuse (.code yX11_refuse cX11_refuse 6 none) rm_X11_refuse [.int p1, .int p2] M none (f_refuse p1 p2 M) := by
  refine MC.of 3 hl (by decide) (Nat.le_of_ble_eq_true rfl) ?_
  intro p e s m args below meth c A Q G B _ _
  show Wx p l e rm_X11_refuse s m args below meth c k A 6 Q 0 0 0 [some (.ref mo), some (.int p1), some (.int p2), none, none, none] [] (mW k mo ad M)
  refine x_aload0 (pc := 0) G dX11_refuse_0 ?_
  refine x_iload1 (pc := 1) G dX11_refuse_1 ?_
  refine y_cb1 (pc := 2) G (b_isRequest hl hM ) q_ml_X11_188 h_X11_isRequest rfl ⟨Nat.le_of_ble_eq_true rfl, Nat.le_of_ble_eq_true rfl⟩ (Nat.le_of_ble_eq_true rfl) (Nat.le_refl _) (Nat.le_refl _) dX11_refuse_2 (fun c1 => ?_) (fun c1 => ?_)
  · refine x_if_eq (pc := 5) (y := 0) (tgt := 20) G dX11_refuse_5 rfl (fun q => absurd q (by decide)) (fun _ => ?_)
    refine x_aload0 (pc := 8) G dX11_refuse_8 ?_
    refine x_iload2 (pc := 9) G dX11_refuse_9 ?_
    refine y_cb1 (pc := 10) G (b_isPerson hl hM ) q_ml_X11_206 h_X11_isPerson rfl ⟨Nat.le_of_ble_eq_true rfl, Nat.le_of_ble_eq_true rfl⟩ (Nat.le_of_ble_eq_true rfl) (Nat.le_refl _) (Nat.le_refl _) dX11_refuse_10 (fun c2 => ?_) (fun c2 => ?_)
    · refine x_if_eq (pc := 13) (y := 0) (tgt := 20) G dX11_refuse_13 rfl (fun q => absurd q (by decide)) (fun _ => ?_)
      refine x_iconst (pc := 16) (v := 1) G dX11_refuse_16 ic_1 ?_
      refine x_goto (pc := 17) (tgt := 21) G dX11_refuse_17 rfl ?_
      refine x_istore3 (pc := 21) G dX11_refuse_21 (Nat.le_of_ble_eq_true rfl) rfl ?_
      refine x_aload0 (pc := 22) G dX11_refuse_22 ?_
      refine x_iload3 (pc := 23) G dX11_refuse_23 ?_
      refine x_if_ne (pc := 24) (y := 0) (tgt := 31) G dX11_refuse_24 rfl (fun _ => ?_) (fun q => absurd q (by decide))
      refine x_aload0 (pc := 31) G dX11_refuse_31 ?_
      refine x_iload1 (pc := 32) G dX11_refuse_32 ?_
      refine x_iload2 (pc := 33) G dX11_refuse_33 ?_
      refine y_cb2 (pc := 34) G (b_can hl hM (hr _ (by assumption))) q_ml_X11_270 h_X11_can rfl ⟨Nat.le_of_ble_eq_true rfl, Nat.le_of_ble_eq_true rfl⟩ (Nat.le_of_ble_eq_true rfl) (Nat.le_refl _) (Nat.le_refl _) dX11_refuse_34 (fun c3 => ?_) (fun c3 => ?_)
      · refine x_if_eq (pc := 37) (y := 0) (tgt := 44) G dX11_refuse_37 rfl (fun q => absurd q (by decide)) (fun _ => ?_)
        refine x_iconst (pc := 40) (v := 0) G dX11_refuse_40 ic_0 ?_
        refine x_goto (pc := 41) (tgt := 45) G dX11_refuse_41 rfl ?_
        refine y_c1 (pc := 45) G (c_holds0 hl hM) q_ml_X11_210 h_X11_holds rfl ⟨Nat.le_of_ble_eq_true rfl, Nat.le_of_ble_eq_true rfl⟩ (Nat.le_of_ble_eq_true rfl) (Nat.le_refl _) (Nat.le_refl _) dX11_refuse_45 ?_
        refine x_if_eq (pc := 48) (y := 0) (tgt := 71) G dX11_refuse_48 rfl (fun q => absurd q (by decide)) (fun _ => ?_)
        refine x_aload0 (pc := 51) G dX11_refuse_51 ?_
        refine y_gA (pc := 52) G g_45 mG_17 dX11_refuse_52 ?_
        refine x_iload1 (pc := 55) G dX11_refuse_55 ?_
        refine x_iconst (pc := 56) (v := 3) G dX11_refuse_56 ic_3 ?_
        refine y_iast (pc := 57) G hM a_17 (by exact (hr _ (by assumption)).1) dX11_refuse_57 ?_
        refine x_aload0 (pc := 58) G dX11_refuse_58 ?_
        refine x_iload1 (pc := 59) G dX11_refuse_59 ?_
        refine x_aload0 (pc := 60) G dX11_refuse_60 ?_
        refine y_gA (pc := 61) G g_51 mG_19 dX11_refuse_61 ?_
        refine x_iload1 (pc := 64) G dX11_refuse_64 ?_
        refine y_lald (pc := 65) (v := (gJ M 19 p1)) G hM a_19 (by exact (hr _ (by assumption)).1) (gJ_rI.trans gJ_sI) dX11_refuse_65 ?_
        refine y_c2 (pc := 66) G (c_frees hl hM (hr _ (by assumption)).1 (RqOK.fr (hr _ (by assumption)))) q_ml_X11_274 h_X11_frees rfl ⟨Nat.le_of_ble_eq_true rfl, Nat.le_of_ble_eq_true rfl⟩ (Nat.le_of_ble_eq_true rfl) (Nat.le_refl _) (Nat.le_refl _) dX11_refuse_66 ?_
        refine x_lstore4 (pc := 69) G dX11_refuse_69 (Nat.le_of_ble_eq_true rfl) rfl ?_
        exact x_vret (pc := 71) G B rfl dX11_refuse_71 ⟨rfl, by rw [f_refuse, if_pos c1, if_pos c2, if_pos c3]⟩
      refine x_if_eq (pc := 37) (y := 0) (tgt := 44) G dX11_refuse_37 rfl (fun _ => ?_) (fun q => absurd q (by decide))
      refine x_iconst (pc := 44) (v := 2) G dX11_refuse_44 ic_2 ?_
      refine y_c1 (pc := 45) G (c_holdsN hl hM (by decide)) q_ml_X11_210 h_X11_holds rfl ⟨Nat.le_of_ble_eq_true rfl, Nat.le_of_ble_eq_true rfl⟩ (Nat.le_of_ble_eq_true rfl) (Nat.le_refl _) (Nat.le_refl _) dX11_refuse_45 ?_
      refine x_if_eq (pc := 48) (y := 0) (tgt := 71) G dX11_refuse_48 rfl (fun _ => ?_) (fun q => absurd q (by decide))
      exact x_vret (pc := 71) G B rfl dX11_refuse_71 ⟨rfl, by rw [f_refuse, if_pos c1, if_pos c2, if_neg c3]⟩
    refine x_if_eq (pc := 13) (y := 0) (tgt := 20) G dX11_refuse_13 rfl (fun _ => ?_) (fun q => absurd q (by decide))
    refine x_iconst (pc := 20) (v := 0) G dX11_refuse_20 ic_0 ?_
    refine x_istore3 (pc := 21) G dX11_refuse_21 (Nat.le_of_ble_eq_true rfl) rfl ?_
    refine x_aload0 (pc := 22) G dX11_refuse_22 ?_
    refine x_iload3 (pc := 23) G dX11_refuse_23 ?_
    refine x_if_ne (pc := 24) (y := 0) (tgt := 31) G dX11_refuse_24 rfl (fun q => absurd q (by decide)) (fun _ => ?_)
    refine x_iconst (pc := 27) (v := 1) G dX11_refuse_27 ic_1 ?_
    refine x_goto (pc := 28) (tgt := 45) G dX11_refuse_28 rfl ?_
    refine y_c1 (pc := 45) G (c_holdsN hl hM (by decide)) q_ml_X11_210 h_X11_holds rfl ⟨Nat.le_of_ble_eq_true rfl, Nat.le_of_ble_eq_true rfl⟩ (Nat.le_of_ble_eq_true rfl) (Nat.le_refl _) (Nat.le_refl _) dX11_refuse_45 ?_
    refine x_if_eq (pc := 48) (y := 0) (tgt := 71) G dX11_refuse_48 rfl (fun _ => ?_) (fun q => absurd q (by decide))
    exact x_vret (pc := 71) G B rfl dX11_refuse_71 ⟨rfl, by rw [f_refuse, if_pos c1, if_neg c2]⟩
  refine x_if_eq (pc := 5) (y := 0) (tgt := 20) G dX11_refuse_5 rfl (fun _ => ?_) (fun q => absurd q (by decide))
  refine x_iconst (pc := 20) (v := 0) G dX11_refuse_20 ic_0 ?_
  refine x_istore3 (pc := 21) G dX11_refuse_21 (Nat.le_of_ble_eq_true rfl) rfl ?_
  refine x_aload0 (pc := 22) G dX11_refuse_22 ?_
  refine x_iload3 (pc := 23) G dX11_refuse_23 ?_
  refine x_if_ne (pc := 24) (y := 0) (tgt := 31) G dX11_refuse_24 rfl (fun q => absurd q (by decide)) (fun _ => ?_)
  refine x_iconst (pc := 27) (v := 1) G dX11_refuse_27 ic_1 ?_
  refine x_goto (pc := 28) (tgt := 45) G dX11_refuse_28 rfl ?_
  refine y_c1 (pc := 45) G (c_holdsN hl hM (by decide)) q_ml_X11_210 h_X11_holds rfl ⟨Nat.le_of_ble_eq_true rfl, Nat.le_of_ble_eq_true rfl⟩ (Nat.le_of_ble_eq_true rfl) (Nat.le_refl _) (Nat.le_refl _) dX11_refuse_45 ?_
  refine x_if_eq (pc := 48) (y := 0) (tgt := 71) G dX11_refuse_48 rfl (fun _ => ?_) (fun q => absurd q (by decide))
  exact x_vret (pc := 71) G B rfl dX11_refuse_71 ⟨rfl, by rw [f_refuse, if_neg c1]⟩
theorem dX11_isLine_0 : decode cX11_isLine 0 = .ok (.aload_n 0, 1) := by decide +kernel
theorem dX11_isLine_1 : decode cX11_isLine 1 = .ok (.iload_n 1, 1) := by decide +kernel
theorem dX11_isLine_2 : decode cX11_isLine 2 = .ok (.invokevirtual 188, 3) := by decide +kernel
theorem dX11_isLine_5 : decode cX11_isLine 5 = .ok (.ifCond .eq 23, 3) := by decide +kernel
theorem dX11_isLine_8 : decode cX11_isLine 8 = .ok (.iload_n 2, 1) := by decide +kernel
theorem dX11_isLine_9 : decode cX11_isLine 9 = .ok (.iconst 0, 1) := by decide +kernel
theorem dX11_isLine_10 : decode cX11_isLine 10 = .ok (.aload_n 0, 1) := by decide +kernel
theorem dX11_isLine_11 : decode cX11_isLine 11 = .ok (.getfield 48, 3) := by decide +kernel
theorem dX11_isLine_14 : decode cX11_isLine 14 = .ok (.iload_n 1, 1) := by decide +kernel
theorem dX11_isLine_15 : decode cX11_isLine 15 = .ok (.iaload, 1) := by decide +kernel
theorem dX11_isLine_16 : decode cX11_isLine 16 = .ok (.iconst 1, 1) := by decide +kernel
theorem dX11_isLine_17 : decode cX11_isLine 17 = .ok (.isub, 1) := by decide +kernel
theorem dX11_isLine_18 : decode cX11_isLine 18 = .ok (.invokestatic 181, 3) := by decide +kernel
theorem dX11_isLine_21 : decode cX11_isLine 21 = .ok (.ifCond .eq 7, 3) := by decide +kernel
theorem dX11_isLine_24 : decode cX11_isLine 24 = .ok (.iconst 1, 1) := by decide +kernel
theorem dX11_isLine_25 : decode cX11_isLine 25 = .ok (.goto 4, 3) := by decide +kernel
theorem dX11_isLine_28 : decode cX11_isLine 28 = .ok (.iconst 0, 1) := by decide +kernel
theorem dX11_isLine_29 : decode cX11_isLine 29 = .ok (.ireturn, 1) := by decide +kernel
def f_isLine (p1 : Int32) (p2 : Int32) (M : MS) : Int32 :=
    if P_isRequest p1 M then
      if P_in p2 0 ((gI M 18 p1) - 1) then
        1
      else
      0
    else
    0
abbrev rm_X11_isLine : Room := { frames := 2, cells := 0, slots := 0, locals := 43 }
set_option maxRecDepth 100000 in
set_option maxHeartbeats 4000000 in
theorem c_isLine {l : Launch} {k : KC} {mo : Nat} {ad : Nat → Nat} (hl : l.stackTraces = false) (hM : HM mo ad) {M : MS} {p1 : Int32} {p2 : Int32} (hr : P_isRequest p1 M → vp_in p1 40) : CM l k mo ad yX11_isLine (.code yX11_isLine cX11_isLine 3 (some .boolean)) rm_X11_isLine [.int p1, .int p2] M (some (.int (f_isLine p1 p2 M))) M := by
  refine MC.of 0 hl (by decide) (Nat.le_of_ble_eq_true rfl) ?_
  intro p e s m args below meth c A Q G B _ _
  show Wx p l e rm_X11_isLine s m args below meth c k A 3 Q 0 0 0 [some (.ref mo), some (.int p1), some (.int p2)] [] (mW k mo ad M)
  refine x_aload0 (pc := 0) G dX11_isLine_0 ?_
  refine x_iload1 (pc := 1) G dX11_isLine_1 ?_
  refine y_cb1 (pc := 2) G (b_isRequest hl hM ) q_ml_X11_188 h_X11_isRequest rfl ⟨Nat.le_of_ble_eq_true rfl, Nat.le_of_ble_eq_true rfl⟩ (Nat.le_of_ble_eq_true rfl) (Nat.le_refl _) (Nat.le_refl _) dX11_isLine_2 (fun c1 => ?_) (fun c1 => ?_)
  · refine x_if_eq (pc := 5) (y := 0) (tgt := 28) G dX11_isLine_5 rfl (fun q => absurd q (by decide)) (fun _ => ?_)
    refine x_iload2 (pc := 8) G dX11_isLine_8 ?_
    refine x_iconst (pc := 9) (v := 0) G dX11_isLine_9 ic_0 ?_
    refine x_aload0 (pc := 10) G dX11_isLine_10 ?_
    refine y_gA (pc := 11) G g_48 mG_18 dX11_isLine_11 ?_
    refine x_iload1 (pc := 14) G dX11_isLine_14 ?_
    refine y_iald (pc := 15) (v := (gI M 18 p1)) G hM a_18 (by exact hr (by assumption)) rfl dX11_isLine_15 ?_
    refine x_iconst (pc := 16) (v := 1) G dX11_isLine_16 ic_1 ?_
    refine x_isub (pc := 17) G dX11_isLine_17 ?_
    refine x_cSb3 (pc := 18) G (b_in hl hM _) q_ml_X11_181 h_X11_in ⟨Nat.le_of_ble_eq_true rfl, Nat.le_of_ble_eq_true rfl⟩ (Nat.le_of_ble_eq_true rfl) (Nat.le_refl _) (Nat.le_refl _) dX11_isLine_18 (fun c2 => ?_) (fun c2 => ?_)
    · refine x_if_eq (pc := 21) (y := 0) (tgt := 28) G dX11_isLine_21 rfl (fun q => absurd q (by decide)) (fun _ => ?_)
      refine x_iconst (pc := 24) (v := 1) G dX11_isLine_24 ic_1 ?_
      refine x_goto (pc := 25) (tgt := 29) G dX11_isLine_25 rfl ?_
      exact x_zret (pc := 29) G B rfl (by decide) dX11_isLine_29 ⟨by rw [f_isLine, if_pos c1, if_pos c2], rfl⟩
    refine x_if_eq (pc := 21) (y := 0) (tgt := 28) G dX11_isLine_21 rfl (fun _ => ?_) (fun q => absurd q (by decide))
    refine x_iconst (pc := 28) (v := 0) G dX11_isLine_28 ic_0 ?_
    exact x_zret (pc := 29) G B rfl (by decide) dX11_isLine_29 ⟨by rw [f_isLine, if_pos c1, if_neg c2], rfl⟩
  refine x_if_eq (pc := 5) (y := 0) (tgt := 28) G dX11_isLine_5 rfl (fun _ => ?_) (fun q => absurd q (by decide))
  refine x_iconst (pc := 28) (v := 0) G dX11_isLine_28 ic_0 ?_
  exact x_zret (pc := 29) G B rfl (by decide) dX11_isLine_29 ⟨by rw [f_isLine, if_neg c1], rfl⟩
abbrev P_isLine (p1 : Int32) (p2 : Int32) (M : MS) : Prop := P_isRequest p1 M ∧ P_in p2 0 (gI M 18 p1 - 1)
theorem v_isLine {p1 : Int32} {p2 : Int32} {M : MS} : f_isLine p1 p2 M = if P_isLine p1 p2 M then 1 else 0 := by 
  unfold f_isLine P_isLine
  by_cases h1 : P_isRequest p1 M
  · by_cases h2 : P_in p2 0 (gI M 18 p1 - 1)
    · rw [if_pos h1, if_pos h2, if_pos ⟨h1, h2⟩]
    · rw [if_pos h1, if_neg h2, if_neg (fun q => h2 q.2)]
  · rw [if_neg h1, if_neg (fun q => h1 q.1)]
theorem b_isLine {l : Launch} {k : KC} {mo : Nat} {ad : Nat → Nat} (hl : l.stackTraces = false) (hM : HM mo ad) {M : MS} {p1 : Int32} {p2 : Int32} (hr : P_isRequest p1 M → vp_in p1 40) : (P_isLine p1 p2 M → CM l k mo ad yX11_isLine (.code yX11_isLine cX11_isLine 3 (some .boolean)) rm_X11_isLine [.int p1, .int p2] M (some (.int 1)) M) ∧ (¬ P_isLine p1 p2 M → CM l k mo ad yX11_isLine (.code yX11_isLine cX11_isLine 3 (some .boolean)) rm_X11_isLine [.int p1, .int p2] M (some (.int 0)) M) := MC.bool (by rw [← v_isLine]; exact c_isLine hl hM hr)
theorem dX11_line_0 : decode cX11_line 0 = .ok (.aload_n 0, 1) := by decide +kernel
theorem dX11_line_1 : decode cX11_line 1 = .ok (.iload_n 1, 1) := by decide +kernel
theorem dX11_line_2 : decode cX11_line 2 = .ok (.invokevirtual 188, 3) := by decide +kernel
theorem dX11_line_5 : decode cX11_line 5 = .ok (.istore 5, 2) := by decide +kernel
theorem dX11_line_7 : decode cX11_line 7 = .ok (.iload_n 3, 1) := by decide +kernel
theorem dX11_line_8 : decode cX11_line 8 = .ok (.iconst 1, 1) := by decide +kernel
theorem dX11_line_9 : decode cX11_line 9 = .ok (.bipush 99, 2) := by decide +kernel
theorem dX11_line_11 : decode cX11_line 11 = .ok (.invokestatic 181, 3) := by decide +kernel
theorem dX11_line_14 : decode cX11_line 14 = .ok (.ifCond .eq 18, 3) := by decide +kernel
theorem dX11_line_17 : decode cX11_line 17 = .ok (.iload 4, 2) := by decide +kernel
theorem dX11_line_19 : decode cX11_line 19 = .ok (.iconst 1, 1) := by decide +kernel
theorem dX11_line_20 : decode cX11_line 20 = .ok (.ldc 239, 2) := by decide +kernel
theorem dX11_line_22 : decode cX11_line 22 = .ok (.invokestatic 181, 3) := by decide +kernel
theorem dX11_line_25 : decode cX11_line 25 = .ok (.ifCond .eq 7, 3) := by decide +kernel
theorem dX11_line_28 : decode cX11_line 28 = .ok (.iconst 1, 1) := by decide +kernel
theorem dX11_line_29 : decode cX11_line 29 = .ok (.goto 4, 3) := by decide +kernel
theorem dX11_line_32 : decode cX11_line 32 = .ok (.iconst 0, 1) := by decide +kernel
theorem dX11_line_33 : decode cX11_line 33 = .ok (.istore 6, 2) := by decide +kernel
theorem dX11_line_35 : decode cX11_line 35 = .ok (.aload_n 0, 1) := by decide +kernel
theorem dX11_line_36 : decode cX11_line 36 = .ok (.iload 5, 2) := by decide +kernel
theorem dX11_line_38 : decode cX11_line 38 = .ok (.ifCond .ne 7, 3) := by decide +kernel
theorem dX11_line_41 : decode cX11_line 41 = .ok (.iconst 1, 1) := by decide +kernel
theorem dX11_line_42 : decode cX11_line 42 = .ok (.goto 36, 3) := by decide +kernel
theorem dX11_line_45 : decode cX11_line 45 = .ok (.iload 6, 2) := by decide +kernel
theorem dX11_line_47 : decode cX11_line 47 = .ok (.ifCond .ne 7, 3) := by decide +kernel
theorem dX11_line_50 : decode cX11_line 50 = .ok (.iconst 2, 1) := by decide +kernel
theorem dX11_line_51 : decode cX11_line 51 = .ok (.goto 27, 3) := by decide +kernel
theorem dX11_line_54 : decode cX11_line 54 = .ok (.aload_n 0, 1) := by decide +kernel
theorem dX11_line_55 : decode cX11_line 55 = .ok (.getfield 45, 3) := by decide +kernel
theorem dX11_line_58 : decode cX11_line 58 = .ok (.iload_n 1, 1) := by decide +kernel
theorem dX11_line_59 : decode cX11_line 59 = .ok (.iaload, 1) := by decide +kernel
theorem dX11_line_60 : decode cX11_line 60 = .ok (.ifCond .ne 13, 3) := by decide +kernel
theorem dX11_line_63 : decode cX11_line 63 = .ok (.aload_n 0, 1) := by decide +kernel
theorem dX11_line_64 : decode cX11_line 64 = .ok (.getfield 48, 3) := by decide +kernel
theorem dX11_line_67 : decode cX11_line 67 = .ok (.iload_n 1, 1) := by decide +kernel
theorem dX11_line_68 : decode cX11_line 68 = .ok (.iaload, 1) := by decide +kernel
theorem dX11_line_69 : decode cX11_line 69 = .ok (.iconst 4, 1) := by decide +kernel
theorem dX11_line_70 : decode cX11_line 70 = .ok (.if_icmp .ne 7, 3) := by decide +kernel
theorem dX11_line_73 : decode cX11_line 73 = .ok (.iconst 3, 1) := by decide +kernel
theorem dX11_line_74 : decode cX11_line 74 = .ok (.goto 4, 3) := by decide +kernel
theorem dX11_line_77 : decode cX11_line 77 = .ok (.iconst 0, 1) := by decide +kernel
theorem dX11_line_78 : decode cX11_line 78 = .ok (.invokevirtual 210, 3) := by decide +kernel
theorem dX11_line_81 : decode cX11_line 81 = .ok (.ifCond .ne 5, 3) := by decide +kernel
theorem dX11_line_84 : decode cX11_line 84 = .ok (.iconst 0, 1) := by decide +kernel
theorem dX11_line_85 : decode cX11_line 85 = .ok (.ireturn, 1) := by decide +kernel
theorem dX11_line_86 : decode cX11_line 86 = .ok (.iconst 4, 1) := by decide +kernel
theorem dX11_line_87 : decode cX11_line 87 = .ok (.iload_n 1, 1) := by decide +kernel
theorem dX11_line_88 : decode cX11_line 88 = .ok (.imul, 1) := by decide +kernel
theorem dX11_line_89 : decode cX11_line 89 = .ok (.aload_n 0, 1) := by decide +kernel
theorem dX11_line_90 : decode cX11_line 90 = .ok (.getfield 48, 3) := by decide +kernel
theorem dX11_line_93 : decode cX11_line 93 = .ok (.iload_n 1, 1) := by decide +kernel
theorem dX11_line_94 : decode cX11_line 94 = .ok (.iaload, 1) := by decide +kernel
theorem dX11_line_95 : decode cX11_line 95 = .ok (.iadd, 1) := by decide +kernel
theorem dX11_line_96 : decode cX11_line 96 = .ok (.istore 7, 2) := by decide +kernel
theorem dX11_line_98 : decode cX11_line 98 = .ok (.aload_n 0, 1) := by decide +kernel
theorem dX11_line_99 : decode cX11_line 99 = .ok (.getfield 75, 3) := by decide +kernel
theorem dX11_line_102 : decode cX11_line 102 = .ok (.iload 7, 2) := by decide +kernel
theorem dX11_line_104 : decode cX11_line 104 = .ok (.iload_n 2, 1) := by decide +kernel
theorem dX11_line_105 : decode cX11_line 105 = .ok (.bastore, 1) := by decide +kernel
theorem dX11_line_106 : decode cX11_line 106 = .ok (.aload_n 0, 1) := by decide +kernel
theorem dX11_line_107 : decode cX11_line 107 = .ok (.getfield 78, 3) := by decide +kernel
theorem dX11_line_110 : decode cX11_line 110 = .ok (.iload 7, 2) := by decide +kernel
theorem dX11_line_112 : decode cX11_line 112 = .ok (.iload_n 3, 1) := by decide +kernel
theorem dX11_line_113 : decode cX11_line 113 = .ok (.iastore, 1) := by decide +kernel
theorem dX11_line_114 : decode cX11_line 114 = .ok (.aload_n 0, 1) := by decide +kernel
theorem dX11_line_115 : decode cX11_line 115 = .ok (.getfield 81, 3) := by decide +kernel
theorem dX11_line_118 : decode cX11_line 118 = .ok (.iload 7, 2) := by decide +kernel
theorem dX11_line_120 : decode cX11_line 120 = .ok (.iload 4, 2) := by decide +kernel
theorem dX11_line_122 : decode cX11_line 122 = .ok (.iastore, 1) := by decide +kernel
theorem dX11_line_123 : decode cX11_line 123 = .ok (.aload_n 0, 1) := by decide +kernel
theorem dX11_line_124 : decode cX11_line 124 = .ok (.getfield 48, 3) := by decide +kernel
theorem dX11_line_127 : decode cX11_line 127 = .ok (.iload_n 1, 1) := by decide +kernel
theorem dX11_line_128 : decode cX11_line 128 = .ok (.dup2, 1) := by decide +kernel
theorem dX11_line_129 : decode cX11_line 129 = .ok (.iaload, 1) := by decide +kernel
theorem dX11_line_130 : decode cX11_line 130 = .ok (.iconst 1, 1) := by decide +kernel
theorem dX11_line_131 : decode cX11_line 131 = .ok (.iadd, 1) := by decide +kernel
theorem dX11_line_132 : decode cX11_line 132 = .ok (.iastore, 1) := by decide +kernel
theorem dX11_line_133 : decode cX11_line 133 = .ok (.aload_n 0, 1) := by decide +kernel
theorem dX11_line_134 : decode cX11_line 134 = .ok (.getfield 48, 3) := by decide +kernel
theorem dX11_line_137 : decode cX11_line 137 = .ok (.iload_n 1, 1) := by decide +kernel
theorem dX11_line_138 : decode cX11_line 138 = .ok (.iaload, 1) := by decide +kernel
theorem dX11_line_139 : decode cX11_line 139 = .ok (.ireturn, 1) := by decide +kernel
def f_line (p1 : Int32) (p2 : Int32) (p3 : Int32) (p4 : Int32) (M : MS) : Int32 × MS :=
    if P_isRequest p1 M then
      if P_in p3 1 99 then
        if P_in p4 1 100000 then
          if (gI M 17 p1) = 0 then
            if (gI M 18 p1) = 4 then
              (0, (sI M 0 3))
            else
            (((gI M 18 p1) + 1), (rI (rI (rI (rI (sI M 0 0) 27 ((4 * p1) + (gI M 18 p1)) p2) 28 ((4 * p1) + (gI M 18 p1)) p3) 29 ((4 * p1) + (gI M 18 p1)) p4) 18 p1 ((gI M 18 p1) + 1)))
          else
          (0, (sI M 0 3))
        else
        (0, (sI M 0 2))
      else
      (0, (sI M 0 2))
    else
    if P_in p3 1 99 then
      if P_in p4 1 100000 then
        (0, (sI M 0 1))
      else
      (0, (sI M 0 1))
    else
    (0, (sI M 0 1))
abbrev rm_X11_line : Room := { frames := 2, cells := 0, slots := 0, locals := 43 }
set_option maxRecDepth 100000 in
set_option maxHeartbeats 4000000 in
theorem c_line {l : Launch} {k : KC} {mo : Nat} {ad : Nat → Nat} (hl : l.stackTraces = false) (hM : HM mo ad) {M : MS} {p1 : Int32} {p2 : Int32} {p3 : Int32} {p4 : Int32} (hr : ∀ r, P_isRequest r M → RqOK M r) (hb : vp_nar .boolean p2 = p2) : CM l k mo ad yX11_line (.code yX11_line cX11_line 8 (some .int)) rm_X11_line [.int p1, .int p2, .int p3, .int p4] M (some (.int (f_line p1 p2 p3 p4 M).1)) (f_line p1 p2 p3 p4 M).2 := by
  refine MC.of 3 hl (by decide) (Nat.le_of_ble_eq_true rfl) ?_
  intro p e s m args below meth c A Q G B _ _
  show Wx p l e rm_X11_line s m args below meth c k A 8 Q 0 0 0 [some (.ref mo), some (.int p1), some (.int p2), some (.int p3), some (.int p4), none, none, none] [] (mW k mo ad M)
  refine x_aload0 (pc := 0) G dX11_line_0 ?_
  refine x_iload1 (pc := 1) G dX11_line_1 ?_
  refine y_cb1 (pc := 2) G (b_isRequest hl hM ) q_ml_X11_188 h_X11_isRequest rfl ⟨Nat.le_of_ble_eq_true rfl, Nat.le_of_ble_eq_true rfl⟩ (Nat.le_of_ble_eq_true rfl) (Nat.le_refl _) (Nat.le_refl _) dX11_line_2 (fun c1 => ?_) (fun c1 => ?_)
  · refine x_istore5 (pc := 5) G dX11_line_5 (Nat.le_of_ble_eq_true rfl) rfl ?_
    refine x_iload3 (pc := 7) G dX11_line_7 ?_
    refine x_iconst (pc := 8) (v := 1) G dX11_line_8 ic_1 ?_
    refine x_bipush (pc := 9) (v := 99) G dX11_line_9 bp_99 ?_
    refine x_cSb3 (pc := 11) G (b_in hl hM _) q_ml_X11_181 h_X11_in ⟨Nat.le_of_ble_eq_true rfl, Nat.le_of_ble_eq_true rfl⟩ (Nat.le_of_ble_eq_true rfl) (Nat.le_refl _) (Nat.le_refl _) dX11_line_11 (fun c2 => ?_) (fun c2 => ?_)
    · refine x_if_eq (pc := 14) (y := 0) (tgt := 32) G dX11_line_14 rfl (fun q => absurd q (by decide)) (fun _ => ?_)
      refine x_iload4 (pc := 17) G dX11_line_17 ?_
      refine x_iconst (pc := 19) (v := 1) G dX11_line_19 ic_1 ?_
      refine x_ldc (pc := 20) G q_cs_X11_239 dX11_line_20 ?_
      refine x_cSb3 (pc := 22) G (b_in hl hM _) q_ml_X11_181 h_X11_in ⟨Nat.le_of_ble_eq_true rfl, Nat.le_of_ble_eq_true rfl⟩ (Nat.le_of_ble_eq_true rfl) (Nat.le_refl _) (Nat.le_refl _) dX11_line_22 (fun c3 => ?_) (fun c3 => ?_)
      · refine x_if_eq (pc := 25) (y := 0) (tgt := 32) G dX11_line_25 rfl (fun q => absurd q (by decide)) (fun _ => ?_)
        refine x_iconst (pc := 28) (v := 1) G dX11_line_28 ic_1 ?_
        refine x_goto (pc := 29) (tgt := 33) G dX11_line_29 rfl ?_
        refine x_istore6 (pc := 33) G dX11_line_33 (Nat.le_of_ble_eq_true rfl) rfl ?_
        refine x_aload0 (pc := 35) G dX11_line_35 ?_
        refine x_iload5 (pc := 36) G dX11_line_36 ?_
        refine x_if_ne (pc := 38) (y := 0) (tgt := 45) G dX11_line_38 rfl (fun _ => ?_) (fun q => absurd q (by decide))
        refine x_iload6 (pc := 45) G dX11_line_45 ?_
        refine x_if_ne (pc := 47) (y := 0) (tgt := 54) G dX11_line_47 rfl (fun _ => ?_) (fun q => absurd q (by decide))
        refine x_aload0 (pc := 54) G dX11_line_54 ?_
        refine y_gA (pc := 55) G g_45 mG_17 dX11_line_55 ?_
        refine x_iload1 (pc := 58) G dX11_line_58 ?_
        refine y_iald (pc := 59) (v := (gI M 17 p1)) G hM a_17 (by first | exact (hr _ (by assumption)).1 | exact vin_line (hr _ (by assumption)).1 (hr _ (by assumption)).2.2.2.1 (by assumption)) rfl dX11_line_59 ?_
        refine x_if_ne (pc := 60) (y := 0) (tgt := 73) G dX11_line_60 rfl (fun c4 => ?_) (fun c4 => ?_)
        · refine x_iconst (pc := 73) (v := 3) G dX11_line_73 ic_3 ?_
          refine x_goto (pc := 74) (tgt := 78) G dX11_line_74 rfl ?_
          refine y_c1 (pc := 78) G (c_holdsN hl hM (by decide)) q_ml_X11_210 h_X11_holds rfl ⟨Nat.le_of_ble_eq_true rfl, Nat.le_of_ble_eq_true rfl⟩ (Nat.le_of_ble_eq_true rfl) (Nat.le_refl _) (Nat.le_refl _) dX11_line_78 ?_
          refine x_if_ne (pc := 81) (y := 0) (tgt := 86) G dX11_line_81 rfl (fun q => absurd q (by decide)) (fun _ => ?_)
          refine x_iconst (pc := 84) (v := 0) G dX11_line_84 ic_0 ?_
          exact x_iret (pc := 85) G B rfl dX11_line_85 ⟨by rw [f_line, if_pos c1, if_pos c2, if_pos c3, if_neg c4], by rw [f_line, if_pos c1, if_pos c2, if_pos c3, if_neg c4]⟩
        refine x_aload0 (pc := 63) G dX11_line_63 ?_
        refine y_gA (pc := 64) G g_48 mG_18 dX11_line_64 ?_
        refine x_iload1 (pc := 67) G dX11_line_67 ?_
        refine y_iald (pc := 68) (v := (gI M 18 p1)) G hM a_18 (by first | exact (hr _ (by assumption)).1 | exact vin_line (hr _ (by assumption)).1 (hr _ (by assumption)).2.2.2.1 (by assumption)) rfl dX11_line_68 ?_
        refine x_iconst (pc := 69) (v := 4) G dX11_line_69 ic_4 ?_
        refine x_icmp_ne (pc := 70) (tgt := 77) G dX11_line_70 rfl (fun c5 => ?_) (fun c5 => ?_)
        · refine x_iconst (pc := 77) (v := 0) G dX11_line_77 ic_0 ?_
          refine y_c1 (pc := 78) G (c_holds0 hl hM) q_ml_X11_210 h_X11_holds rfl ⟨Nat.le_of_ble_eq_true rfl, Nat.le_of_ble_eq_true rfl⟩ (Nat.le_of_ble_eq_true rfl) (Nat.le_refl _) (Nat.le_refl _) dX11_line_78 ?_
          refine x_if_ne (pc := 81) (y := 0) (tgt := 86) G dX11_line_81 rfl (fun _ => ?_) (fun q => absurd q (by decide))
          refine x_iconst (pc := 86) (v := 4) G dX11_line_86 ic_4 ?_
          refine x_iload1 (pc := 87) G dX11_line_87 ?_
          refine x_imul (pc := 88) G dX11_line_88 ?_
          refine x_aload0 (pc := 89) G dX11_line_89 ?_
          refine y_gA (pc := 90) G g_48 mG_18 dX11_line_90 ?_
          refine x_iload1 (pc := 93) G dX11_line_93 ?_
          refine y_iald (pc := 94) (v := (gI M 18 p1)) G hM a_18 (by first | exact (hr _ (by assumption)).1 | exact vin_line (hr _ (by assumption)).1 (hr _ (by assumption)).2.2.2.1 (by assumption)) gI_sI dX11_line_94 ?_
          refine x_iadd (pc := 95) G dX11_line_95 ?_
          refine x_istore7 (pc := 96) G dX11_line_96 (Nat.le_of_ble_eq_true rfl) rfl ?_
          refine x_aload0 (pc := 98) G dX11_line_98 ?_
          refine y_gA (pc := 99) G g_75 mG_27 dX11_line_99 ?_
          refine x_iload7 (pc := 102) G dX11_line_102 ?_
          refine x_iload2 (pc := 104) G dX11_line_104 ?_
          refine y_zast (pc := 105) G hM a_27 (by first | exact (hr _ (by assumption)).1 | exact vin_line (hr _ (by assumption)).1 (hr _ (by assumption)).2.2.2.1 (by assumption)) (by exact hb) dX11_line_105 ?_
          refine x_aload0 (pc := 106) G dX11_line_106 ?_
          refine y_gA (pc := 107) G g_78 mG_28 dX11_line_107 ?_
          refine x_iload7 (pc := 110) G dX11_line_110 ?_
          refine x_iload3 (pc := 112) G dX11_line_112 ?_
          refine y_iast (pc := 113) G hM a_28 (by first | exact (hr _ (by assumption)).1 | exact vin_line (hr _ (by assumption)).1 (hr _ (by assumption)).2.2.2.1 (by assumption)) dX11_line_113 ?_
          refine x_aload0 (pc := 114) G dX11_line_114 ?_
          refine y_gA (pc := 115) G g_81 mG_29 dX11_line_115 ?_
          refine x_iload7 (pc := 118) G dX11_line_118 ?_
          refine x_iload4 (pc := 120) G dX11_line_120 ?_
          refine y_iast (pc := 122) G hM a_29 (by first | exact (hr _ (by assumption)).1 | exact vin_line (hr _ (by assumption)).1 (hr _ (by assumption)).2.2.2.1 (by assumption)) dX11_line_122 ?_
          refine x_aload0 (pc := 123) G dX11_line_123 ?_
          refine y_gA (pc := 124) G g_48 mG_18 dX11_line_124 ?_
          refine x_iload1 (pc := 127) G dX11_line_127 ?_
          refine x_dup2 (pc := 128) G dX11_line_128 rfl rfl ?_
          refine y_iald (pc := 129) (v := (gI M 18 p1)) G hM a_18 (by first | exact (hr _ (by assumption)).1 | exact vin_line (hr _ (by assumption)).1 (hr _ (by assumption)).2.2.2.1 (by assumption)) ((gI_rIn rfl).trans ((gI_rIn rfl).trans ((gI_rIn rfl).trans gI_sI))) dX11_line_129 ?_
          refine x_iconst (pc := 130) (v := 1) G dX11_line_130 ic_1 ?_
          refine x_iadd (pc := 131) G dX11_line_131 ?_
          refine y_iast (pc := 132) G hM a_18 (by first | exact (hr _ (by assumption)).1 | exact vin_line (hr _ (by assumption)).1 (hr _ (by assumption)).2.2.2.1 (by assumption)) dX11_line_132 ?_
          refine x_aload0 (pc := 133) G dX11_line_133 ?_
          refine y_gA (pc := 134) G g_48 mG_18 dX11_line_134 ?_
          refine x_iload1 (pc := 137) G dX11_line_137 ?_
          refine y_iald (pc := 138) (v := ((gI M 18 p1) + 1)) G hM a_18 (by first | exact (hr _ (by assumption)).1 | exact vin_line (hr _ (by assumption)).1 (hr _ (by assumption)).2.2.2.1 (by assumption)) gI_rIs dX11_line_138 ?_
          exact x_iret (pc := 139) G B rfl dX11_line_139 ⟨by rw [f_line, if_pos c1, if_pos c2, if_pos c3, if_pos c4, if_neg c5], by rw [f_line, if_pos c1, if_pos c2, if_pos c3, if_pos c4, if_neg c5]⟩
        refine x_iconst (pc := 73) (v := 3) G dX11_line_73 ic_3 ?_
        refine x_goto (pc := 74) (tgt := 78) G dX11_line_74 rfl ?_
        refine y_c1 (pc := 78) G (c_holdsN hl hM (by decide)) q_ml_X11_210 h_X11_holds rfl ⟨Nat.le_of_ble_eq_true rfl, Nat.le_of_ble_eq_true rfl⟩ (Nat.le_of_ble_eq_true rfl) (Nat.le_refl _) (Nat.le_refl _) dX11_line_78 ?_
        refine x_if_ne (pc := 81) (y := 0) (tgt := 86) G dX11_line_81 rfl (fun q => absurd q (by decide)) (fun _ => ?_)
        refine x_iconst (pc := 84) (v := 0) G dX11_line_84 ic_0 ?_
        exact x_iret (pc := 85) G B rfl dX11_line_85 ⟨by rw [f_line, if_pos c1, if_pos c2, if_pos c3, if_pos c4, if_pos c5], by rw [f_line, if_pos c1, if_pos c2, if_pos c3, if_pos c4, if_pos c5]⟩
      refine x_if_eq (pc := 25) (y := 0) (tgt := 32) G dX11_line_25 rfl (fun _ => ?_) (fun q => absurd q (by decide))
      refine x_iconst (pc := 32) (v := 0) G dX11_line_32 ic_0 ?_
      refine x_istore6 (pc := 33) G dX11_line_33 (Nat.le_of_ble_eq_true rfl) rfl ?_
      refine x_aload0 (pc := 35) G dX11_line_35 ?_
      refine x_iload5 (pc := 36) G dX11_line_36 ?_
      refine x_if_ne (pc := 38) (y := 0) (tgt := 45) G dX11_line_38 rfl (fun _ => ?_) (fun q => absurd q (by decide))
      refine x_iload6 (pc := 45) G dX11_line_45 ?_
      refine x_if_ne (pc := 47) (y := 0) (tgt := 54) G dX11_line_47 rfl (fun q => absurd q (by decide)) (fun _ => ?_)
      refine x_iconst (pc := 50) (v := 2) G dX11_line_50 ic_2 ?_
      refine x_goto (pc := 51) (tgt := 78) G dX11_line_51 rfl ?_
      refine y_c1 (pc := 78) G (c_holdsN hl hM (by decide)) q_ml_X11_210 h_X11_holds rfl ⟨Nat.le_of_ble_eq_true rfl, Nat.le_of_ble_eq_true rfl⟩ (Nat.le_of_ble_eq_true rfl) (Nat.le_refl _) (Nat.le_refl _) dX11_line_78 ?_
      refine x_if_ne (pc := 81) (y := 0) (tgt := 86) G dX11_line_81 rfl (fun q => absurd q (by decide)) (fun _ => ?_)
      refine x_iconst (pc := 84) (v := 0) G dX11_line_84 ic_0 ?_
      exact x_iret (pc := 85) G B rfl dX11_line_85 ⟨by rw [f_line, if_pos c1, if_pos c2, if_neg c3], by rw [f_line, if_pos c1, if_pos c2, if_neg c3]⟩
    refine x_if_eq (pc := 14) (y := 0) (tgt := 32) G dX11_line_14 rfl (fun _ => ?_) (fun q => absurd q (by decide))
    refine x_iconst (pc := 32) (v := 0) G dX11_line_32 ic_0 ?_
    refine x_istore6 (pc := 33) G dX11_line_33 (Nat.le_of_ble_eq_true rfl) rfl ?_
    refine x_aload0 (pc := 35) G dX11_line_35 ?_
    refine x_iload5 (pc := 36) G dX11_line_36 ?_
    refine x_if_ne (pc := 38) (y := 0) (tgt := 45) G dX11_line_38 rfl (fun _ => ?_) (fun q => absurd q (by decide))
    refine x_iload6 (pc := 45) G dX11_line_45 ?_
    refine x_if_ne (pc := 47) (y := 0) (tgt := 54) G dX11_line_47 rfl (fun q => absurd q (by decide)) (fun _ => ?_)
    refine x_iconst (pc := 50) (v := 2) G dX11_line_50 ic_2 ?_
    refine x_goto (pc := 51) (tgt := 78) G dX11_line_51 rfl ?_
    refine y_c1 (pc := 78) G (c_holdsN hl hM (by decide)) q_ml_X11_210 h_X11_holds rfl ⟨Nat.le_of_ble_eq_true rfl, Nat.le_of_ble_eq_true rfl⟩ (Nat.le_of_ble_eq_true rfl) (Nat.le_refl _) (Nat.le_refl _) dX11_line_78 ?_
    refine x_if_ne (pc := 81) (y := 0) (tgt := 86) G dX11_line_81 rfl (fun q => absurd q (by decide)) (fun _ => ?_)
    refine x_iconst (pc := 84) (v := 0) G dX11_line_84 ic_0 ?_
    exact x_iret (pc := 85) G B rfl dX11_line_85 ⟨by rw [f_line, if_pos c1, if_neg c2], by rw [f_line, if_pos c1, if_neg c2]⟩
  refine x_istore5 (pc := 5) G dX11_line_5 (Nat.le_of_ble_eq_true rfl) rfl ?_
  refine x_iload3 (pc := 7) G dX11_line_7 ?_
  refine x_iconst (pc := 8) (v := 1) G dX11_line_8 ic_1 ?_
  refine x_bipush (pc := 9) (v := 99) G dX11_line_9 bp_99 ?_
  refine x_cSb3 (pc := 11) G (b_in hl hM _) q_ml_X11_181 h_X11_in ⟨Nat.le_of_ble_eq_true rfl, Nat.le_of_ble_eq_true rfl⟩ (Nat.le_of_ble_eq_true rfl) (Nat.le_refl _) (Nat.le_refl _) dX11_line_11 (fun c6 => ?_) (fun c6 => ?_)
  · refine x_if_eq (pc := 14) (y := 0) (tgt := 32) G dX11_line_14 rfl (fun q => absurd q (by decide)) (fun _ => ?_)
    refine x_iload4 (pc := 17) G dX11_line_17 ?_
    refine x_iconst (pc := 19) (v := 1) G dX11_line_19 ic_1 ?_
    refine x_ldc (pc := 20) G q_cs_X11_239 dX11_line_20 ?_
    refine x_cSb3 (pc := 22) G (b_in hl hM _) q_ml_X11_181 h_X11_in ⟨Nat.le_of_ble_eq_true rfl, Nat.le_of_ble_eq_true rfl⟩ (Nat.le_of_ble_eq_true rfl) (Nat.le_refl _) (Nat.le_refl _) dX11_line_22 (fun c7 => ?_) (fun c7 => ?_)
    · refine x_if_eq (pc := 25) (y := 0) (tgt := 32) G dX11_line_25 rfl (fun q => absurd q (by decide)) (fun _ => ?_)
      refine x_iconst (pc := 28) (v := 1) G dX11_line_28 ic_1 ?_
      refine x_goto (pc := 29) (tgt := 33) G dX11_line_29 rfl ?_
      refine x_istore6 (pc := 33) G dX11_line_33 (Nat.le_of_ble_eq_true rfl) rfl ?_
      refine x_aload0 (pc := 35) G dX11_line_35 ?_
      refine x_iload5 (pc := 36) G dX11_line_36 ?_
      refine x_if_ne (pc := 38) (y := 0) (tgt := 45) G dX11_line_38 rfl (fun q => absurd q (by decide)) (fun _ => ?_)
      refine x_iconst (pc := 41) (v := 1) G dX11_line_41 ic_1 ?_
      refine x_goto (pc := 42) (tgt := 78) G dX11_line_42 rfl ?_
      refine y_c1 (pc := 78) G (c_holdsN hl hM (by decide)) q_ml_X11_210 h_X11_holds rfl ⟨Nat.le_of_ble_eq_true rfl, Nat.le_of_ble_eq_true rfl⟩ (Nat.le_of_ble_eq_true rfl) (Nat.le_refl _) (Nat.le_refl _) dX11_line_78 ?_
      refine x_if_ne (pc := 81) (y := 0) (tgt := 86) G dX11_line_81 rfl (fun q => absurd q (by decide)) (fun _ => ?_)
      refine x_iconst (pc := 84) (v := 0) G dX11_line_84 ic_0 ?_
      exact x_iret (pc := 85) G B rfl dX11_line_85 ⟨by rw [f_line, if_neg c1, if_pos c6, if_pos c7], by rw [f_line, if_neg c1, if_pos c6, if_pos c7]⟩
    refine x_if_eq (pc := 25) (y := 0) (tgt := 32) G dX11_line_25 rfl (fun _ => ?_) (fun q => absurd q (by decide))
    refine x_iconst (pc := 32) (v := 0) G dX11_line_32 ic_0 ?_
    refine x_istore6 (pc := 33) G dX11_line_33 (Nat.le_of_ble_eq_true rfl) rfl ?_
    refine x_aload0 (pc := 35) G dX11_line_35 ?_
    refine x_iload5 (pc := 36) G dX11_line_36 ?_
    refine x_if_ne (pc := 38) (y := 0) (tgt := 45) G dX11_line_38 rfl (fun q => absurd q (by decide)) (fun _ => ?_)
    refine x_iconst (pc := 41) (v := 1) G dX11_line_41 ic_1 ?_
    refine x_goto (pc := 42) (tgt := 78) G dX11_line_42 rfl ?_
    refine y_c1 (pc := 78) G (c_holdsN hl hM (by decide)) q_ml_X11_210 h_X11_holds rfl ⟨Nat.le_of_ble_eq_true rfl, Nat.le_of_ble_eq_true rfl⟩ (Nat.le_of_ble_eq_true rfl) (Nat.le_refl _) (Nat.le_refl _) dX11_line_78 ?_
    refine x_if_ne (pc := 81) (y := 0) (tgt := 86) G dX11_line_81 rfl (fun q => absurd q (by decide)) (fun _ => ?_)
    refine x_iconst (pc := 84) (v := 0) G dX11_line_84 ic_0 ?_
    exact x_iret (pc := 85) G B rfl dX11_line_85 ⟨by rw [f_line, if_neg c1, if_pos c6, if_neg c7], by rw [f_line, if_neg c1, if_pos c6, if_neg c7]⟩
  refine x_if_eq (pc := 14) (y := 0) (tgt := 32) G dX11_line_14 rfl (fun _ => ?_) (fun q => absurd q (by decide))
  refine x_iconst (pc := 32) (v := 0) G dX11_line_32 ic_0 ?_
  refine x_istore6 (pc := 33) G dX11_line_33 (Nat.le_of_ble_eq_true rfl) rfl ?_
  refine x_aload0 (pc := 35) G dX11_line_35 ?_
  refine x_iload5 (pc := 36) G dX11_line_36 ?_
  refine x_if_ne (pc := 38) (y := 0) (tgt := 45) G dX11_line_38 rfl (fun q => absurd q (by decide)) (fun _ => ?_)
  refine x_iconst (pc := 41) (v := 1) G dX11_line_41 ic_1 ?_
  refine x_goto (pc := 42) (tgt := 78) G dX11_line_42 rfl ?_
  refine y_c1 (pc := 78) G (c_holdsN hl hM (by decide)) q_ml_X11_210 h_X11_holds rfl ⟨Nat.le_of_ble_eq_true rfl, Nat.le_of_ble_eq_true rfl⟩ (Nat.le_of_ble_eq_true rfl) (Nat.le_refl _) (Nat.le_refl _) dX11_line_78 ?_
  refine x_if_ne (pc := 81) (y := 0) (tgt := 86) G dX11_line_81 rfl (fun q => absurd q (by decide)) (fun _ => ?_)
  refine x_iconst (pc := 84) (v := 0) G dX11_line_84 ic_0 ?_
  exact x_iret (pc := 85) G B rfl dX11_line_85 ⟨by rw [f_line, if_neg c1, if_neg c6], by rw [f_line, if_neg c1, if_neg c6]⟩
theorem dX11_edit_0 : decode cX11_edit 0 = .ok (.aload_n 0, 1) := by decide +kernel
theorem dX11_edit_1 : decode cX11_edit 1 = .ok (.iload_n 1, 1) := by decide +kernel
theorem dX11_edit_2 : decode cX11_edit 2 = .ok (.iload_n 2, 1) := by decide +kernel
theorem dX11_edit_3 : decode cX11_edit 3 = .ok (.invokevirtual 278, 3) := by decide +kernel
theorem dX11_edit_6 : decode cX11_edit 6 = .ok (.istore 4, 2) := by decide +kernel
theorem dX11_edit_8 : decode cX11_edit 8 = .ok (.aload_n 0, 1) := by decide +kernel
theorem dX11_edit_9 : decode cX11_edit 9 = .ok (.iload 4, 2) := by decide +kernel
theorem dX11_edit_11 : decode cX11_edit 11 = .ok (.ifCond .ne 7, 3) := by decide +kernel
theorem dX11_edit_14 : decode cX11_edit 14 = .ok (.iconst 1, 1) := by decide +kernel
theorem dX11_edit_15 : decode cX11_edit 15 = .ok (.goto 32, 3) := by decide +kernel
theorem dX11_edit_18 : decode cX11_edit 18 = .ok (.iload_n 3, 1) := by decide +kernel
theorem dX11_edit_19 : decode cX11_edit 19 = .ok (.iconst 1, 1) := by decide +kernel
theorem dX11_edit_20 : decode cX11_edit 20 = .ok (.bipush 99, 2) := by decide +kernel
theorem dX11_edit_22 : decode cX11_edit 22 = .ok (.invokestatic 181, 3) := by decide +kernel
theorem dX11_edit_25 : decode cX11_edit 25 = .ok (.ifCond .ne 7, 3) := by decide +kernel
theorem dX11_edit_28 : decode cX11_edit 28 = .ok (.iconst 2, 1) := by decide +kernel
theorem dX11_edit_29 : decode cX11_edit 29 = .ok (.goto 18, 3) := by decide +kernel
theorem dX11_edit_32 : decode cX11_edit 32 = .ok (.aload_n 0, 1) := by decide +kernel
theorem dX11_edit_33 : decode cX11_edit 33 = .ok (.getfield 45, 3) := by decide +kernel
theorem dX11_edit_36 : decode cX11_edit 36 = .ok (.iload_n 1, 1) := by decide +kernel
theorem dX11_edit_37 : decode cX11_edit 37 = .ok (.iaload, 1) := by decide +kernel
theorem dX11_edit_38 : decode cX11_edit 38 = .ok (.iconst 4, 1) := by decide +kernel
theorem dX11_edit_39 : decode cX11_edit 39 = .ok (.if_icmp .lt 7, 3) := by decide +kernel
theorem dX11_edit_42 : decode cX11_edit 42 = .ok (.iconst 3, 1) := by decide +kernel
theorem dX11_edit_43 : decode cX11_edit 43 = .ok (.goto 4, 3) := by decide +kernel
theorem dX11_edit_46 : decode cX11_edit 46 = .ok (.iconst 0, 1) := by decide +kernel
theorem dX11_edit_47 : decode cX11_edit 47 = .ok (.invokevirtual 210, 3) := by decide +kernel
theorem dX11_edit_50 : decode cX11_edit 50 = .ok (.ifCond .ne 5, 3) := by decide +kernel
theorem dX11_edit_53 : decode cX11_edit 53 = .ok (.iconst 0, 1) := by decide +kernel
theorem dX11_edit_54 : decode cX11_edit 54 = .ok (.ireturn, 1) := by decide +kernel
theorem dX11_edit_55 : decode cX11_edit 55 = .ok (.aload_n 0, 1) := by decide +kernel
theorem dX11_edit_56 : decode cX11_edit 56 = .ok (.getfield 78, 3) := by decide +kernel
theorem dX11_edit_59 : decode cX11_edit 59 = .ok (.iconst 4, 1) := by decide +kernel
theorem dX11_edit_60 : decode cX11_edit 60 = .ok (.iload_n 1, 1) := by decide +kernel
theorem dX11_edit_61 : decode cX11_edit 61 = .ok (.imul, 1) := by decide +kernel
theorem dX11_edit_62 : decode cX11_edit 62 = .ok (.iload_n 2, 1) := by decide +kernel
theorem dX11_edit_63 : decode cX11_edit 63 = .ok (.iadd, 1) := by decide +kernel
theorem dX11_edit_64 : decode cX11_edit 64 = .ok (.iaload, 1) := by decide +kernel
theorem dX11_edit_65 : decode cX11_edit 65 = .ok (.istore 5, 2) := by decide +kernel
theorem dX11_edit_67 : decode cX11_edit 67 = .ok (.aload_n 0, 1) := by decide +kernel
theorem dX11_edit_68 : decode cX11_edit 68 = .ok (.iload_n 1, 1) := by decide +kernel
theorem dX11_edit_69 : decode cX11_edit 69 = .ok (.aload_n 0, 1) := by decide +kernel
theorem dX11_edit_70 : decode cX11_edit 70 = .ok (.getfield 51, 3) := by decide +kernel
theorem dX11_edit_73 : decode cX11_edit 73 = .ok (.iload_n 1, 1) := by decide +kernel
theorem dX11_edit_74 : decode cX11_edit 74 = .ok (.laload, 1) := by decide +kernel
theorem dX11_edit_75 : decode cX11_edit 75 = .ok (.invokevirtual 274, 3) := by decide +kernel
theorem dX11_edit_78 : decode cX11_edit 78 = .ok (.lstore 6, 2) := by decide +kernel
theorem dX11_edit_80 : decode cX11_edit 80 = .ok (.aload_n 0, 1) := by decide +kernel
theorem dX11_edit_81 : decode cX11_edit 81 = .ok (.getfield 78, 3) := by decide +kernel
theorem dX11_edit_84 : decode cX11_edit 84 = .ok (.iconst 4, 1) := by decide +kernel
theorem dX11_edit_85 : decode cX11_edit 85 = .ok (.iload_n 1, 1) := by decide +kernel
theorem dX11_edit_86 : decode cX11_edit 86 = .ok (.imul, 1) := by decide +kernel
theorem dX11_edit_87 : decode cX11_edit 87 = .ok (.iload_n 2, 1) := by decide +kernel
theorem dX11_edit_88 : decode cX11_edit 88 = .ok (.iadd, 1) := by decide +kernel
theorem dX11_edit_89 : decode cX11_edit 89 = .ok (.iload_n 3, 1) := by decide +kernel
theorem dX11_edit_90 : decode cX11_edit 90 = .ok (.iastore, 1) := by decide +kernel
theorem dX11_edit_91 : decode cX11_edit 91 = .ok (.aload_n 0, 1) := by decide +kernel
theorem dX11_edit_92 : decode cX11_edit 92 = .ok (.getfield 45, 3) := by decide +kernel
theorem dX11_edit_95 : decode cX11_edit 95 = .ok (.iload_n 1, 1) := by decide +kernel
theorem dX11_edit_96 : decode cX11_edit 96 = .ok (.iconst 0, 1) := by decide +kernel
theorem dX11_edit_97 : decode cX11_edit 97 = .ok (.iastore, 1) := by decide +kernel
theorem dX11_edit_98 : decode cX11_edit 98 = .ok (.iload 5, 2) := by decide +kernel
theorem dX11_edit_100 : decode cX11_edit 100 = .ok (.ireturn, 1) := by decide +kernel
def f_edit (p1 : Int32) (p2 : Int32) (p3 : Int32) (M : MS) : Int32 × MS :=
    if P_isLine p1 p2 M then
      if P_in p3 1 99 then
        if (gI M 17 p1) < 4 then
          ((gI M 28 ((4 * p1) + p2)), (rI (rI (f_frees p1 (gJ M 19 p1) (sI M 0 0)).2 28 ((4 * p1) + p2) p3) 17 p1 0))
        else
        (0, (sI M 0 3))
      else
      (0, (sI M 0 2))
    else
    (0, (sI M 0 1))
abbrev rm_X11_edit : Room := { frames := 3, cells := 0, slots := 0, locals := 70 }
set_option maxRecDepth 100000 in
set_option maxHeartbeats 4000000 in
theorem c_edit {l : Launch} {k : KC} {mo : Nat} {ad : Nat → Nat} (hl : l.stackTraces = false) (hM : HM mo ad) {M : MS} {p1 : Int32} {p2 : Int32} {p3 : Int32} (hr : ∀ r, P_isRequest r M → RqOK M r) : CM l k mo ad yX11_edit (.code yX11_edit cX11_edit 8 (some .int)) rm_X11_edit [.int p1, .int p2, .int p3] M (some (.int (f_edit p1 p2 p3 M).1)) (f_edit p1 p2 p3 M).2 := by
  refine MC.of 4 hl (by decide) (Nat.le_of_ble_eq_true rfl) ?_
  intro p e s m args below meth c A Q G B _ _
  show Wx p l e rm_X11_edit s m args below meth c k A 8 Q 0 0 0 [some (.ref mo), some (.int p1), some (.int p2), some (.int p3), none, none, none, none] [] (mW k mo ad M)
  refine x_aload0 (pc := 0) G dX11_edit_0 ?_
  refine x_iload1 (pc := 1) G dX11_edit_1 ?_
  refine x_iload2 (pc := 2) G dX11_edit_2 ?_
  refine y_cb2 (pc := 3) G (b_isLine hl hM (fun q => (hr _ q).1)) q_ml_X11_278 h_X11_isLine rfl ⟨Nat.le_of_ble_eq_true rfl, Nat.le_of_ble_eq_true rfl⟩ (Nat.le_of_ble_eq_true rfl) (Nat.le_refl _) (Nat.le_refl _) dX11_edit_3 (fun c1 => ?_) (fun c1 => ?_)
  · refine x_istore4 (pc := 6) G dX11_edit_6 (Nat.le_of_ble_eq_true rfl) rfl ?_
    refine x_aload0 (pc := 8) G dX11_edit_8 ?_
    refine x_iload4 (pc := 9) G dX11_edit_9 ?_
    refine x_if_ne (pc := 11) (y := 0) (tgt := 18) G dX11_edit_11 rfl (fun _ => ?_) (fun q => absurd q (by decide))
    refine x_iload3 (pc := 18) G dX11_edit_18 ?_
    refine x_iconst (pc := 19) (v := 1) G dX11_edit_19 ic_1 ?_
    refine x_bipush (pc := 20) (v := 99) G dX11_edit_20 bp_99 ?_
    refine x_cSb3 (pc := 22) G (b_in hl hM _) q_ml_X11_181 h_X11_in ⟨Nat.le_of_ble_eq_true rfl, Nat.le_of_ble_eq_true rfl⟩ (Nat.le_of_ble_eq_true rfl) (Nat.le_refl _) (Nat.le_refl _) dX11_edit_22 (fun c2 => ?_) (fun c2 => ?_)
    · refine x_if_ne (pc := 25) (y := 0) (tgt := 32) G dX11_edit_25 rfl (fun _ => ?_) (fun q => absurd q (by decide))
      refine x_aload0 (pc := 32) G dX11_edit_32 ?_
      refine y_gA (pc := 33) G g_45 mG_17 dX11_edit_33 ?_
      refine x_iload1 (pc := 36) G dX11_edit_36 ?_
      refine y_iald (pc := 37) (v := (gI M 17 p1)) G hM a_17 (by first | exact (hr _ c1.1).1 | exact vin_linep (hr _ c1.1).1 (hr _ c1.1).2.2.2.1 c1.2) rfl dX11_edit_37 ?_
      refine x_iconst (pc := 38) (v := 4) G dX11_edit_38 ic_4 ?_
      refine x_icmp_lt (pc := 39) (tgt := 46) G dX11_edit_39 rfl (fun c3 => ?_) (fun c3 => ?_)
      · refine x_iconst (pc := 46) (v := 0) G dX11_edit_46 ic_0 ?_
        refine y_c1 (pc := 47) G (c_holds0 hl hM) q_ml_X11_210 h_X11_holds rfl ⟨Nat.le_of_ble_eq_true rfl, Nat.le_of_ble_eq_true rfl⟩ (Nat.le_of_ble_eq_true rfl) (Nat.le_refl _) (Nat.le_refl _) dX11_edit_47 ?_
        refine x_if_ne (pc := 50) (y := 0) (tgt := 55) G dX11_edit_50 rfl (fun _ => ?_) (fun q => absurd q (by decide))
        refine x_aload0 (pc := 55) G dX11_edit_55 ?_
        refine y_gA (pc := 56) G g_78 mG_28 dX11_edit_56 ?_
        refine x_iconst (pc := 59) (v := 4) G dX11_edit_59 ic_4 ?_
        refine x_iload1 (pc := 60) G dX11_edit_60 ?_
        refine x_imul (pc := 61) G dX11_edit_61 ?_
        refine x_iload2 (pc := 62) G dX11_edit_62 ?_
        refine x_iadd (pc := 63) G dX11_edit_63 ?_
        refine y_iald (pc := 64) (v := (gI M 28 ((4 * p1) + p2))) G hM a_28 (by first | exact (hr _ c1.1).1 | exact vin_linep (hr _ c1.1).1 (hr _ c1.1).2.2.2.1 c1.2) gI_sI dX11_edit_64 ?_
        refine x_istore5 (pc := 65) G dX11_edit_65 (Nat.le_of_ble_eq_true rfl) rfl ?_
        refine x_aload0 (pc := 67) G dX11_edit_67 ?_
        refine x_iload1 (pc := 68) G dX11_edit_68 ?_
        refine x_aload0 (pc := 69) G dX11_edit_69 ?_
        refine y_gA (pc := 70) G g_51 mG_19 dX11_edit_70 ?_
        refine x_iload1 (pc := 73) G dX11_edit_73 ?_
        refine y_lald (pc := 74) (v := (gJ M 19 p1)) G hM a_19 (by first | exact (hr _ c1.1).1 | exact vin_linep (hr _ c1.1).1 (hr _ c1.1).2.2.2.1 c1.2) gJ_sI dX11_edit_74 ?_
        refine y_c2 (pc := 75) G (c_frees hl hM (hr _ c1.1).1 (RqOK.fr (hr _ c1.1))) q_ml_X11_274 h_X11_frees rfl ⟨Nat.le_of_ble_eq_true rfl, Nat.le_of_ble_eq_true rfl⟩ (Nat.le_of_ble_eq_true rfl) (Nat.le_refl _) (Nat.le_refl _) dX11_edit_75 ?_
        refine x_lstore6 (pc := 78) G dX11_edit_78 (Nat.le_of_ble_eq_true rfl) rfl ?_
        refine x_aload0 (pc := 80) G dX11_edit_80 ?_
        refine y_gA (pc := 81) G g_78 mG_28 dX11_edit_81 ?_
        refine x_iconst (pc := 84) (v := 4) G dX11_edit_84 ic_4 ?_
        refine x_iload1 (pc := 85) G dX11_edit_85 ?_
        refine x_imul (pc := 86) G dX11_edit_86 ?_
        refine x_iload2 (pc := 87) G dX11_edit_87 ?_
        refine x_iadd (pc := 88) G dX11_edit_88 ?_
        refine x_iload3 (pc := 89) G dX11_edit_89 ?_
        refine y_iast (pc := 90) G hM a_28 (by first | exact (hr _ c1.1).1 | exact vin_linep (hr _ c1.1).1 (hr _ c1.1).2.2.2.1 c1.2) dX11_edit_90 ?_
        refine x_aload0 (pc := 91) G dX11_edit_91 ?_
        refine y_gA (pc := 92) G g_45 mG_17 dX11_edit_92 ?_
        refine x_iload1 (pc := 95) G dX11_edit_95 ?_
        refine x_iconst (pc := 96) (v := 0) G dX11_edit_96 ic_0 ?_
        refine y_iast (pc := 97) G hM a_17 (by first | exact (hr _ c1.1).1 | exact vin_linep (hr _ c1.1).1 (hr _ c1.1).2.2.2.1 c1.2) dX11_edit_97 ?_
        refine x_iload5 (pc := 98) G dX11_edit_98 ?_
        exact x_iret (pc := 100) G B rfl dX11_edit_100 ⟨by rw [f_edit, if_pos c1, if_pos c2, if_pos c3], by rw [f_edit, if_pos c1, if_pos c2, if_pos c3]⟩
      refine x_iconst (pc := 42) (v := 3) G dX11_edit_42 ic_3 ?_
      refine x_goto (pc := 43) (tgt := 47) G dX11_edit_43 rfl ?_
      refine y_c1 (pc := 47) G (c_holdsN hl hM (by decide)) q_ml_X11_210 h_X11_holds rfl ⟨Nat.le_of_ble_eq_true rfl, Nat.le_of_ble_eq_true rfl⟩ (Nat.le_of_ble_eq_true rfl) (Nat.le_refl _) (Nat.le_refl _) dX11_edit_47 ?_
      refine x_if_ne (pc := 50) (y := 0) (tgt := 55) G dX11_edit_50 rfl (fun q => absurd q (by decide)) (fun _ => ?_)
      refine x_iconst (pc := 53) (v := 0) G dX11_edit_53 ic_0 ?_
      exact x_iret (pc := 54) G B rfl dX11_edit_54 ⟨by rw [f_edit, if_pos c1, if_pos c2, if_neg c3], by rw [f_edit, if_pos c1, if_pos c2, if_neg c3]⟩
    refine x_if_ne (pc := 25) (y := 0) (tgt := 32) G dX11_edit_25 rfl (fun q => absurd q (by decide)) (fun _ => ?_)
    refine x_iconst (pc := 28) (v := 2) G dX11_edit_28 ic_2 ?_
    refine x_goto (pc := 29) (tgt := 47) G dX11_edit_29 rfl ?_
    refine y_c1 (pc := 47) G (c_holdsN hl hM (by decide)) q_ml_X11_210 h_X11_holds rfl ⟨Nat.le_of_ble_eq_true rfl, Nat.le_of_ble_eq_true rfl⟩ (Nat.le_of_ble_eq_true rfl) (Nat.le_refl _) (Nat.le_refl _) dX11_edit_47 ?_
    refine x_if_ne (pc := 50) (y := 0) (tgt := 55) G dX11_edit_50 rfl (fun q => absurd q (by decide)) (fun _ => ?_)
    refine x_iconst (pc := 53) (v := 0) G dX11_edit_53 ic_0 ?_
    exact x_iret (pc := 54) G B rfl dX11_edit_54 ⟨by rw [f_edit, if_pos c1, if_neg c2], by rw [f_edit, if_pos c1, if_neg c2]⟩
  refine x_istore4 (pc := 6) G dX11_edit_6 (Nat.le_of_ble_eq_true rfl) rfl ?_
  refine x_aload0 (pc := 8) G dX11_edit_8 ?_
  refine x_iload4 (pc := 9) G dX11_edit_9 ?_
  refine x_if_ne (pc := 11) (y := 0) (tgt := 18) G dX11_edit_11 rfl (fun q => absurd q (by decide)) (fun _ => ?_)
  refine x_iconst (pc := 14) (v := 1) G dX11_edit_14 ic_1 ?_
  refine x_goto (pc := 15) (tgt := 47) G dX11_edit_15 rfl ?_
  refine y_c1 (pc := 47) G (c_holdsN hl hM (by decide)) q_ml_X11_210 h_X11_holds rfl ⟨Nat.le_of_ble_eq_true rfl, Nat.le_of_ble_eq_true rfl⟩ (Nat.le_of_ble_eq_true rfl) (Nat.le_refl _) (Nat.le_refl _) dX11_edit_47 ?_
  refine x_if_ne (pc := 50) (y := 0) (tgt := 55) G dX11_edit_50 rfl (fun q => absurd q (by decide)) (fun _ => ?_)
  refine x_iconst (pc := 53) (v := 0) G dX11_edit_53 ic_0 ?_
  exact x_iret (pc := 54) G B rfl dX11_edit_54 ⟨by rw [f_edit, if_neg c1], by rw [f_edit, if_neg c1]⟩
theorem dX11_order_0 : decode cX11_order 0 = .ok (.aload_n 0, 1) := by decide +kernel
theorem dX11_order_1 : decode cX11_order 1 = .ok (.iload_n 1, 1) := by decide +kernel
theorem dX11_order_2 : decode cX11_order 2 = .ok (.invokevirtual 188, 3) := by decide +kernel
theorem dX11_order_5 : decode cX11_order 5 = .ok (.ifCond .eq 16, 3) := by decide +kernel
theorem dX11_order_8 : decode cX11_order 8 = .ok (.iload_n 2, 1) := by decide +kernel
theorem dX11_order_9 : decode cX11_order 9 = .ok (.iconst 0, 1) := by decide +kernel
theorem dX11_order_10 : decode cX11_order 10 = .ok (.iconst 5, 1) := by decide +kernel
theorem dX11_order_11 : decode cX11_order 11 = .ok (.invokestatic 181, 3) := by decide +kernel
theorem dX11_order_14 : decode cX11_order 14 = .ok (.ifCond .eq 7, 3) := by decide +kernel
theorem dX11_order_17 : decode cX11_order 17 = .ok (.iconst 1, 1) := by decide +kernel
theorem dX11_order_18 : decode cX11_order 18 = .ok (.goto 4, 3) := by decide +kernel
theorem dX11_order_21 : decode cX11_order 21 = .ok (.iconst 0, 1) := by decide +kernel
theorem dX11_order_22 : decode cX11_order 22 = .ok (.istore_n 3, 1) := by decide +kernel
theorem dX11_order_23 : decode cX11_order 23 = .ok (.aload_n 0, 1) := by decide +kernel
theorem dX11_order_24 : decode cX11_order 24 = .ok (.iload_n 3, 1) := by decide +kernel
theorem dX11_order_25 : decode cX11_order 25 = .ok (.ifCond .ne 7, 3) := by decide +kernel
theorem dX11_order_28 : decode cX11_order 28 = .ok (.iconst 1, 1) := by decide +kernel
theorem dX11_order_29 : decode cX11_order 29 = .ok (.goto 18, 3) := by decide +kernel
theorem dX11_order_32 : decode cX11_order 32 = .ok (.aload_n 0, 1) := by decide +kernel
theorem dX11_order_33 : decode cX11_order 33 = .ok (.getfield 45, 3) := by decide +kernel
theorem dX11_order_36 : decode cX11_order 36 = .ok (.iload_n 1, 1) := by decide +kernel
theorem dX11_order_37 : decode cX11_order 37 = .ok (.iaload, 1) := by decide +kernel
theorem dX11_order_38 : decode cX11_order 38 = .ok (.iconst 2, 1) := by decide +kernel
theorem dX11_order_39 : decode cX11_order 39 = .ok (.if_icmp .ne 7, 3) := by decide +kernel
theorem dX11_order_42 : decode cX11_order 42 = .ok (.iconst 0, 1) := by decide +kernel
theorem dX11_order_43 : decode cX11_order 43 = .ok (.goto 4, 3) := by decide +kernel
theorem dX11_order_46 : decode cX11_order 46 = .ok (.iconst 2, 1) := by decide +kernel
theorem dX11_order_47 : decode cX11_order 47 = .ok (.invokevirtual 210, 3) := by decide +kernel
theorem dX11_order_50 : decode cX11_order 50 = .ok (.ifCond .eq 28, 3) := by decide +kernel
theorem dX11_order_53 : decode cX11_order 53 = .ok (.aload_n 0, 1) := by decide +kernel
theorem dX11_order_54 : decode cX11_order 54 = .ok (.getfield 45, 3) := by decide +kernel
theorem dX11_order_57 : decode cX11_order 57 = .ok (.iload_n 1, 1) := by decide +kernel
theorem dX11_order_58 : decode cX11_order 58 = .ok (.iconst 4, 1) := by decide +kernel
theorem dX11_order_59 : decode cX11_order 59 = .ok (.iastore, 1) := by decide +kernel
theorem dX11_order_60 : decode cX11_order 60 = .ok (.aload_n 0, 1) := by decide +kernel
theorem dX11_order_61 : decode cX11_order 61 = .ok (.getfield 57, 3) := by decide +kernel
theorem dX11_order_64 : decode cX11_order 64 = .ok (.iload_n 1, 1) := by decide +kernel
theorem dX11_order_65 : decode cX11_order 65 = .ok (.iload_n 2, 1) := by decide +kernel
theorem dX11_order_66 : decode cX11_order 66 = .ok (.iastore, 1) := by decide +kernel
theorem dX11_order_67 : decode cX11_order 67 = .ok (.aload_n 0, 1) := by decide +kernel
theorem dX11_order_68 : decode cX11_order 68 = .ok (.getfield 60, 3) := by decide +kernel
theorem dX11_order_71 : decode cX11_order 71 = .ok (.iload_n 1, 1) := by decide +kernel
theorem dX11_order_72 : decode cX11_order 72 = .ok (.aload_n 0, 1) := by decide +kernel
theorem dX11_order_73 : decode cX11_order 73 = .ok (.iload_n 1, 1) := by decide +kernel
theorem dX11_order_74 : decode cX11_order 74 = .ok (.invokevirtual 246, 3) := by decide +kernel
theorem dX11_order_77 : decode cX11_order 77 = .ok (.lastore, 1) := by decide +kernel
theorem dX11_order_78 : decode cX11_order 78 = .ok (.return_, 1) := by decide +kernel
def f_order (p1 : Int32) (p2 : Int32) (M : MS) : MS :=
    if P_isRequest p1 M then
      if P_in p2 0 5 then
        if (gI M 17 p1) = 2 then
          (rJ (rI (rI (sI M 0 0) 17 p1 4) 21 p1 p2) 22 p1 (f_total p1 (rI (rI (sI M 0 0) 17 p1 4) 21 p1 p2)))
        else
        (sI M 0 2)
      else
      (sI M 0 1)
    else
    (sI M 0 1)
abbrev rm_X11_order : Room := { frames := 2, cells := 0, slots := 0, locals := 43 }
set_option maxRecDepth 100000 in
set_option maxHeartbeats 4000000 in
theorem c_order {l : Launch} {k : KC} {mo : Nat} {ad : Nat → Nat} (hl : l.stackTraces = false) (hM : HM mo ad) {M : MS} {p1 : Int32} {p2 : Int32} (hr : ∀ r, P_isRequest r M → RqOK M r) : CM l k mo ad yX11_order (.code yX11_order cX11_order 4 none) rm_X11_order [.int p1, .int p2] M none (f_order p1 p2 M) := by
  refine MC.of 1 hl (by decide) (Nat.le_of_ble_eq_true rfl) ?_
  intro p e s m args below meth c A Q G B _ _
  show Wx p l e rm_X11_order s m args below meth c k A 4 Q 0 0 0 [some (.ref mo), some (.int p1), some (.int p2), none] [] (mW k mo ad M)
  refine x_aload0 (pc := 0) G dX11_order_0 ?_
  refine x_iload1 (pc := 1) G dX11_order_1 ?_
  refine y_cb1 (pc := 2) G (b_isRequest hl hM ) q_ml_X11_188 h_X11_isRequest rfl ⟨Nat.le_of_ble_eq_true rfl, Nat.le_of_ble_eq_true rfl⟩ (Nat.le_of_ble_eq_true rfl) (Nat.le_refl _) (Nat.le_refl _) dX11_order_2 (fun c1 => ?_) (fun c1 => ?_)
  · refine x_if_eq (pc := 5) (y := 0) (tgt := 21) G dX11_order_5 rfl (fun q => absurd q (by decide)) (fun _ => ?_)
    refine x_iload2 (pc := 8) G dX11_order_8 ?_
    refine x_iconst (pc := 9) (v := 0) G dX11_order_9 ic_0 ?_
    refine x_iconst (pc := 10) (v := 5) G dX11_order_10 ic_5 ?_
    refine x_cSb3 (pc := 11) G (b_in hl hM _) q_ml_X11_181 h_X11_in ⟨Nat.le_of_ble_eq_true rfl, Nat.le_of_ble_eq_true rfl⟩ (Nat.le_of_ble_eq_true rfl) (Nat.le_refl _) (Nat.le_refl _) dX11_order_11 (fun c2 => ?_) (fun c2 => ?_)
    · refine x_if_eq (pc := 14) (y := 0) (tgt := 21) G dX11_order_14 rfl (fun q => absurd q (by decide)) (fun _ => ?_)
      refine x_iconst (pc := 17) (v := 1) G dX11_order_17 ic_1 ?_
      refine x_goto (pc := 18) (tgt := 22) G dX11_order_18 rfl ?_
      refine x_istore3 (pc := 22) G dX11_order_22 (Nat.le_of_ble_eq_true rfl) rfl ?_
      refine x_aload0 (pc := 23) G dX11_order_23 ?_
      refine x_iload3 (pc := 24) G dX11_order_24 ?_
      refine x_if_ne (pc := 25) (y := 0) (tgt := 32) G dX11_order_25 rfl (fun _ => ?_) (fun q => absurd q (by decide))
      refine x_aload0 (pc := 32) G dX11_order_32 ?_
      refine y_gA (pc := 33) G g_45 mG_17 dX11_order_33 ?_
      refine x_iload1 (pc := 36) G dX11_order_36 ?_
      refine y_iald (pc := 37) (v := (gI M 17 p1)) G hM a_17 (by first | exact (hr _ (by assumption)).1) rfl dX11_order_37 ?_
      refine x_iconst (pc := 38) (v := 2) G dX11_order_38 ic_2 ?_
      refine x_icmp_ne (pc := 39) (tgt := 46) G dX11_order_39 rfl (fun c3 => ?_) (fun c3 => ?_)
      · refine x_iconst (pc := 46) (v := 2) G dX11_order_46 ic_2 ?_
        refine y_c1 (pc := 47) G (c_holdsN hl hM (by decide)) q_ml_X11_210 h_X11_holds rfl ⟨Nat.le_of_ble_eq_true rfl, Nat.le_of_ble_eq_true rfl⟩ (Nat.le_of_ble_eq_true rfl) (Nat.le_refl _) (Nat.le_refl _) dX11_order_47 ?_
        refine x_if_eq (pc := 50) (y := 0) (tgt := 78) G dX11_order_50 rfl (fun _ => ?_) (fun q => absurd q (by decide))
        exact x_vret (pc := 78) G B rfl dX11_order_78 ⟨rfl, by rw [f_order, if_pos c1, if_pos c2, if_neg c3]⟩
      refine x_iconst (pc := 42) (v := 0) G dX11_order_42 ic_0 ?_
      refine x_goto (pc := 43) (tgt := 47) G dX11_order_43 rfl ?_
      refine y_c1 (pc := 47) G (c_holds0 hl hM) q_ml_X11_210 h_X11_holds rfl ⟨Nat.le_of_ble_eq_true rfl, Nat.le_of_ble_eq_true rfl⟩ (Nat.le_of_ble_eq_true rfl) (Nat.le_refl _) (Nat.le_refl _) dX11_order_47 ?_
      refine x_if_eq (pc := 50) (y := 0) (tgt := 78) G dX11_order_50 rfl (fun q => absurd q (by decide)) (fun _ => ?_)
      refine x_aload0 (pc := 53) G dX11_order_53 ?_
      refine y_gA (pc := 54) G g_45 mG_17 dX11_order_54 ?_
      refine x_iload1 (pc := 57) G dX11_order_57 ?_
      refine x_iconst (pc := 58) (v := 4) G dX11_order_58 ic_4 ?_
      refine y_iast (pc := 59) G hM a_17 (by first | exact (hr _ (by assumption)).1) dX11_order_59 ?_
      refine x_aload0 (pc := 60) G dX11_order_60 ?_
      refine y_gA (pc := 61) G g_57 mG_21 dX11_order_61 ?_
      refine x_iload1 (pc := 64) G dX11_order_64 ?_
      refine x_iload2 (pc := 65) G dX11_order_65 ?_
      refine y_iast (pc := 66) G hM a_21 (by first | exact (hr _ (by assumption)).1) dX11_order_66 ?_
      refine x_aload0 (pc := 67) G dX11_order_67 ?_
      refine y_gA (pc := 68) G g_60 mG_22 dX11_order_68 ?_
      refine x_iload1 (pc := 71) G dX11_order_71 ?_
      refine x_aload0 (pc := 72) G dX11_order_72 ?_
      refine x_iload1 (pc := 73) G dX11_order_73 ?_
      refine y_c1 (pc := 74) G (c_total hl hM (hr _ (by assumption)).1 (hr _ (by assumption)).2.2.2.1) q_ml_X11_246 h_X11_total rfl ⟨Nat.le_of_ble_eq_true rfl, Nat.le_of_ble_eq_true rfl⟩ (Nat.le_of_ble_eq_true rfl) (Nat.le_refl _) (Nat.le_refl _) dX11_order_74 ?_
      refine y_last (pc := 77) G hM a_22 (by first | exact (hr _ (by assumption)).1) dX11_order_77 ?_
      exact x_vret (pc := 78) G B rfl dX11_order_78 ⟨rfl, by rw [f_order, if_pos c1, if_pos c2, if_pos c3]⟩
    refine x_if_eq (pc := 14) (y := 0) (tgt := 21) G dX11_order_14 rfl (fun _ => ?_) (fun q => absurd q (by decide))
    refine x_iconst (pc := 21) (v := 0) G dX11_order_21 ic_0 ?_
    refine x_istore3 (pc := 22) G dX11_order_22 (Nat.le_of_ble_eq_true rfl) rfl ?_
    refine x_aload0 (pc := 23) G dX11_order_23 ?_
    refine x_iload3 (pc := 24) G dX11_order_24 ?_
    refine x_if_ne (pc := 25) (y := 0) (tgt := 32) G dX11_order_25 rfl (fun q => absurd q (by decide)) (fun _ => ?_)
    refine x_iconst (pc := 28) (v := 1) G dX11_order_28 ic_1 ?_
    refine x_goto (pc := 29) (tgt := 47) G dX11_order_29 rfl ?_
    refine y_c1 (pc := 47) G (c_holdsN hl hM (by decide)) q_ml_X11_210 h_X11_holds rfl ⟨Nat.le_of_ble_eq_true rfl, Nat.le_of_ble_eq_true rfl⟩ (Nat.le_of_ble_eq_true rfl) (Nat.le_refl _) (Nat.le_refl _) dX11_order_47 ?_
    refine x_if_eq (pc := 50) (y := 0) (tgt := 78) G dX11_order_50 rfl (fun _ => ?_) (fun q => absurd q (by decide))
    exact x_vret (pc := 78) G B rfl dX11_order_78 ⟨rfl, by rw [f_order, if_pos c1, if_neg c2]⟩
  refine x_if_eq (pc := 5) (y := 0) (tgt := 21) G dX11_order_5 rfl (fun _ => ?_) (fun q => absurd q (by decide))
  refine x_iconst (pc := 21) (v := 0) G dX11_order_21 ic_0 ?_
  refine x_istore3 (pc := 22) G dX11_order_22 (Nat.le_of_ble_eq_true rfl) rfl ?_
  refine x_aload0 (pc := 23) G dX11_order_23 ?_
  refine x_iload3 (pc := 24) G dX11_order_24 ?_
  refine x_if_ne (pc := 25) (y := 0) (tgt := 32) G dX11_order_25 rfl (fun q => absurd q (by decide)) (fun _ => ?_)
  refine x_iconst (pc := 28) (v := 1) G dX11_order_28 ic_1 ?_
  refine x_goto (pc := 29) (tgt := 47) G dX11_order_29 rfl ?_
  refine y_c1 (pc := 47) G (c_holdsN hl hM (by decide)) q_ml_X11_210 h_X11_holds rfl ⟨Nat.le_of_ble_eq_true rfl, Nat.le_of_ble_eq_true rfl⟩ (Nat.le_of_ble_eq_true rfl) (Nat.le_refl _) (Nat.le_refl _) dX11_order_47 ?_
  refine x_if_eq (pc := 50) (y := 0) (tgt := 78) G dX11_order_50 rfl (fun _ => ?_) (fun q => absurd q (by decide))
  exact x_vret (pc := 78) G B rfl dX11_order_78 ⟨rfl, by rw [f_order, if_neg c1]⟩
theorem dX11_why_0 : decode cX11_why 0 = .ok (.aload_n 0, 1) := by decide +kernel
theorem dX11_why_1 : decode cX11_why 1 = .ok (.getfield 112, 3) := by decide +kernel
theorem dX11_why_4 : decode cX11_why 4 = .ok (.iload_n 1, 1) := by decide +kernel
theorem dX11_why_5 : decode cX11_why 5 = .ok (.iaload, 1) := by decide +kernel
theorem dX11_why_6 : decode cX11_why 6 = .ok (.istore_n 2, 1) := by decide +kernel
theorem dX11_why_7 : decode cX11_why 7 = .ok (.aload_n 0, 1) := by decide +kernel
theorem dX11_why_8 : decode cX11_why 8 = .ok (.getfield 75, 3) := by decide +kernel
theorem dX11_why_11 : decode cX11_why 11 = .ok (.iload_n 2, 1) := by decide +kernel
theorem dX11_why_12 : decode cX11_why 12 = .ok (.baload, 1) := by decide +kernel
theorem dX11_why_13 : decode cX11_why 13 = .ok (.ifCond .eq 12, 3) := by decide +kernel
theorem dX11_why_16 : decode cX11_why 16 = .ok (.aload_n 0, 1) := by decide +kernel
theorem dX11_why_17 : decode cX11_why 17 = .ok (.getfield 78, 3) := by decide +kernel
theorem dX11_why_20 : decode cX11_why 20 = .ok (.iload_n 2, 1) := by decide +kernel
theorem dX11_why_21 : decode cX11_why 21 = .ok (.iaload, 1) := by decide +kernel
theorem dX11_why_22 : decode cX11_why 22 = .ok (.goto 9, 3) := by decide +kernel
theorem dX11_why_25 : decode cX11_why 25 = .ok (.aload_n 0, 1) := by decide +kernel
theorem dX11_why_26 : decode cX11_why 26 = .ok (.getfield 84, 3) := by decide +kernel
theorem dX11_why_29 : decode cX11_why 29 = .ok (.iload_n 2, 1) := by decide +kernel
theorem dX11_why_30 : decode cX11_why 30 = .ok (.iaload, 1) := by decide +kernel
theorem dX11_why_31 : decode cX11_why 31 = .ok (.istore_n 3, 1) := by decide +kernel
theorem dX11_why_32 : decode cX11_why 32 = .ok (.aload_n 0, 1) := by decide +kernel
theorem dX11_why_33 : decode cX11_why 33 = .ok (.getfield 115, 3) := by decide +kernel
theorem dX11_why_36 : decode cX11_why 36 = .ok (.iload_n 1, 1) := by decide +kernel
theorem dX11_why_37 : decode cX11_why 37 = .ok (.iaload, 1) := by decide +kernel
theorem dX11_why_38 : decode cX11_why 38 = .ok (.i2l, 1) := by decide +kernel
theorem dX11_why_39 : decode cX11_why 39 = .ok (.aload_n 0, 1) := by decide +kernel
theorem dX11_why_40 : decode cX11_why 40 = .ok (.getfield 81, 3) := by decide +kernel
theorem dX11_why_43 : decode cX11_why 43 = .ok (.iload_n 2, 1) := by decide +kernel
theorem dX11_why_44 : decode cX11_why 44 = .ok (.iaload, 1) := by decide +kernel
theorem dX11_why_45 : decode cX11_why 45 = .ok (.i2l, 1) := by decide +kernel
theorem dX11_why_46 : decode cX11_why 46 = .ok (.lmul, 1) := by decide +kernel
theorem dX11_why_47 : decode cX11_why 47 = .ok (.lstore 4, 2) := by decide +kernel
theorem dX11_why_49 : decode cX11_why 49 = .ok (.aload_n 0, 1) := by decide +kernel
theorem dX11_why_50 : decode cX11_why 50 = .ok (.getfield 127, 3) := by decide +kernel
theorem dX11_why_53 : decode cX11_why 53 = .ok (.iload_n 1, 1) := by decide +kernel
theorem dX11_why_54 : decode cX11_why 54 = .ok (.baload, 1) := by decide +kernel
theorem dX11_why_55 : decode cX11_why 55 = .ok (.ifCond .ne 30, 3) := by decide +kernel
theorem dX11_why_58 : decode cX11_why 58 = .ok (.aload_n 0, 1) := by decide +kernel
theorem dX11_why_59 : decode cX11_why 59 = .ok (.getfield 121, 3) := by decide +kernel
theorem dX11_why_62 : decode cX11_why 62 = .ok (.iload_n 1, 1) := by decide +kernel
theorem dX11_why_63 : decode cX11_why 63 = .ok (.laload, 1) := by decide +kernel
theorem dX11_why_64 : decode cX11_why 64 = .ok (.lload 4, 2) := by decide +kernel
theorem dX11_why_66 : decode cX11_why 66 = .ok (.lload 4, 2) := by decide +kernel
theorem dX11_why_68 : decode cX11_why 68 = .ok (.ldc2_w 281, 3) := by decide +kernel
theorem dX11_why_71 : decode cX11_why 71 = .ok (.lmul, 1) := by decide +kernel
theorem dX11_why_72 : decode cX11_why 72 = .ok (.ldc2_w 234, 3) := by decide +kernel
theorem dX11_why_75 : decode cX11_why 75 = .ok (.ldiv, 1) := by decide +kernel
theorem dX11_why_76 : decode cX11_why 76 = .ok (.ladd, 1) := by decide +kernel
theorem dX11_why_77 : decode cX11_why 77 = .ok (.lcmp, 1) := by decide +kernel
theorem dX11_why_78 : decode cX11_why 78 = .ok (.ifCond .le 7, 3) := by decide +kernel
theorem dX11_why_81 : decode cX11_why 81 = .ok (.iconst 1, 1) := by decide +kernel
theorem dX11_why_82 : decode cX11_why 82 = .ok (.goto 4, 3) := by decide +kernel
theorem dX11_why_85 : decode cX11_why 85 = .ok (.iconst 0, 1) := by decide +kernel
theorem dX11_why_86 : decode cX11_why 86 = .ok (.istore 6, 2) := by decide +kernel
theorem dX11_why_88 : decode cX11_why 88 = .ok (.aload_n 0, 1) := by decide +kernel
theorem dX11_why_89 : decode cX11_why 89 = .ok (.getfield 115, 3) := by decide +kernel
theorem dX11_why_92 : decode cX11_why 92 = .ok (.iload_n 1, 1) := by decide +kernel
theorem dX11_why_93 : decode cX11_why 93 = .ok (.iaload, 1) := by decide +kernel
theorem dX11_why_94 : decode cX11_why 94 = .ok (.aload_n 0, 1) := by decide +kernel
theorem dX11_why_95 : decode cX11_why 95 = .ok (.iload_n 2, 1) := by decide +kernel
theorem dX11_why_96 : decode cX11_why 96 = .ok (.invokevirtual 230, 3) := by decide +kernel
theorem dX11_why_99 : decode cX11_why 99 = .ok (.iadd, 1) := by decide +kernel
theorem dX11_why_100 : decode cX11_why 100 = .ok (.iload_n 3, 1) := by decide +kernel
theorem dX11_why_101 : decode cX11_why 101 = .ok (.if_icmp .le 7, 3) := by decide +kernel
theorem dX11_why_104 : decode cX11_why 104 = .ok (.iconst 1, 1) := by decide +kernel
theorem dX11_why_105 : decode cX11_why 105 = .ok (.goto 4, 3) := by decide +kernel
theorem dX11_why_108 : decode cX11_why 108 = .ok (.iconst 0, 1) := by decide +kernel
theorem dX11_why_109 : decode cX11_why 109 = .ok (.iload 6, 2) := by decide +kernel
theorem dX11_why_111 : decode cX11_why 111 = .ok (.ifCond .eq 7, 3) := by decide +kernel
theorem dX11_why_114 : decode cX11_why 114 = .ok (.iconst 2, 1) := by decide +kernel
theorem dX11_why_115 : decode cX11_why 115 = .ok (.goto 4, 3) := by decide +kernel
theorem dX11_why_118 : decode cX11_why 118 = .ok (.iconst 0, 1) := by decide +kernel
theorem dX11_why_119 : decode cX11_why 119 = .ok (.iadd, 1) := by decide +kernel
theorem dX11_why_120 : decode cX11_why 120 = .ok (.ireturn, 1) := by decide +kernel
def f_why (p1 : Int32) (M : MS) : Int32 :=
    if (gI M 27 (gI M 40 p1)) = 0 then
      if (gI M 45 p1) = 0 then
        if (lg_cmp (gJ M 43 p1) ((((gI M 41 p1).toInt64) * ((gI M 29 (gI M 40 p1)).toInt64)) + (((((gI M 41 p1).toInt64) * ((gI M 29 (gI M 40 p1)).toInt64)) * 5) / 100))) ≤ 0 then
          if ((gI M 41 p1) + (f_bookedPieces (gI M 40 p1) M)) ≤ (gI M 30 (gI M 40 p1)) then
            (0 + 0)
          else
          (1 + 0)
        else
        if ((gI M 41 p1) + (f_bookedPieces (gI M 40 p1) M)) ≤ (gI M 30 (gI M 40 p1)) then
          (0 + 2)
        else
        (1 + 2)
      else
      if ((gI M 41 p1) + (f_bookedPieces (gI M 40 p1) M)) ≤ (gI M 30 (gI M 40 p1)) then
        (0 + 0)
      else
      (1 + 0)
    else
    if (gI M 45 p1) = 0 then
      if (lg_cmp (gJ M 43 p1) ((((gI M 41 p1).toInt64) * ((gI M 29 (gI M 40 p1)).toInt64)) + (((((gI M 41 p1).toInt64) * ((gI M 29 (gI M 40 p1)).toInt64)) * 5) / 100))) ≤ 0 then
        if ((gI M 41 p1) + (f_bookedPieces (gI M 40 p1) M)) ≤ (gI M 28 (gI M 40 p1)) then
          (0 + 0)
        else
        (1 + 0)
      else
      if ((gI M 41 p1) + (f_bookedPieces (gI M 40 p1) M)) ≤ (gI M 28 (gI M 40 p1)) then
        (0 + 2)
      else
      (1 + 2)
    else
    if ((gI M 41 p1) + (f_bookedPieces (gI M 40 p1) M)) ≤ (gI M 28 (gI M 40 p1)) then
      (0 + 0)
    else
    (1 + 0)
abbrev rm_X11_why : Room := { frames := 1, cells := 0, slots := 0, locals := 23 }
set_option maxRecDepth 100000 in
set_option maxHeartbeats 4000000 in
theorem c_why {l : Launch} {k : KC} {mo : Nat} {ad : Nat → Nat} (hl : l.stackTraces = false) (hM : HM mo ad) {M : MS} {p1 : Int32} (hi : IvOK M p1) (h39 : LE (mI M 39) 60) : CM l k mo ad yX11_why (.code yX11_why cX11_why 7 (some .int)) rm_X11_why [.int p1] M (some (.int (f_why p1 M))) M := by
  refine MC.of 5 hl (by decide) (Nat.le_of_ble_eq_true rfl) ?_
  intro p e s m args below meth c A Q G B _ _
  show Wx p l e rm_X11_why s m args below meth c k A 7 Q 0 0 0 [some (.ref mo), some (.int p1), none, none, none, none, none] [] (mW k mo ad M)
  refine x_aload0 (pc := 0) G dX11_why_0 ?_
  refine y_gA (pc := 1) G g_112 mG_40 dX11_why_1 ?_
  refine x_iload1 (pc := 4) G dX11_why_4 ?_
  refine y_iald (pc := 5) (v := (gI M 40 p1)) G hM a_40 (by first | exact hi.1 | exact hi.2.1) rfl dX11_why_5 ?_
  refine x_istore2 (pc := 6) G dX11_why_6 (Nat.le_of_ble_eq_true rfl) rfl ?_
  refine x_aload0 (pc := 7) G dX11_why_7 ?_
  refine y_gA (pc := 8) G g_75 mG_27 dX11_why_8 ?_
  refine x_iload2 (pc := 11) G dX11_why_11 ?_
  refine y_zald (pc := 12) (v := (gI M 27 (gI M 40 p1))) G hM a_27 (by first | exact hi.1 | exact hi.2.1) rfl dX11_why_12 ?_
  refine x_if_eq (pc := 13) (y := 0) (tgt := 25) G dX11_why_13 rfl (fun c1 => ?_) (fun c1 => ?_)
  · refine x_aload0 (pc := 25) G dX11_why_25 ?_
    refine y_gA (pc := 26) G g_84 mG_30 dX11_why_26 ?_
    refine x_iload2 (pc := 29) G dX11_why_29 ?_
    refine y_iald (pc := 30) (v := (gI M 30 (gI M 40 p1))) G hM a_30 (by first | exact hi.1 | exact hi.2.1) rfl dX11_why_30 ?_
    refine x_istore3 (pc := 31) G dX11_why_31 (Nat.le_of_ble_eq_true rfl) rfl ?_
    refine x_aload0 (pc := 32) G dX11_why_32 ?_
    refine y_gA (pc := 33) G g_115 mG_41 dX11_why_33 ?_
    refine x_iload1 (pc := 36) G dX11_why_36 ?_
    refine y_iald (pc := 37) (v := (gI M 41 p1)) G hM a_41 (by first | exact hi.1 | exact hi.2.1) rfl dX11_why_37 ?_
    refine x_i2l (pc := 38) G dX11_why_38 ?_
    refine x_aload0 (pc := 39) G dX11_why_39 ?_
    refine y_gA (pc := 40) G g_81 mG_29 dX11_why_40 ?_
    refine x_iload2 (pc := 43) G dX11_why_43 ?_
    refine y_iald (pc := 44) (v := (gI M 29 (gI M 40 p1))) G hM a_29 (by first | exact hi.1 | exact hi.2.1) rfl dX11_why_44 ?_
    refine x_i2l (pc := 45) G dX11_why_45 ?_
    refine x_lmul (pc := 46) G dX11_why_46 ?_
    refine x_lstore4 (pc := 47) G dX11_why_47 (Nat.le_of_ble_eq_true rfl) rfl ?_
    refine x_aload0 (pc := 49) G dX11_why_49 ?_
    refine y_gA (pc := 50) G g_127 mG_45 dX11_why_50 ?_
    refine x_iload1 (pc := 53) G dX11_why_53 ?_
    refine y_zald (pc := 54) (v := (gI M 45 p1)) G hM a_45 (by first | exact hi.1 | exact hi.2.1) rfl dX11_why_54 ?_
    refine x_if_ne (pc := 55) (y := 0) (tgt := 85) G dX11_why_55 rfl (fun c2 => ?_) (fun c2 => ?_)
    · refine x_iconst (pc := 85) (v := 0) G dX11_why_85 ic_0 ?_
      refine x_istore6 (pc := 86) G dX11_why_86 (Nat.le_of_ble_eq_true rfl) rfl ?_
      refine x_aload0 (pc := 88) G dX11_why_88 ?_
      refine y_gA (pc := 89) G g_115 mG_41 dX11_why_89 ?_
      refine x_iload1 (pc := 92) G dX11_why_92 ?_
      refine y_iald (pc := 93) (v := (gI M 41 p1)) G hM a_41 (by first | exact hi.1 | exact hi.2.1) rfl dX11_why_93 ?_
      refine x_aload0 (pc := 94) G dX11_why_94 ?_
      refine x_iload2 (pc := 95) G dX11_why_95 ?_
      refine y_c1 (pc := 96) G (c_bookedPieces hl hM h39) q_ml_X11_230 h_X11_bookedPieces rfl ⟨Nat.le_of_ble_eq_true rfl, Nat.le_of_ble_eq_true rfl⟩ (Nat.le_of_ble_eq_true rfl) (Nat.le_refl _) (Nat.le_refl _) dX11_why_96 ?_
      refine x_iadd (pc := 99) G dX11_why_99 ?_
      refine x_iload3 (pc := 100) G dX11_why_100 ?_
      refine x_icmp_le (pc := 101) (tgt := 108) G dX11_why_101 rfl (fun c3 => ?_) (fun c3 => ?_)
      · refine x_iconst (pc := 108) (v := 0) G dX11_why_108 ic_0 ?_
        refine x_iload6 (pc := 109) G dX11_why_109 ?_
        refine x_if_eq (pc := 111) (y := 0) (tgt := 118) G dX11_why_111 rfl (fun _ => ?_) (fun q => absurd q (by decide))
        refine x_iconst (pc := 118) (v := 0) G dX11_why_118 ic_0 ?_
        refine x_iadd (pc := 119) G dX11_why_119 ?_
        exact x_iret (pc := 120) G B rfl dX11_why_120 ⟨by rw [f_why, if_pos c1, if_neg c2, if_pos c3], rfl⟩
      refine x_iconst (pc := 104) (v := 1) G dX11_why_104 ic_1 ?_
      refine x_goto (pc := 105) (tgt := 109) G dX11_why_105 rfl ?_
      refine x_iload6 (pc := 109) G dX11_why_109 ?_
      refine x_if_eq (pc := 111) (y := 0) (tgt := 118) G dX11_why_111 rfl (fun _ => ?_) (fun q => absurd q (by decide))
      refine x_iconst (pc := 118) (v := 0) G dX11_why_118 ic_0 ?_
      refine x_iadd (pc := 119) G dX11_why_119 ?_
      exact x_iret (pc := 120) G B rfl dX11_why_120 ⟨by rw [f_why, if_pos c1, if_neg c2, if_neg c3], rfl⟩
    refine x_aload0 (pc := 58) G dX11_why_58 ?_
    refine y_gA (pc := 59) G g_121 mG_43 dX11_why_59 ?_
    refine x_iload1 (pc := 62) G dX11_why_62 ?_
    refine y_lald (pc := 63) (v := (gJ M 43 p1)) G hM a_43 (by first | exact hi.1 | exact hi.2.1) rfl dX11_why_63 ?_
    refine x_lload4 (pc := 64) G dX11_why_64 ?_
    refine x_lload4 (pc := 66) G dX11_why_66 ?_
    refine x_ldc2 (pc := 68) G q_cL_X11_281 dX11_why_68 ?_
    refine x_lmul (pc := 71) G dX11_why_71 ?_
    refine x_ldc2 (pc := 72) G q_cL_X11_234 dX11_why_72 ?_
    refine x_ldiv (pc := 75) G dX11_why_75 (by decide) ?_
    refine x_ladd (pc := 76) G dX11_why_76 ?_
    refine x_lcmp (pc := 77) G dX11_why_77 ?_
    refine x_if_le (pc := 78) (y := 0) (tgt := 85) G dX11_why_78 rfl (fun c4 => ?_) (fun c4 => ?_)
    · refine x_iconst (pc := 85) (v := 0) G dX11_why_85 ic_0 ?_
      refine x_istore6 (pc := 86) G dX11_why_86 (Nat.le_of_ble_eq_true rfl) rfl ?_
      refine x_aload0 (pc := 88) G dX11_why_88 ?_
      refine y_gA (pc := 89) G g_115 mG_41 dX11_why_89 ?_
      refine x_iload1 (pc := 92) G dX11_why_92 ?_
      refine y_iald (pc := 93) (v := (gI M 41 p1)) G hM a_41 (by first | exact hi.1 | exact hi.2.1) rfl dX11_why_93 ?_
      refine x_aload0 (pc := 94) G dX11_why_94 ?_
      refine x_iload2 (pc := 95) G dX11_why_95 ?_
      refine y_c1 (pc := 96) G (c_bookedPieces hl hM h39) q_ml_X11_230 h_X11_bookedPieces rfl ⟨Nat.le_of_ble_eq_true rfl, Nat.le_of_ble_eq_true rfl⟩ (Nat.le_of_ble_eq_true rfl) (Nat.le_refl _) (Nat.le_refl _) dX11_why_96 ?_
      refine x_iadd (pc := 99) G dX11_why_99 ?_
      refine x_iload3 (pc := 100) G dX11_why_100 ?_
      refine x_icmp_le (pc := 101) (tgt := 108) G dX11_why_101 rfl (fun c5 => ?_) (fun c5 => ?_)
      · refine x_iconst (pc := 108) (v := 0) G dX11_why_108 ic_0 ?_
        refine x_iload6 (pc := 109) G dX11_why_109 ?_
        refine x_if_eq (pc := 111) (y := 0) (tgt := 118) G dX11_why_111 rfl (fun _ => ?_) (fun q => absurd q (by decide))
        refine x_iconst (pc := 118) (v := 0) G dX11_why_118 ic_0 ?_
        refine x_iadd (pc := 119) G dX11_why_119 ?_
        exact x_iret (pc := 120) G B rfl dX11_why_120 ⟨by rw [f_why, if_pos c1, if_pos c2, if_pos c4, if_pos c5], rfl⟩
      refine x_iconst (pc := 104) (v := 1) G dX11_why_104 ic_1 ?_
      refine x_goto (pc := 105) (tgt := 109) G dX11_why_105 rfl ?_
      refine x_iload6 (pc := 109) G dX11_why_109 ?_
      refine x_if_eq (pc := 111) (y := 0) (tgt := 118) G dX11_why_111 rfl (fun _ => ?_) (fun q => absurd q (by decide))
      refine x_iconst (pc := 118) (v := 0) G dX11_why_118 ic_0 ?_
      refine x_iadd (pc := 119) G dX11_why_119 ?_
      exact x_iret (pc := 120) G B rfl dX11_why_120 ⟨by rw [f_why, if_pos c1, if_pos c2, if_pos c4, if_neg c5], rfl⟩
    refine x_iconst (pc := 81) (v := 1) G dX11_why_81 ic_1 ?_
    refine x_goto (pc := 82) (tgt := 86) G dX11_why_82 rfl ?_
    refine x_istore6 (pc := 86) G dX11_why_86 (Nat.le_of_ble_eq_true rfl) rfl ?_
    refine x_aload0 (pc := 88) G dX11_why_88 ?_
    refine y_gA (pc := 89) G g_115 mG_41 dX11_why_89 ?_
    refine x_iload1 (pc := 92) G dX11_why_92 ?_
    refine y_iald (pc := 93) (v := (gI M 41 p1)) G hM a_41 (by first | exact hi.1 | exact hi.2.1) rfl dX11_why_93 ?_
    refine x_aload0 (pc := 94) G dX11_why_94 ?_
    refine x_iload2 (pc := 95) G dX11_why_95 ?_
    refine y_c1 (pc := 96) G (c_bookedPieces hl hM h39) q_ml_X11_230 h_X11_bookedPieces rfl ⟨Nat.le_of_ble_eq_true rfl, Nat.le_of_ble_eq_true rfl⟩ (Nat.le_of_ble_eq_true rfl) (Nat.le_refl _) (Nat.le_refl _) dX11_why_96 ?_
    refine x_iadd (pc := 99) G dX11_why_99 ?_
    refine x_iload3 (pc := 100) G dX11_why_100 ?_
    refine x_icmp_le (pc := 101) (tgt := 108) G dX11_why_101 rfl (fun c6 => ?_) (fun c6 => ?_)
    · refine x_iconst (pc := 108) (v := 0) G dX11_why_108 ic_0 ?_
      refine x_iload6 (pc := 109) G dX11_why_109 ?_
      refine x_if_eq (pc := 111) (y := 0) (tgt := 118) G dX11_why_111 rfl (fun q => absurd q (by decide)) (fun _ => ?_)
      refine x_iconst (pc := 114) (v := 2) G dX11_why_114 ic_2 ?_
      refine x_goto (pc := 115) (tgt := 119) G dX11_why_115 rfl ?_
      refine x_iadd (pc := 119) G dX11_why_119 ?_
      exact x_iret (pc := 120) G B rfl dX11_why_120 ⟨by rw [f_why, if_pos c1, if_pos c2, if_neg c4, if_pos c6], rfl⟩
    refine x_iconst (pc := 104) (v := 1) G dX11_why_104 ic_1 ?_
    refine x_goto (pc := 105) (tgt := 109) G dX11_why_105 rfl ?_
    refine x_iload6 (pc := 109) G dX11_why_109 ?_
    refine x_if_eq (pc := 111) (y := 0) (tgt := 118) G dX11_why_111 rfl (fun q => absurd q (by decide)) (fun _ => ?_)
    refine x_iconst (pc := 114) (v := 2) G dX11_why_114 ic_2 ?_
    refine x_goto (pc := 115) (tgt := 119) G dX11_why_115 rfl ?_
    refine x_iadd (pc := 119) G dX11_why_119 ?_
    exact x_iret (pc := 120) G B rfl dX11_why_120 ⟨by rw [f_why, if_pos c1, if_pos c2, if_neg c4, if_neg c6], rfl⟩
  refine x_aload0 (pc := 16) G dX11_why_16 ?_
  refine y_gA (pc := 17) G g_78 mG_28 dX11_why_17 ?_
  refine x_iload2 (pc := 20) G dX11_why_20 ?_
  refine y_iald (pc := 21) (v := (gI M 28 (gI M 40 p1))) G hM a_28 (by first | exact hi.1 | exact hi.2.1) rfl dX11_why_21 ?_
  refine x_goto (pc := 22) (tgt := 31) G dX11_why_22 rfl ?_
  refine x_istore3 (pc := 31) G dX11_why_31 (Nat.le_of_ble_eq_true rfl) rfl ?_
  refine x_aload0 (pc := 32) G dX11_why_32 ?_
  refine y_gA (pc := 33) G g_115 mG_41 dX11_why_33 ?_
  refine x_iload1 (pc := 36) G dX11_why_36 ?_
  refine y_iald (pc := 37) (v := (gI M 41 p1)) G hM a_41 (by first | exact hi.1 | exact hi.2.1) rfl dX11_why_37 ?_
  refine x_i2l (pc := 38) G dX11_why_38 ?_
  refine x_aload0 (pc := 39) G dX11_why_39 ?_
  refine y_gA (pc := 40) G g_81 mG_29 dX11_why_40 ?_
  refine x_iload2 (pc := 43) G dX11_why_43 ?_
  refine y_iald (pc := 44) (v := (gI M 29 (gI M 40 p1))) G hM a_29 (by first | exact hi.1 | exact hi.2.1) rfl dX11_why_44 ?_
  refine x_i2l (pc := 45) G dX11_why_45 ?_
  refine x_lmul (pc := 46) G dX11_why_46 ?_
  refine x_lstore4 (pc := 47) G dX11_why_47 (Nat.le_of_ble_eq_true rfl) rfl ?_
  refine x_aload0 (pc := 49) G dX11_why_49 ?_
  refine y_gA (pc := 50) G g_127 mG_45 dX11_why_50 ?_
  refine x_iload1 (pc := 53) G dX11_why_53 ?_
  refine y_zald (pc := 54) (v := (gI M 45 p1)) G hM a_45 (by first | exact hi.1 | exact hi.2.1) rfl dX11_why_54 ?_
  refine x_if_ne (pc := 55) (y := 0) (tgt := 85) G dX11_why_55 rfl (fun c7 => ?_) (fun c7 => ?_)
  · refine x_iconst (pc := 85) (v := 0) G dX11_why_85 ic_0 ?_
    refine x_istore6 (pc := 86) G dX11_why_86 (Nat.le_of_ble_eq_true rfl) rfl ?_
    refine x_aload0 (pc := 88) G dX11_why_88 ?_
    refine y_gA (pc := 89) G g_115 mG_41 dX11_why_89 ?_
    refine x_iload1 (pc := 92) G dX11_why_92 ?_
    refine y_iald (pc := 93) (v := (gI M 41 p1)) G hM a_41 (by first | exact hi.1 | exact hi.2.1) rfl dX11_why_93 ?_
    refine x_aload0 (pc := 94) G dX11_why_94 ?_
    refine x_iload2 (pc := 95) G dX11_why_95 ?_
    refine y_c1 (pc := 96) G (c_bookedPieces hl hM h39) q_ml_X11_230 h_X11_bookedPieces rfl ⟨Nat.le_of_ble_eq_true rfl, Nat.le_of_ble_eq_true rfl⟩ (Nat.le_of_ble_eq_true rfl) (Nat.le_refl _) (Nat.le_refl _) dX11_why_96 ?_
    refine x_iadd (pc := 99) G dX11_why_99 ?_
    refine x_iload3 (pc := 100) G dX11_why_100 ?_
    refine x_icmp_le (pc := 101) (tgt := 108) G dX11_why_101 rfl (fun c8 => ?_) (fun c8 => ?_)
    · refine x_iconst (pc := 108) (v := 0) G dX11_why_108 ic_0 ?_
      refine x_iload6 (pc := 109) G dX11_why_109 ?_
      refine x_if_eq (pc := 111) (y := 0) (tgt := 118) G dX11_why_111 rfl (fun _ => ?_) (fun q => absurd q (by decide))
      refine x_iconst (pc := 118) (v := 0) G dX11_why_118 ic_0 ?_
      refine x_iadd (pc := 119) G dX11_why_119 ?_
      exact x_iret (pc := 120) G B rfl dX11_why_120 ⟨by rw [f_why, if_neg c1, if_neg c7, if_pos c8], rfl⟩
    refine x_iconst (pc := 104) (v := 1) G dX11_why_104 ic_1 ?_
    refine x_goto (pc := 105) (tgt := 109) G dX11_why_105 rfl ?_
    refine x_iload6 (pc := 109) G dX11_why_109 ?_
    refine x_if_eq (pc := 111) (y := 0) (tgt := 118) G dX11_why_111 rfl (fun _ => ?_) (fun q => absurd q (by decide))
    refine x_iconst (pc := 118) (v := 0) G dX11_why_118 ic_0 ?_
    refine x_iadd (pc := 119) G dX11_why_119 ?_
    exact x_iret (pc := 120) G B rfl dX11_why_120 ⟨by rw [f_why, if_neg c1, if_neg c7, if_neg c8], rfl⟩
  refine x_aload0 (pc := 58) G dX11_why_58 ?_
  refine y_gA (pc := 59) G g_121 mG_43 dX11_why_59 ?_
  refine x_iload1 (pc := 62) G dX11_why_62 ?_
  refine y_lald (pc := 63) (v := (gJ M 43 p1)) G hM a_43 (by first | exact hi.1 | exact hi.2.1) rfl dX11_why_63 ?_
  refine x_lload4 (pc := 64) G dX11_why_64 ?_
  refine x_lload4 (pc := 66) G dX11_why_66 ?_
  refine x_ldc2 (pc := 68) G q_cL_X11_281 dX11_why_68 ?_
  refine x_lmul (pc := 71) G dX11_why_71 ?_
  refine x_ldc2 (pc := 72) G q_cL_X11_234 dX11_why_72 ?_
  refine x_ldiv (pc := 75) G dX11_why_75 (by decide) ?_
  refine x_ladd (pc := 76) G dX11_why_76 ?_
  refine x_lcmp (pc := 77) G dX11_why_77 ?_
  refine x_if_le (pc := 78) (y := 0) (tgt := 85) G dX11_why_78 rfl (fun c9 => ?_) (fun c9 => ?_)
  · refine x_iconst (pc := 85) (v := 0) G dX11_why_85 ic_0 ?_
    refine x_istore6 (pc := 86) G dX11_why_86 (Nat.le_of_ble_eq_true rfl) rfl ?_
    refine x_aload0 (pc := 88) G dX11_why_88 ?_
    refine y_gA (pc := 89) G g_115 mG_41 dX11_why_89 ?_
    refine x_iload1 (pc := 92) G dX11_why_92 ?_
    refine y_iald (pc := 93) (v := (gI M 41 p1)) G hM a_41 (by first | exact hi.1 | exact hi.2.1) rfl dX11_why_93 ?_
    refine x_aload0 (pc := 94) G dX11_why_94 ?_
    refine x_iload2 (pc := 95) G dX11_why_95 ?_
    refine y_c1 (pc := 96) G (c_bookedPieces hl hM h39) q_ml_X11_230 h_X11_bookedPieces rfl ⟨Nat.le_of_ble_eq_true rfl, Nat.le_of_ble_eq_true rfl⟩ (Nat.le_of_ble_eq_true rfl) (Nat.le_refl _) (Nat.le_refl _) dX11_why_96 ?_
    refine x_iadd (pc := 99) G dX11_why_99 ?_
    refine x_iload3 (pc := 100) G dX11_why_100 ?_
    refine x_icmp_le (pc := 101) (tgt := 108) G dX11_why_101 rfl (fun c10 => ?_) (fun c10 => ?_)
    · refine x_iconst (pc := 108) (v := 0) G dX11_why_108 ic_0 ?_
      refine x_iload6 (pc := 109) G dX11_why_109 ?_
      refine x_if_eq (pc := 111) (y := 0) (tgt := 118) G dX11_why_111 rfl (fun _ => ?_) (fun q => absurd q (by decide))
      refine x_iconst (pc := 118) (v := 0) G dX11_why_118 ic_0 ?_
      refine x_iadd (pc := 119) G dX11_why_119 ?_
      exact x_iret (pc := 120) G B rfl dX11_why_120 ⟨by rw [f_why, if_neg c1, if_pos c7, if_pos c9, if_pos c10], rfl⟩
    refine x_iconst (pc := 104) (v := 1) G dX11_why_104 ic_1 ?_
    refine x_goto (pc := 105) (tgt := 109) G dX11_why_105 rfl ?_
    refine x_iload6 (pc := 109) G dX11_why_109 ?_
    refine x_if_eq (pc := 111) (y := 0) (tgt := 118) G dX11_why_111 rfl (fun _ => ?_) (fun q => absurd q (by decide))
    refine x_iconst (pc := 118) (v := 0) G dX11_why_118 ic_0 ?_
    refine x_iadd (pc := 119) G dX11_why_119 ?_
    exact x_iret (pc := 120) G B rfl dX11_why_120 ⟨by rw [f_why, if_neg c1, if_pos c7, if_pos c9, if_neg c10], rfl⟩
  refine x_iconst (pc := 81) (v := 1) G dX11_why_81 ic_1 ?_
  refine x_goto (pc := 82) (tgt := 86) G dX11_why_82 rfl ?_
  refine x_istore6 (pc := 86) G dX11_why_86 (Nat.le_of_ble_eq_true rfl) rfl ?_
  refine x_aload0 (pc := 88) G dX11_why_88 ?_
  refine y_gA (pc := 89) G g_115 mG_41 dX11_why_89 ?_
  refine x_iload1 (pc := 92) G dX11_why_92 ?_
  refine y_iald (pc := 93) (v := (gI M 41 p1)) G hM a_41 (by first | exact hi.1 | exact hi.2.1) rfl dX11_why_93 ?_
  refine x_aload0 (pc := 94) G dX11_why_94 ?_
  refine x_iload2 (pc := 95) G dX11_why_95 ?_
  refine y_c1 (pc := 96) G (c_bookedPieces hl hM h39) q_ml_X11_230 h_X11_bookedPieces rfl ⟨Nat.le_of_ble_eq_true rfl, Nat.le_of_ble_eq_true rfl⟩ (Nat.le_of_ble_eq_true rfl) (Nat.le_refl _) (Nat.le_refl _) dX11_why_96 ?_
  refine x_iadd (pc := 99) G dX11_why_99 ?_
  refine x_iload3 (pc := 100) G dX11_why_100 ?_
  refine x_icmp_le (pc := 101) (tgt := 108) G dX11_why_101 rfl (fun c11 => ?_) (fun c11 => ?_)
  · refine x_iconst (pc := 108) (v := 0) G dX11_why_108 ic_0 ?_
    refine x_iload6 (pc := 109) G dX11_why_109 ?_
    refine x_if_eq (pc := 111) (y := 0) (tgt := 118) G dX11_why_111 rfl (fun q => absurd q (by decide)) (fun _ => ?_)
    refine x_iconst (pc := 114) (v := 2) G dX11_why_114 ic_2 ?_
    refine x_goto (pc := 115) (tgt := 119) G dX11_why_115 rfl ?_
    refine x_iadd (pc := 119) G dX11_why_119 ?_
    exact x_iret (pc := 120) G B rfl dX11_why_120 ⟨by rw [f_why, if_neg c1, if_pos c7, if_neg c9, if_pos c11], rfl⟩
  refine x_iconst (pc := 104) (v := 1) G dX11_why_104 ic_1 ?_
  refine x_goto (pc := 105) (tgt := 109) G dX11_why_105 rfl ?_
  refine x_iload6 (pc := 109) G dX11_why_109 ?_
  refine x_if_eq (pc := 111) (y := 0) (tgt := 118) G dX11_why_111 rfl (fun q => absurd q (by decide)) (fun _ => ?_)
  refine x_iconst (pc := 114) (v := 2) G dX11_why_114 ic_2 ?_
  refine x_goto (pc := 115) (tgt := 119) G dX11_why_115 rfl ?_
  refine x_iadd (pc := 119) G dX11_why_119 ?_
  exact x_iret (pc := 120) G B rfl dX11_why_120 ⟨by rw [f_why, if_neg c1, if_pos c7, if_neg c9, if_neg c11], rfl⟩
