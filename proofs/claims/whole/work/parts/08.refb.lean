theorem vin_cj {p c : Int32} {N : Nat} (hc : c.toInt = N) (hN : N < 2 ^ 30) (hp : 0 ≤ p ∧ p ≤ c) : ∃ j : Nat, j ≤ N ∧ p = nI j := nI_of2 hc (Int32.not_lt.mpr hp.1) hp.2
theorem vin_at {c y u : Int32} (h1 : P_isCentre c) (h2 : P_isYear y) (h3 : 0 ≤ u ∧ u ≤ 2) : vp_in (f_at c y u) 54 := by
  obtain ⟨i, hi, rfl⟩ := vin_cj (c := 5) (N := 5) (by decide) (by decide) h1
  obtain ⟨j, hj, rfl⟩ := vin_cj (c := 2) (N := 2) (by decide) (by decide) h2
  obtain ⟨q, hq, rfl⟩ := vin_cj (c := 2) (N := 2) (by decide) (by decide) h3
  have e : f_at (nI i) (nI j) (nI q) = nI (9 * i + 3 * j + q) := by
    unfold f_at
    rw [show (9 : Int32) = nI 9 from rfl, show (3 : Int32) = nI 3 from rfl, pk_mul, pk_mul, nI_add, nI_add]
  rw [e]
  exact vp_in_nI (by omega) (by decide)
theorem vin_rate {p : Int32} (h : 1 ≤ p ∧ p ≤ 2) : vp_in p 3 := by
  have h0 : (0 : Int32) ≤ p := Int32.le_trans (by decide) h.1
  exact vin_c (c := 2) (N := 2) (by decide) (by decide) ⟨h0, h.2⟩
theorem vin_line {p x : Int32} (h : vp_in p 40) (h4 : LE x 4) (hx : ¬ x = 4) : vp_in (4 * p + x) 160 := by
  obtain ⟨i, hi, rfl⟩ := vp_in_of h (by decide)
  obtain ⟨j, hj, rfl⟩ := h4
  have : j ≠ 4 := fun e => hx (by rw [e]; rfl)
  rw [show (4 : Int32) = nI 4 from rfl, pk_mul, nI_add]
  exact vp_in_nI (by omega) (by decide)
theorem vin_linep {p q x : Int32} (h : vp_in p 40) (h4 : LE x 4) (hq : 0 ≤ q ∧ q ≤ x - 1) : vp_in (4 * p + q) 160 := by
  obtain ⟨i, hi, rfl⟩ := vp_in_of h (by decide)
  obtain ⟨j, hj, rfl⟩ := vp_in_of (vin_lt h4 (by decide) hq) (by decide)
  rw [show (4 : Int32) = nI 4 from rfl, pk_mul, nI_add]
  exact vp_in_nI (by omega) (by decide)
theorem fp1 {a c : Int64} (h1 : ¬ 0 ≤ lg_cmp a c) (h2 : ¬ lg_cmp a 0 ≤ 0) : 0 < c := by
  rw [lg_cmp_ge] at h1
  rw [lg_cmp_le] at h2
  exact Int64.lt_trans (Int64.not_le.mp h2) (Int64.not_le.mp h1)
theorem fp2 {c : Int64} (h : ¬ lg_cmp c 0 ≤ 0) : 0 < c := by
  rw [lg_cmp_le] at h
  exact Int64.not_le.mp h
theorem dX11_free_0 : decode cX11_free 0 = .ok (.aload_n 0, 1) := by decide +kernel
theorem dX11_free_1 : decode cX11_free 1 = .ok (.getfield 32, 3) := by decide +kernel
theorem dX11_free_4 : decode cX11_free 4 = .ok (.iload_n 1, 1) := by decide +kernel
theorem dX11_free_5 : decode cX11_free 5 = .ok (.iload_n 2, 1) := by decide +kernel
theorem dX11_free_6 : decode cX11_free 6 = .ok (.iconst 0, 1) := by decide +kernel
theorem dX11_free_7 : decode cX11_free 7 = .ok (.invokestatic 198, 3) := by decide +kernel
theorem dX11_free_10 : decode cX11_free 10 = .ok (.laload, 1) := by decide +kernel
theorem dX11_free_11 : decode cX11_free 11 = .ok (.aload_n 0, 1) := by decide +kernel
theorem dX11_free_12 : decode cX11_free 12 = .ok (.getfield 32, 3) := by decide +kernel
theorem dX11_free_15 : decode cX11_free 15 = .ok (.iload_n 1, 1) := by decide +kernel
theorem dX11_free_16 : decode cX11_free 16 = .ok (.iload_n 2, 1) := by decide +kernel
theorem dX11_free_17 : decode cX11_free 17 = .ok (.iconst 1, 1) := by decide +kernel
theorem dX11_free_18 : decode cX11_free 18 = .ok (.invokestatic 198, 3) := by decide +kernel
theorem dX11_free_21 : decode cX11_free 21 = .ok (.laload, 1) := by decide +kernel
theorem dX11_free_22 : decode cX11_free 22 = .ok (.lsub, 1) := by decide +kernel
theorem dX11_free_23 : decode cX11_free 23 = .ok (.aload_n 0, 1) := by decide +kernel
theorem dX11_free_24 : decode cX11_free 24 = .ok (.getfield 32, 3) := by decide +kernel
theorem dX11_free_27 : decode cX11_free 27 = .ok (.iload_n 1, 1) := by decide +kernel
theorem dX11_free_28 : decode cX11_free 28 = .ok (.iload_n 2, 1) := by decide +kernel
theorem dX11_free_29 : decode cX11_free 29 = .ok (.iconst 2, 1) := by decide +kernel
theorem dX11_free_30 : decode cX11_free 30 = .ok (.invokestatic 198, 3) := by decide +kernel
theorem dX11_free_33 : decode cX11_free 33 = .ok (.laload, 1) := by decide +kernel
theorem dX11_free_34 : decode cX11_free 34 = .ok (.lsub, 1) := by decide +kernel
theorem dX11_free_35 : decode cX11_free 35 = .ok (.lreturn, 1) := by decide +kernel
def f_free (p1 : Int32) (p2 : Int32) (M : MS) : Int64 :=
    (((gJ M 11 (f_at p1 p2 0)) - (gJ M 11 (f_at p1 p2 1))) - (gJ M 11 (f_at p1 p2 2)))
abbrev rm_X11_free : Room := { frames := 1, cells := 0, slots := 0, locals := 22 }
set_option maxRecDepth 100000 in
set_option maxHeartbeats 4000000 in
theorem c_free {l : Launch} {k : KC} {mo : Nat} {ad : Nat → Nat} (hl : l.stackTraces = false) (hM : HM mo ad) {M : MS} {p1 : Int32} {p2 : Int32} (h1 : P_isCentre p1) (h2 : P_isYear p2) : CM l k mo ad yX11_free (.code yX11_free cX11_free 3 (some .long)) rm_X11_free [.int p1, .int p2] M (some (.long (f_free p1 p2 M))) M := by
  refine MC.of 0 hl (by decide) (Nat.le_of_ble_eq_true rfl) ?_
  intro p e s m args below meth c A Q G B _ _
  show Wx p l e rm_X11_free s m args below meth c k A 3 Q 0 0 0 [some (.ref mo), some (.int p1), some (.int p2)] [] (mW k mo ad M)
  refine x_aload0 (pc := 0) G dX11_free_0 ?_
  refine y_gA (pc := 1) G g_32 mG_11 dX11_free_1 ?_
  refine x_iload1 (pc := 4) G dX11_free_4 ?_
  refine x_iload2 (pc := 5) G dX11_free_5 ?_
  refine x_iconst (pc := 6) (v := 0) G dX11_free_6 ic_0 ?_
  refine x_cS3 (pc := 7) G (c_at hl hM _) q_ml_X11_198 h_X11_at ⟨Nat.le_of_ble_eq_true rfl, Nat.le_of_ble_eq_true rfl⟩ (Nat.le_of_ble_eq_true rfl) (Nat.le_refl _) (Nat.le_refl _) dX11_free_7 ?_
  refine y_lald (pc := 10) (v := (gJ M 11 (f_at p1 p2 0))) G hM a_11 (by exact vin_at (by assumption) (by assumption) (by decide)) rfl dX11_free_10 ?_
  refine x_aload0 (pc := 11) G dX11_free_11 ?_
  refine y_gA (pc := 12) G g_32 mG_11 dX11_free_12 ?_
  refine x_iload1 (pc := 15) G dX11_free_15 ?_
  refine x_iload2 (pc := 16) G dX11_free_16 ?_
  refine x_iconst (pc := 17) (v := 1) G dX11_free_17 ic_1 ?_
  refine x_cS3 (pc := 18) G (c_at hl hM _) q_ml_X11_198 h_X11_at ⟨Nat.le_of_ble_eq_true rfl, Nat.le_of_ble_eq_true rfl⟩ (Nat.le_of_ble_eq_true rfl) (Nat.le_refl _) (Nat.le_refl _) dX11_free_18 ?_
  refine y_lald (pc := 21) (v := (gJ M 11 (f_at p1 p2 1))) G hM a_11 (by exact vin_at (by assumption) (by assumption) (by decide)) rfl dX11_free_21 ?_
  refine x_lsub (pc := 22) G dX11_free_22 ?_
  refine x_aload0 (pc := 23) G dX11_free_23 ?_
  refine y_gA (pc := 24) G g_32 mG_11 dX11_free_24 ?_
  refine x_iload1 (pc := 27) G dX11_free_27 ?_
  refine x_iload2 (pc := 28) G dX11_free_28 ?_
  refine x_iconst (pc := 29) (v := 2) G dX11_free_29 ic_2 ?_
  refine x_cS3 (pc := 30) G (c_at hl hM _) q_ml_X11_198 h_X11_at ⟨Nat.le_of_ble_eq_true rfl, Nat.le_of_ble_eq_true rfl⟩ (Nat.le_of_ble_eq_true rfl) (Nat.le_refl _) (Nat.le_refl _) dX11_free_30 ?_
  refine y_lald (pc := 33) (v := (gJ M 11 (f_at p1 p2 2))) G hM a_11 (by exact vin_at (by assumption) (by assumption) (by decide)) rfl dX11_free_33 ?_
  refine x_lsub (pc := 34) G dX11_free_34 ?_
  exact x_lret (pc := 35) G B rfl dX11_free_35 ⟨by rw [f_free], rfl⟩
theorem dX11_may_0 : decode cX11_may 0 = .ok (.aload_n 0, 1) := by decide +kernel
theorem dX11_may_1 : decode cX11_may 1 = .ok (.getfield 35, 3) := by decide +kernel
theorem dX11_may_4 : decode cX11_may 4 = .ok (.iload_n 1, 1) := by decide +kernel
theorem dX11_may_5 : decode cX11_may 5 = .ok (.baload, 1) := by decide +kernel
theorem dX11_may_6 : decode cX11_may 6 = .ok (.ifCond .ne 14, 3) := by decide +kernel
theorem dX11_may_9 : decode cX11_may 9 = .ok (.aload_n 0, 1) := by decide +kernel
theorem dX11_may_10 : decode cX11_may 10 = .ok (.iload_n 1, 1) := by decide +kernel
theorem dX11_may_11 : decode cX11_may 11 = .ok (.iload_n 2, 1) := by decide +kernel
theorem dX11_may_12 : decode cX11_may 12 = .ok (.invokevirtual 202, 3) := by decide +kernel
theorem dX11_may_15 : decode cX11_may 15 = .ok (.lload_n 3, 1) := by decide +kernel
theorem dX11_may_16 : decode cX11_may 16 = .ok (.lcmp, 1) := by decide +kernel
theorem dX11_may_17 : decode cX11_may 17 = .ok (.ifCond .lt 7, 3) := by decide +kernel
theorem dX11_may_20 : decode cX11_may 20 = .ok (.iconst 1, 1) := by decide +kernel
theorem dX11_may_21 : decode cX11_may 21 = .ok (.goto 4, 3) := by decide +kernel
theorem dX11_may_24 : decode cX11_may 24 = .ok (.iconst 0, 1) := by decide +kernel
theorem dX11_may_25 : decode cX11_may 25 = .ok (.ireturn, 1) := by decide +kernel
def f_may (p1 : Int32) (p2 : Int32) (p3 : Int64) (M : MS) : Int32 :=
    if (gI M 12 p1) = 0 then
      if (lg_cmp (f_free p1 p2 M) p3) < 0 then
        0
      else
      1
    else
    1
abbrev rm_X11_may : Room := { frames := 2, cells := 0, slots := 0, locals := 44 }
set_option maxRecDepth 100000 in
set_option maxHeartbeats 4000000 in
theorem c_may {l : Launch} {k : KC} {mo : Nat} {ad : Nat → Nat} (hl : l.stackTraces = false) (hM : HM mo ad) {M : MS} {p1 : Int32} {p2 : Int32} {p3 : Int64} (h1 : P_isCentre p1) (h2 : P_isYear p2) : CM l k mo ad yX11_may (.code yX11_may cX11_may 5 (some .boolean)) rm_X11_may [.int p1, .int p2, .long p3] M (some (.int (f_may p1 p2 p3 M))) M := by
  refine MC.of 0 hl (by decide) (Nat.le_of_ble_eq_true rfl) ?_
  intro p e s m args below meth c A Q G B _ _
  show Wx p l e rm_X11_may s m args below meth c k A 5 Q 0 0 0 [some (.ref mo), some (.int p1), some (.int p2), some (.long p3), none] [] (mW k mo ad M)
  refine x_aload0 (pc := 0) G dX11_may_0 ?_
  refine y_gA (pc := 1) G g_35 mG_12 dX11_may_1 ?_
  refine x_iload1 (pc := 4) G dX11_may_4 ?_
  refine y_zald (pc := 5) (v := (gI M 12 p1)) G hM a_12 (by exact vin_c (c := 5) (N := 5) (by decide) (by decide) h1) rfl dX11_may_5 ?_
  refine x_if_ne (pc := 6) (y := 0) (tgt := 20) G dX11_may_6 rfl (fun c1 => ?_) (fun c1 => ?_)
  · refine x_iconst (pc := 20) (v := 1) G dX11_may_20 ic_1 ?_
    refine x_goto (pc := 21) (tgt := 25) G dX11_may_21 rfl ?_
    exact x_zret (pc := 25) G B rfl (by decide) dX11_may_25 ⟨by rw [f_may, if_neg c1], rfl⟩
  refine x_aload0 (pc := 9) G dX11_may_9 ?_
  refine x_iload1 (pc := 10) G dX11_may_10 ?_
  refine x_iload2 (pc := 11) G dX11_may_11 ?_
  refine y_c2 (pc := 12) G (c_free hl hM (by assumption) (by assumption)) q_ml_X11_202 h_X11_free rfl ⟨Nat.le_of_ble_eq_true rfl, Nat.le_of_ble_eq_true rfl⟩ (Nat.le_of_ble_eq_true rfl) (Nat.le_refl _) (Nat.le_refl _) dX11_may_12 ?_
  refine x_lload3 (pc := 15) G dX11_may_15 ?_
  refine x_lcmp (pc := 16) G dX11_may_16 ?_
  refine x_if_lt (pc := 17) (y := 0) (tgt := 24) G dX11_may_17 rfl (fun c2 => ?_) (fun c2 => ?_)
  · refine x_iconst (pc := 24) (v := 0) G dX11_may_24 ic_0 ?_
    exact x_zret (pc := 25) G B rfl (by decide) dX11_may_25 ⟨by rw [f_may, if_pos c1, if_pos c2], rfl⟩
  refine x_iconst (pc := 20) (v := 1) G dX11_may_20 ic_1 ?_
  refine x_goto (pc := 21) (tgt := 25) G dX11_may_21 rfl ?_
  exact x_zret (pc := 25) G B rfl (by decide) dX11_may_25 ⟨by rw [f_may, if_pos c1, if_neg c2], rfl⟩
abbrev P_may (p1 : Int32) (p2 : Int32) (p3 : Int64) (M : MS) : Prop := ¬ gI M 12 p1 = 0 ∨ p3 ≤ f_free p1 p2 M
theorem v_may {p1 : Int32} {p2 : Int32} {p3 : Int64} {M : MS} : f_may p1 p2 p3 M = if P_may p1 p2 p3 M then 1 else 0 := by unfold f_may P_may; by_cases h1 : gI M 12 p1 = 0 <;> by_cases h2 : p3 ≤ f_free p1 p2 M <;> simp [h1, h2, lg_cmp_lt, Int64.not_lt, ← Int64.not_le]
theorem b_may {l : Launch} {k : KC} {mo : Nat} {ad : Nat → Nat} (hl : l.stackTraces = false) (hM : HM mo ad) {M : MS} {p1 : Int32} {p2 : Int32} {p3 : Int64} (h1 : P_isCentre p1) (h2 : P_isYear p2) : (P_may p1 p2 p3 M → CM l k mo ad yX11_may (.code yX11_may cX11_may 5 (some .boolean)) rm_X11_may [.int p1, .int p2, .long p3] M (some (.int 1)) M) ∧ (¬ P_may p1 p2 p3 M → CM l k mo ad yX11_may (.code yX11_may cX11_may 5 (some .boolean)) rm_X11_may [.int p1, .int p2, .long p3] M (some (.int 0)) M) := MC.bool (by rw [← v_may]; exact c_may hl hM h1 h2)
theorem dX11_person_0 : decode cX11_person 0 = .ok (.iload_n 1, 1) := by decide +kernel
theorem dX11_person_1 : decode cX11_person 1 = .ok (.iconst (-1), 1) := by decide +kernel
theorem dX11_person_2 : decode cX11_person 2 = .ok (.if_icmp .eq 11, 3) := by decide +kernel
theorem dX11_person_5 : decode cX11_person 5 = .ok (.aload_n 0, 1) := by decide +kernel
theorem dX11_person_6 : decode cX11_person 6 = .ok (.iload_n 1, 1) := by decide +kernel
theorem dX11_person_7 : decode cX11_person 7 = .ok (.invokevirtual 206, 3) := by decide +kernel
theorem dX11_person_10 : decode cX11_person 10 = .ok (.ifCond .eq 7, 3) := by decide +kernel
theorem dX11_person_13 : decode cX11_person 13 = .ok (.iconst 1, 1) := by decide +kernel
theorem dX11_person_14 : decode cX11_person 14 = .ok (.goto 4, 3) := by decide +kernel
theorem dX11_person_17 : decode cX11_person 17 = .ok (.iconst 0, 1) := by decide +kernel
theorem dX11_person_18 : decode cX11_person 18 = .ok (.istore_n 3, 1) := by decide +kernel
theorem dX11_person_19 : decode cX11_person 19 = .ok (.aload_n 0, 1) := by decide +kernel
theorem dX11_person_20 : decode cX11_person 20 = .ok (.iload_n 3, 1) := by decide +kernel
theorem dX11_person_21 : decode cX11_person 21 = .ok (.ifCond .ne 7, 3) := by decide +kernel
theorem dX11_person_24 : decode cX11_person 24 = .ok (.iconst 1, 1) := by decide +kernel
theorem dX11_person_25 : decode cX11_person 25 = .ok (.goto 31, 3) := by decide +kernel
theorem dX11_person_28 : decode cX11_person 28 = .ok (.iload_n 2, 1) := by decide +kernel
theorem dX11_person_29 : decode cX11_person 29 = .ok (.iconst 0, 1) := by decide +kernel
theorem dX11_person_30 : decode cX11_person 30 = .ok (.ldc 209, 2) := by decide +kernel
theorem dX11_person_32 : decode cX11_person 32 = .ok (.invokestatic 181, 3) := by decide +kernel
theorem dX11_person_35 : decode cX11_person 35 = .ok (.ifCond .ne 7, 3) := by decide +kernel
theorem dX11_person_38 : decode cX11_person 38 = .ok (.iconst 2, 1) := by decide +kernel
theorem dX11_person_39 : decode cX11_person 39 = .ok (.goto 17, 3) := by decide +kernel
theorem dX11_person_42 : decode cX11_person 42 = .ok (.aload_n 0, 1) := by decide +kernel
theorem dX11_person_43 : decode cX11_person 43 = .ok (.getfield 178, 3) := by decide +kernel
theorem dX11_person_46 : decode cX11_person 46 = .ok (.bipush 12, 2) := by decide +kernel
theorem dX11_person_48 : decode cX11_person 48 = .ok (.if_icmp .ne 7, 3) := by decide +kernel
theorem dX11_person_51 : decode cX11_person 51 = .ok (.iconst 3, 1) := by decide +kernel
theorem dX11_person_52 : decode cX11_person 52 = .ok (.goto 4, 3) := by decide +kernel
theorem dX11_person_55 : decode cX11_person 55 = .ok (.iconst 0, 1) := by decide +kernel
theorem dX11_person_56 : decode cX11_person 56 = .ok (.invokevirtual 210, 3) := by decide +kernel
theorem dX11_person_59 : decode cX11_person 59 = .ok (.ifCond .ne 5, 3) := by decide +kernel
theorem dX11_person_62 : decode cX11_person 62 = .ok (.iconst 0, 1) := by decide +kernel
theorem dX11_person_63 : decode cX11_person 63 = .ok (.ireturn, 1) := by decide +kernel
theorem dX11_person_64 : decode cX11_person 64 = .ok (.aload_n 0, 1) := by decide +kernel
theorem dX11_person_65 : decode cX11_person 65 = .ok (.getfield 13, 3) := by decide +kernel
theorem dX11_person_68 : decode cX11_person 68 = .ok (.aload_n 0, 1) := by decide +kernel
theorem dX11_person_69 : decode cX11_person 69 = .ok (.getfield 178, 3) := by decide +kernel
theorem dX11_person_72 : decode cX11_person 72 = .ok (.iload_n 1, 1) := by decide +kernel
theorem dX11_person_73 : decode cX11_person 73 = .ok (.iastore, 1) := by decide +kernel
theorem dX11_person_74 : decode cX11_person 74 = .ok (.aload_n 0, 1) := by decide +kernel
theorem dX11_person_75 : decode cX11_person 75 = .ok (.getfield 17, 3) := by decide +kernel
theorem dX11_person_78 : decode cX11_person 78 = .ok (.aload_n 0, 1) := by decide +kernel
theorem dX11_person_79 : decode cX11_person 79 = .ok (.getfield 178, 3) := by decide +kernel
theorem dX11_person_82 : decode cX11_person 82 = .ok (.iload_n 2, 1) := by decide +kernel
theorem dX11_person_83 : decode cX11_person 83 = .ok (.iastore, 1) := by decide +kernel
theorem dX11_person_84 : decode cX11_person 84 = .ok (.aload_n 0, 1) := by decide +kernel
theorem dX11_person_85 : decode cX11_person 85 = .ok (.dup, 1) := by decide +kernel
theorem dX11_person_86 : decode cX11_person 86 = .ok (.getfield 178, 3) := by decide +kernel
theorem dX11_person_89 : decode cX11_person 89 = .ok (.iconst 1, 1) := by decide +kernel
theorem dX11_person_90 : decode cX11_person 90 = .ok (.iadd, 1) := by decide +kernel
theorem dX11_person_91 : decode cX11_person 91 = .ok (.putfield 178, 3) := by decide +kernel
theorem dX11_person_94 : decode cX11_person 94 = .ok (.aload_n 0, 1) := by decide +kernel
theorem dX11_person_95 : decode cX11_person 95 = .ok (.getfield 178, 3) := by decide +kernel
theorem dX11_person_98 : decode cX11_person 98 = .ok (.iconst 1, 1) := by decide +kernel
theorem dX11_person_99 : decode cX11_person 99 = .ok (.isub, 1) := by decide +kernel
theorem dX11_person_100 : decode cX11_person 100 = .ok (.ireturn, 1) := by decide +kernel
def f_person (p1 : Int32) (p2 : Int32) (M : MS) : Int32 × MS :=
    if p1 = (-1) then
      if P_in p2 0 10000000 then
        if (mI M 3) = 12 then
          (0, (sI M 0 3))
        else
        ((((mI M 3) + 1) - 1), (sI (rI (rI (sI M 0 0) 4 (mI M 3) p1) 5 (mI M 3) p2) 3 ((mI M 3) + 1)))
      else
      (0, (sI M 0 2))
    else
    if P_isPerson p1 M then
      if P_in p2 0 10000000 then
        if (mI M 3) = 12 then
          (0, (sI M 0 3))
        else
        ((((mI M 3) + 1) - 1), (sI (rI (rI (sI M 0 0) 4 (mI M 3) p1) 5 (mI M 3) p2) 3 ((mI M 3) + 1)))
      else
      (0, (sI M 0 2))
    else
    (0, (sI M 0 1))
abbrev rm_X11_person : Room := { frames := 2, cells := 0, slots := 0, locals := 43 }
set_option maxRecDepth 100000 in
set_option maxHeartbeats 4000000 in
theorem c_person {l : Launch} {k : KC} {mo : Nat} {ad : Nat → Nat} (hl : l.stackTraces = false) (hM : HM mo ad) {M : MS} {p1 : Int32} {p2 : Int32} (h3 : LE (mI M 3) 12) : CM l k mo ad yX11_person (.code yX11_person cX11_person 4 (some .int)) rm_X11_person [.int p1, .int p2] M (some (.int (f_person p1 p2 M).1)) (f_person p1 p2 M).2 := by
  refine MC.of 1 hl (by decide) (Nat.le_of_ble_eq_true rfl) ?_
  intro p e s m args below meth c A Q G B _ _
  show Wx p l e rm_X11_person s m args below meth c k A 4 Q 0 0 0 [some (.ref mo), some (.int p1), some (.int p2), none] [] (mW k mo ad M)
  refine x_iload1 (pc := 0) G dX11_person_0 ?_
  refine x_iconst (pc := 1) (v := (-1)) G dX11_person_1 ic_m1 ?_
  refine x_icmp_eq (pc := 2) (tgt := 13) G dX11_person_2 rfl (fun c1 => ?_) (fun c1 => ?_)
  · refine x_iconst (pc := 13) (v := 1) G dX11_person_13 ic_1 ?_
    refine x_goto (pc := 14) (tgt := 18) G dX11_person_14 rfl ?_
    refine x_istore3 (pc := 18) G dX11_person_18 (Nat.le_of_ble_eq_true rfl) rfl ?_
    refine x_aload0 (pc := 19) G dX11_person_19 ?_
    refine x_iload3 (pc := 20) G dX11_person_20 ?_
    refine x_if_ne (pc := 21) (y := 0) (tgt := 28) G dX11_person_21 rfl (fun _ => ?_) (fun q => absurd q (by decide))
    refine x_iload2 (pc := 28) G dX11_person_28 ?_
    refine x_iconst (pc := 29) (v := 0) G dX11_person_29 ic_0 ?_
    refine x_ldc (pc := 30) G q_cs_X11_209 dX11_person_30 ?_
    refine x_cSb3 (pc := 32) G (b_in hl hM _) q_ml_X11_181 h_X11_in ⟨Nat.le_of_ble_eq_true rfl, Nat.le_of_ble_eq_true rfl⟩ (Nat.le_of_ble_eq_true rfl) (Nat.le_refl _) (Nat.le_refl _) dX11_person_32 (fun c2 => ?_) (fun c2 => ?_)
    · refine x_if_ne (pc := 35) (y := 0) (tgt := 42) G dX11_person_35 rfl (fun _ => ?_) (fun q => absurd q (by decide))
      refine x_aload0 (pc := 42) G dX11_person_42 ?_
      refine y_gI (pc := 43) (v := (mI M 3)) G g_178 mG_3 rfl dX11_person_43 ?_
      refine x_bipush (pc := 46) (v := 12) G dX11_person_46 bp_12 ?_
      refine x_icmp_ne (pc := 48) (tgt := 55) G dX11_person_48 rfl (fun c3 => ?_) (fun c3 => ?_)
      · refine x_iconst (pc := 55) (v := 0) G dX11_person_55 ic_0 ?_
        refine y_c1 (pc := 56) G (c_holds0 hl hM) q_ml_X11_210 h_X11_holds rfl ⟨Nat.le_of_ble_eq_true rfl, Nat.le_of_ble_eq_true rfl⟩ (Nat.le_of_ble_eq_true rfl) (Nat.le_refl _) (Nat.le_refl _) dX11_person_56 ?_
        refine x_if_ne (pc := 59) (y := 0) (tgt := 64) G dX11_person_59 rfl (fun _ => ?_) (fun q => absurd q (by decide))
        refine x_aload0 (pc := 64) G dX11_person_64 ?_
        refine y_gA (pc := 65) G g_13 mG_4 dX11_person_65 ?_
        refine x_aload0 (pc := 68) G dX11_person_68 ?_
        refine y_gI (pc := 69) (v := (mI M 3)) G g_178 mG_3 (mI_sIn rfl) dX11_person_69 ?_
        refine x_iload1 (pc := 72) G dX11_person_72 ?_
        refine y_iast (pc := 73) G hM a_4 (by exact vin_new h3 (c := 12) rfl (by decide) (by assumption)) dX11_person_73 ?_
        refine x_aload0 (pc := 74) G dX11_person_74 ?_
        refine y_gA (pc := 75) G g_17 mG_5 dX11_person_75 ?_
        refine x_aload0 (pc := 78) G dX11_person_78 ?_
        refine y_gI (pc := 79) (v := (mI M 3)) G g_178 mG_3 (mI_rI.trans (mI_sIn rfl)) dX11_person_79 ?_
        refine x_iload2 (pc := 82) G dX11_person_82 ?_
        refine y_iast (pc := 83) G hM a_5 (by exact vin_new h3 (c := 12) rfl (by decide) (by assumption)) dX11_person_83 ?_
        refine x_aload0 (pc := 84) G dX11_person_84 ?_
        refine x_dup (pc := 85) G dX11_person_85 rfl ?_
        refine y_gI (pc := 86) (v := (mI M 3)) G g_178 mG_3 (mI_rI.trans (mI_rI.trans (mI_sIn rfl))) dX11_person_86 ?_
        refine x_iconst (pc := 89) (v := 1) G dX11_person_89 ic_1 ?_
        refine x_iadd (pc := 90) G dX11_person_90 ?_
        refine y_pI (pc := 91) G p_178 mS_3 dX11_person_91 ?_
        refine x_aload0 (pc := 94) G dX11_person_94 ?_
        refine y_gI (pc := 95) (v := ((mI M 3) + 1)) G g_178 mG_3 mI_sIs dX11_person_95 ?_
        refine x_iconst (pc := 98) (v := 1) G dX11_person_98 ic_1 ?_
        refine x_isub (pc := 99) G dX11_person_99 ?_
        exact x_iret (pc := 100) G B rfl dX11_person_100 ⟨by rw [f_person, if_pos c1, if_pos c2, if_neg c3], by rw [f_person, if_pos c1, if_pos c2, if_neg c3]⟩
      refine x_iconst (pc := 51) (v := 3) G dX11_person_51 ic_3 ?_
      refine x_goto (pc := 52) (tgt := 56) G dX11_person_52 rfl ?_
      refine y_c1 (pc := 56) G (c_holdsN hl hM (by decide)) q_ml_X11_210 h_X11_holds rfl ⟨Nat.le_of_ble_eq_true rfl, Nat.le_of_ble_eq_true rfl⟩ (Nat.le_of_ble_eq_true rfl) (Nat.le_refl _) (Nat.le_refl _) dX11_person_56 ?_
      refine x_if_ne (pc := 59) (y := 0) (tgt := 64) G dX11_person_59 rfl (fun q => absurd q (by decide)) (fun _ => ?_)
      refine x_iconst (pc := 62) (v := 0) G dX11_person_62 ic_0 ?_
      exact x_iret (pc := 63) G B rfl dX11_person_63 ⟨by rw [f_person, if_pos c1, if_pos c2, if_pos c3], by rw [f_person, if_pos c1, if_pos c2, if_pos c3]⟩
    refine x_if_ne (pc := 35) (y := 0) (tgt := 42) G dX11_person_35 rfl (fun q => absurd q (by decide)) (fun _ => ?_)
    refine x_iconst (pc := 38) (v := 2) G dX11_person_38 ic_2 ?_
    refine x_goto (pc := 39) (tgt := 56) G dX11_person_39 rfl ?_
    refine y_c1 (pc := 56) G (c_holdsN hl hM (by decide)) q_ml_X11_210 h_X11_holds rfl ⟨Nat.le_of_ble_eq_true rfl, Nat.le_of_ble_eq_true rfl⟩ (Nat.le_of_ble_eq_true rfl) (Nat.le_refl _) (Nat.le_refl _) dX11_person_56 ?_
    refine x_if_ne (pc := 59) (y := 0) (tgt := 64) G dX11_person_59 rfl (fun q => absurd q (by decide)) (fun _ => ?_)
    refine x_iconst (pc := 62) (v := 0) G dX11_person_62 ic_0 ?_
    exact x_iret (pc := 63) G B rfl dX11_person_63 ⟨by rw [f_person, if_pos c1, if_neg c2], by rw [f_person, if_pos c1, if_neg c2]⟩
  refine x_aload0 (pc := 5) G dX11_person_5 ?_
  refine x_iload1 (pc := 6) G dX11_person_6 ?_
  refine y_cb1 (pc := 7) G (b_isPerson hl hM ) q_ml_X11_206 h_X11_isPerson rfl ⟨Nat.le_of_ble_eq_true rfl, Nat.le_of_ble_eq_true rfl⟩ (Nat.le_of_ble_eq_true rfl) (Nat.le_refl _) (Nat.le_refl _) dX11_person_7 (fun c4 => ?_) (fun c4 => ?_)
  · refine x_if_eq (pc := 10) (y := 0) (tgt := 17) G dX11_person_10 rfl (fun q => absurd q (by decide)) (fun _ => ?_)
    refine x_iconst (pc := 13) (v := 1) G dX11_person_13 ic_1 ?_
    refine x_goto (pc := 14) (tgt := 18) G dX11_person_14 rfl ?_
    refine x_istore3 (pc := 18) G dX11_person_18 (Nat.le_of_ble_eq_true rfl) rfl ?_
    refine x_aload0 (pc := 19) G dX11_person_19 ?_
    refine x_iload3 (pc := 20) G dX11_person_20 ?_
    refine x_if_ne (pc := 21) (y := 0) (tgt := 28) G dX11_person_21 rfl (fun _ => ?_) (fun q => absurd q (by decide))
    refine x_iload2 (pc := 28) G dX11_person_28 ?_
    refine x_iconst (pc := 29) (v := 0) G dX11_person_29 ic_0 ?_
    refine x_ldc (pc := 30) G q_cs_X11_209 dX11_person_30 ?_
    refine x_cSb3 (pc := 32) G (b_in hl hM _) q_ml_X11_181 h_X11_in ⟨Nat.le_of_ble_eq_true rfl, Nat.le_of_ble_eq_true rfl⟩ (Nat.le_of_ble_eq_true rfl) (Nat.le_refl _) (Nat.le_refl _) dX11_person_32 (fun c5 => ?_) (fun c5 => ?_)
    · refine x_if_ne (pc := 35) (y := 0) (tgt := 42) G dX11_person_35 rfl (fun _ => ?_) (fun q => absurd q (by decide))
      refine x_aload0 (pc := 42) G dX11_person_42 ?_
      refine y_gI (pc := 43) (v := (mI M 3)) G g_178 mG_3 rfl dX11_person_43 ?_
      refine x_bipush (pc := 46) (v := 12) G dX11_person_46 bp_12 ?_
      refine x_icmp_ne (pc := 48) (tgt := 55) G dX11_person_48 rfl (fun c6 => ?_) (fun c6 => ?_)
      · refine x_iconst (pc := 55) (v := 0) G dX11_person_55 ic_0 ?_
        refine y_c1 (pc := 56) G (c_holds0 hl hM) q_ml_X11_210 h_X11_holds rfl ⟨Nat.le_of_ble_eq_true rfl, Nat.le_of_ble_eq_true rfl⟩ (Nat.le_of_ble_eq_true rfl) (Nat.le_refl _) (Nat.le_refl _) dX11_person_56 ?_
        refine x_if_ne (pc := 59) (y := 0) (tgt := 64) G dX11_person_59 rfl (fun _ => ?_) (fun q => absurd q (by decide))
        refine x_aload0 (pc := 64) G dX11_person_64 ?_
        refine y_gA (pc := 65) G g_13 mG_4 dX11_person_65 ?_
        refine x_aload0 (pc := 68) G dX11_person_68 ?_
        refine y_gI (pc := 69) (v := (mI M 3)) G g_178 mG_3 (mI_sIn rfl) dX11_person_69 ?_
        refine x_iload1 (pc := 72) G dX11_person_72 ?_
        refine y_iast (pc := 73) G hM a_4 (by exact vin_new h3 (c := 12) rfl (by decide) (by assumption)) dX11_person_73 ?_
        refine x_aload0 (pc := 74) G dX11_person_74 ?_
        refine y_gA (pc := 75) G g_17 mG_5 dX11_person_75 ?_
        refine x_aload0 (pc := 78) G dX11_person_78 ?_
        refine y_gI (pc := 79) (v := (mI M 3)) G g_178 mG_3 (mI_rI.trans (mI_sIn rfl)) dX11_person_79 ?_
        refine x_iload2 (pc := 82) G dX11_person_82 ?_
        refine y_iast (pc := 83) G hM a_5 (by exact vin_new h3 (c := 12) rfl (by decide) (by assumption)) dX11_person_83 ?_
        refine x_aload0 (pc := 84) G dX11_person_84 ?_
        refine x_dup (pc := 85) G dX11_person_85 rfl ?_
        refine y_gI (pc := 86) (v := (mI M 3)) G g_178 mG_3 (mI_rI.trans (mI_rI.trans (mI_sIn rfl))) dX11_person_86 ?_
        refine x_iconst (pc := 89) (v := 1) G dX11_person_89 ic_1 ?_
        refine x_iadd (pc := 90) G dX11_person_90 ?_
        refine y_pI (pc := 91) G p_178 mS_3 dX11_person_91 ?_
        refine x_aload0 (pc := 94) G dX11_person_94 ?_
        refine y_gI (pc := 95) (v := ((mI M 3) + 1)) G g_178 mG_3 mI_sIs dX11_person_95 ?_
        refine x_iconst (pc := 98) (v := 1) G dX11_person_98 ic_1 ?_
        refine x_isub (pc := 99) G dX11_person_99 ?_
        exact x_iret (pc := 100) G B rfl dX11_person_100 ⟨by rw [f_person, if_neg c1, if_pos c4, if_pos c5, if_neg c6], by rw [f_person, if_neg c1, if_pos c4, if_pos c5, if_neg c6]⟩
      refine x_iconst (pc := 51) (v := 3) G dX11_person_51 ic_3 ?_
      refine x_goto (pc := 52) (tgt := 56) G dX11_person_52 rfl ?_
      refine y_c1 (pc := 56) G (c_holdsN hl hM (by decide)) q_ml_X11_210 h_X11_holds rfl ⟨Nat.le_of_ble_eq_true rfl, Nat.le_of_ble_eq_true rfl⟩ (Nat.le_of_ble_eq_true rfl) (Nat.le_refl _) (Nat.le_refl _) dX11_person_56 ?_
      refine x_if_ne (pc := 59) (y := 0) (tgt := 64) G dX11_person_59 rfl (fun q => absurd q (by decide)) (fun _ => ?_)
      refine x_iconst (pc := 62) (v := 0) G dX11_person_62 ic_0 ?_
      exact x_iret (pc := 63) G B rfl dX11_person_63 ⟨by rw [f_person, if_neg c1, if_pos c4, if_pos c5, if_pos c6], by rw [f_person, if_neg c1, if_pos c4, if_pos c5, if_pos c6]⟩
    refine x_if_ne (pc := 35) (y := 0) (tgt := 42) G dX11_person_35 rfl (fun q => absurd q (by decide)) (fun _ => ?_)
    refine x_iconst (pc := 38) (v := 2) G dX11_person_38 ic_2 ?_
    refine x_goto (pc := 39) (tgt := 56) G dX11_person_39 rfl ?_
    refine y_c1 (pc := 56) G (c_holdsN hl hM (by decide)) q_ml_X11_210 h_X11_holds rfl ⟨Nat.le_of_ble_eq_true rfl, Nat.le_of_ble_eq_true rfl⟩ (Nat.le_of_ble_eq_true rfl) (Nat.le_refl _) (Nat.le_refl _) dX11_person_56 ?_
    refine x_if_ne (pc := 59) (y := 0) (tgt := 64) G dX11_person_59 rfl (fun q => absurd q (by decide)) (fun _ => ?_)
    refine x_iconst (pc := 62) (v := 0) G dX11_person_62 ic_0 ?_
    exact x_iret (pc := 63) G B rfl dX11_person_63 ⟨by rw [f_person, if_neg c1, if_pos c4, if_neg c5], by rw [f_person, if_neg c1, if_pos c4, if_neg c5]⟩
  refine x_if_eq (pc := 10) (y := 0) (tgt := 17) G dX11_person_10 rfl (fun _ => ?_) (fun q => absurd q (by decide))
  refine x_iconst (pc := 17) (v := 0) G dX11_person_17 ic_0 ?_
  refine x_istore3 (pc := 18) G dX11_person_18 (Nat.le_of_ble_eq_true rfl) rfl ?_
  refine x_aload0 (pc := 19) G dX11_person_19 ?_
  refine x_iload3 (pc := 20) G dX11_person_20 ?_
  refine x_if_ne (pc := 21) (y := 0) (tgt := 28) G dX11_person_21 rfl (fun q => absurd q (by decide)) (fun _ => ?_)
  refine x_iconst (pc := 24) (v := 1) G dX11_person_24 ic_1 ?_
  refine x_goto (pc := 25) (tgt := 56) G dX11_person_25 rfl ?_
  refine y_c1 (pc := 56) G (c_holdsN hl hM (by decide)) q_ml_X11_210 h_X11_holds rfl ⟨Nat.le_of_ble_eq_true rfl, Nat.le_of_ble_eq_true rfl⟩ (Nat.le_of_ble_eq_true rfl) (Nat.le_refl _) (Nat.le_refl _) dX11_person_56 ?_
  refine x_if_ne (pc := 59) (y := 0) (tgt := 64) G dX11_person_59 rfl (fun q => absurd q (by decide)) (fun _ => ?_)
  refine x_iconst (pc := 62) (v := 0) G dX11_person_62 ic_0 ?_
  exact x_iret (pc := 63) G B rfl dX11_person_63 ⟨by rw [f_person, if_neg c1, if_neg c4], by rw [f_person, if_neg c1, if_neg c4]⟩
theorem dX11_absent_0 : decode cX11_absent 0 = .ok (.aload_n 0, 1) := by decide +kernel
theorem dX11_absent_1 : decode cX11_absent 1 = .ok (.iload_n 1, 1) := by decide +kernel
theorem dX11_absent_2 : decode cX11_absent 2 = .ok (.invokevirtual 206, 3) := by decide +kernel
theorem dX11_absent_5 : decode cX11_absent 5 = .ok (.ifCond .eq 15, 3) := by decide +kernel
theorem dX11_absent_8 : decode cX11_absent 8 = .ok (.aload_n 0, 1) := by decide +kernel
theorem dX11_absent_9 : decode cX11_absent 9 = .ok (.iload_n 3, 1) := by decide +kernel
theorem dX11_absent_10 : decode cX11_absent 10 = .ok (.invokevirtual 206, 3) := by decide +kernel
theorem dX11_absent_13 : decode cX11_absent 13 = .ok (.ifCond .eq 7, 3) := by decide +kernel
theorem dX11_absent_16 : decode cX11_absent 16 = .ok (.iconst 1, 1) := by decide +kernel
theorem dX11_absent_17 : decode cX11_absent 17 = .ok (.goto 4, 3) := by decide +kernel
theorem dX11_absent_20 : decode cX11_absent 20 = .ok (.iconst 0, 1) := by decide +kernel
theorem dX11_absent_21 : decode cX11_absent 21 = .ok (.istore 4, 2) := by decide +kernel
theorem dX11_absent_23 : decode cX11_absent 23 = .ok (.aload_n 0, 1) := by decide +kernel
theorem dX11_absent_24 : decode cX11_absent 24 = .ok (.iload 4, 2) := by decide +kernel
theorem dX11_absent_26 : decode cX11_absent 26 = .ok (.ifCond .ne 7, 3) := by decide +kernel
theorem dX11_absent_29 : decode cX11_absent 29 = .ok (.iconst 1, 1) := by decide +kernel
theorem dX11_absent_30 : decode cX11_absent 30 = .ok (.goto 24, 3) := by decide +kernel
theorem dX11_absent_33 : decode cX11_absent 33 = .ok (.iload_n 2, 1) := by decide +kernel
theorem dX11_absent_34 : decode cX11_absent 34 = .ok (.iconst 0, 1) := by decide +kernel
theorem dX11_absent_35 : decode cX11_absent 35 = .ok (.sipush 1079, 3) := by decide +kernel
theorem dX11_absent_38 : decode cX11_absent 38 = .ok (.invokestatic 181, 3) := by decide +kernel
theorem dX11_absent_41 : decode cX11_absent 41 = .ok (.ifCond .eq 12, 3) := by decide +kernel
theorem dX11_absent_44 : decode cX11_absent 44 = .ok (.iload_n 1, 1) := by decide +kernel
theorem dX11_absent_45 : decode cX11_absent 45 = .ok (.iload_n 3, 1) := by decide +kernel
theorem dX11_absent_46 : decode cX11_absent 46 = .ok (.if_icmp .eq 7, 3) := by decide +kernel
theorem dX11_absent_49 : decode cX11_absent 49 = .ok (.iconst 0, 1) := by decide +kernel
theorem dX11_absent_50 : decode cX11_absent 50 = .ok (.goto 4, 3) := by decide +kernel
theorem dX11_absent_53 : decode cX11_absent 53 = .ok (.iconst 2, 1) := by decide +kernel
theorem dX11_absent_54 : decode cX11_absent 54 = .ok (.invokevirtual 210, 3) := by decide +kernel
theorem dX11_absent_57 : decode cX11_absent 57 = .ok (.ifCond .eq 17, 3) := by decide +kernel
theorem dX11_absent_60 : decode cX11_absent 60 = .ok (.aload_n 0, 1) := by decide +kernel
theorem dX11_absent_61 : decode cX11_absent 61 = .ok (.getfield 20, 3) := by decide +kernel
theorem dX11_absent_64 : decode cX11_absent 64 = .ok (.iload_n 1, 1) := by decide +kernel
theorem dX11_absent_65 : decode cX11_absent 65 = .ok (.iload_n 2, 1) := by decide +kernel
theorem dX11_absent_66 : decode cX11_absent 66 = .ok (.iastore, 1) := by decide +kernel
theorem dX11_absent_67 : decode cX11_absent 67 = .ok (.aload_n 0, 1) := by decide +kernel
theorem dX11_absent_68 : decode cX11_absent 68 = .ok (.getfield 23, 3) := by decide +kernel
theorem dX11_absent_71 : decode cX11_absent 71 = .ok (.iload_n 1, 1) := by decide +kernel
theorem dX11_absent_72 : decode cX11_absent 72 = .ok (.iload_n 3, 1) := by decide +kernel
theorem dX11_absent_73 : decode cX11_absent 73 = .ok (.iastore, 1) := by decide +kernel
theorem dX11_absent_74 : decode cX11_absent 74 = .ok (.return_, 1) := by decide +kernel
def f_absent (p1 : Int32) (p2 : Int32) (p3 : Int32) (M : MS) : MS :=
    if P_isPerson p1 M then
      if P_isPerson p3 M then
        if P_in p2 0 1079 then
          if p1 = p3 then
            (sI M 0 2)
          else
          (rI (rI (sI M 0 0) 6 p1 p2) 7 p1 p3)
        else
        (sI M 0 2)
      else
      (sI M 0 1)
    else
    (sI M 0 1)
abbrev rm_X11_absent : Room := { frames := 2, cells := 0, slots := 0, locals := 43 }
set_option maxRecDepth 100000 in
set_option maxHeartbeats 4000000 in
theorem c_absent {l : Launch} {k : KC} {mo : Nat} {ad : Nat → Nat} (hl : l.stackTraces = false) (hM : HM mo ad) {M : MS} {p1 : Int32} {p2 : Int32} {p3 : Int32} (h3 : LE (mI M 3) 12) : CM l k mo ad yX11_absent (.code yX11_absent cX11_absent 5 none) rm_X11_absent [.int p1, .int p2, .int p3] M none (f_absent p1 p2 p3 M) := by
  refine MC.of 1 hl (by decide) (Nat.le_of_ble_eq_true rfl) ?_
  intro p e s m args below meth c A Q G B _ _
  show Wx p l e rm_X11_absent s m args below meth c k A 5 Q 0 0 0 [some (.ref mo), some (.int p1), some (.int p2), some (.int p3), none] [] (mW k mo ad M)
  refine x_aload0 (pc := 0) G dX11_absent_0 ?_
  refine x_iload1 (pc := 1) G dX11_absent_1 ?_
  refine y_cb1 (pc := 2) G (b_isPerson hl hM ) q_ml_X11_206 h_X11_isPerson rfl ⟨Nat.le_of_ble_eq_true rfl, Nat.le_of_ble_eq_true rfl⟩ (Nat.le_of_ble_eq_true rfl) (Nat.le_refl _) (Nat.le_refl _) dX11_absent_2 (fun c1 => ?_) (fun c1 => ?_)
  · refine x_if_eq (pc := 5) (y := 0) (tgt := 20) G dX11_absent_5 rfl (fun q => absurd q (by decide)) (fun _ => ?_)
    refine x_aload0 (pc := 8) G dX11_absent_8 ?_
    refine x_iload3 (pc := 9) G dX11_absent_9 ?_
    refine y_cb1 (pc := 10) G (b_isPerson hl hM ) q_ml_X11_206 h_X11_isPerson rfl ⟨Nat.le_of_ble_eq_true rfl, Nat.le_of_ble_eq_true rfl⟩ (Nat.le_of_ble_eq_true rfl) (Nat.le_refl _) (Nat.le_refl _) dX11_absent_10 (fun c2 => ?_) (fun c2 => ?_)
    · refine x_if_eq (pc := 13) (y := 0) (tgt := 20) G dX11_absent_13 rfl (fun q => absurd q (by decide)) (fun _ => ?_)
      refine x_iconst (pc := 16) (v := 1) G dX11_absent_16 ic_1 ?_
      refine x_goto (pc := 17) (tgt := 21) G dX11_absent_17 rfl ?_
      refine x_istore4 (pc := 21) G dX11_absent_21 (Nat.le_of_ble_eq_true rfl) rfl ?_
      refine x_aload0 (pc := 23) G dX11_absent_23 ?_
      refine x_iload4 (pc := 24) G dX11_absent_24 ?_
      refine x_if_ne (pc := 26) (y := 0) (tgt := 33) G dX11_absent_26 rfl (fun _ => ?_) (fun q => absurd q (by decide))
      refine x_iload2 (pc := 33) G dX11_absent_33 ?_
      refine x_iconst (pc := 34) (v := 0) G dX11_absent_34 ic_0 ?_
      refine x_sipush (pc := 35) (v := 1079) G dX11_absent_35 sp_1079 ?_
      refine x_cSb3 (pc := 38) G (b_in hl hM _) q_ml_X11_181 h_X11_in ⟨Nat.le_of_ble_eq_true rfl, Nat.le_of_ble_eq_true rfl⟩ (Nat.le_of_ble_eq_true rfl) (Nat.le_refl _) (Nat.le_refl _) dX11_absent_38 (fun c3 => ?_) (fun c3 => ?_)
      · refine x_if_eq (pc := 41) (y := 0) (tgt := 53) G dX11_absent_41 rfl (fun q => absurd q (by decide)) (fun _ => ?_)
        refine x_iload1 (pc := 44) G dX11_absent_44 ?_
        refine x_iload3 (pc := 45) G dX11_absent_45 ?_
        refine x_icmp_eq (pc := 46) (tgt := 53) G dX11_absent_46 rfl (fun c4 => ?_) (fun c4 => ?_)
        · refine x_iconst (pc := 53) (v := 2) G dX11_absent_53 ic_2 ?_
          refine y_c1 (pc := 54) G (c_holdsN hl hM (by decide)) q_ml_X11_210 h_X11_holds rfl ⟨Nat.le_of_ble_eq_true rfl, Nat.le_of_ble_eq_true rfl⟩ (Nat.le_of_ble_eq_true rfl) (Nat.le_refl _) (Nat.le_refl _) dX11_absent_54 ?_
          refine x_if_eq (pc := 57) (y := 0) (tgt := 74) G dX11_absent_57 rfl (fun _ => ?_) (fun q => absurd q (by decide))
          exact x_vret (pc := 74) G B rfl dX11_absent_74 ⟨rfl, by rw [f_absent, if_pos c1, if_pos c2, if_pos c3, if_pos c4]⟩
        refine x_iconst (pc := 49) (v := 0) G dX11_absent_49 ic_0 ?_
        refine x_goto (pc := 50) (tgt := 54) G dX11_absent_50 rfl ?_
        refine y_c1 (pc := 54) G (c_holds0 hl hM) q_ml_X11_210 h_X11_holds rfl ⟨Nat.le_of_ble_eq_true rfl, Nat.le_of_ble_eq_true rfl⟩ (Nat.le_of_ble_eq_true rfl) (Nat.le_refl _) (Nat.le_refl _) dX11_absent_54 ?_
        refine x_if_eq (pc := 57) (y := 0) (tgt := 74) G dX11_absent_57 rfl (fun q => absurd q (by decide)) (fun _ => ?_)
        refine x_aload0 (pc := 60) G dX11_absent_60 ?_
        refine y_gA (pc := 61) G g_20 mG_6 dX11_absent_61 ?_
        refine x_iload1 (pc := 64) G dX11_absent_64 ?_
        refine x_iload2 (pc := 65) G dX11_absent_65 ?_
        refine y_iast (pc := 66) G hM a_6 (by exact vin_lt h3 (by decide) (by assumption)) dX11_absent_66 ?_
        refine x_aload0 (pc := 67) G dX11_absent_67 ?_
        refine y_gA (pc := 68) G g_23 mG_7 dX11_absent_68 ?_
        refine x_iload1 (pc := 71) G dX11_absent_71 ?_
        refine x_iload3 (pc := 72) G dX11_absent_72 ?_
        refine y_iast (pc := 73) G hM a_7 (by exact vin_lt h3 (by decide) (by assumption)) dX11_absent_73 ?_
        exact x_vret (pc := 74) G B rfl dX11_absent_74 ⟨rfl, by rw [f_absent, if_pos c1, if_pos c2, if_pos c3, if_neg c4]⟩
      refine x_if_eq (pc := 41) (y := 0) (tgt := 53) G dX11_absent_41 rfl (fun _ => ?_) (fun q => absurd q (by decide))
      refine x_iconst (pc := 53) (v := 2) G dX11_absent_53 ic_2 ?_
      refine y_c1 (pc := 54) G (c_holdsN hl hM (by decide)) q_ml_X11_210 h_X11_holds rfl ⟨Nat.le_of_ble_eq_true rfl, Nat.le_of_ble_eq_true rfl⟩ (Nat.le_of_ble_eq_true rfl) (Nat.le_refl _) (Nat.le_refl _) dX11_absent_54 ?_
      refine x_if_eq (pc := 57) (y := 0) (tgt := 74) G dX11_absent_57 rfl (fun _ => ?_) (fun q => absurd q (by decide))
      exact x_vret (pc := 74) G B rfl dX11_absent_74 ⟨rfl, by rw [f_absent, if_pos c1, if_pos c2, if_neg c3]⟩
    refine x_if_eq (pc := 13) (y := 0) (tgt := 20) G dX11_absent_13 rfl (fun _ => ?_) (fun q => absurd q (by decide))
    refine x_iconst (pc := 20) (v := 0) G dX11_absent_20 ic_0 ?_
    refine x_istore4 (pc := 21) G dX11_absent_21 (Nat.le_of_ble_eq_true rfl) rfl ?_
    refine x_aload0 (pc := 23) G dX11_absent_23 ?_
    refine x_iload4 (pc := 24) G dX11_absent_24 ?_
    refine x_if_ne (pc := 26) (y := 0) (tgt := 33) G dX11_absent_26 rfl (fun q => absurd q (by decide)) (fun _ => ?_)
    refine x_iconst (pc := 29) (v := 1) G dX11_absent_29 ic_1 ?_
    refine x_goto (pc := 30) (tgt := 54) G dX11_absent_30 rfl ?_
    refine y_c1 (pc := 54) G (c_holdsN hl hM (by decide)) q_ml_X11_210 h_X11_holds rfl ⟨Nat.le_of_ble_eq_true rfl, Nat.le_of_ble_eq_true rfl⟩ (Nat.le_of_ble_eq_true rfl) (Nat.le_refl _) (Nat.le_refl _) dX11_absent_54 ?_
    refine x_if_eq (pc := 57) (y := 0) (tgt := 74) G dX11_absent_57 rfl (fun _ => ?_) (fun q => absurd q (by decide))
    exact x_vret (pc := 74) G B rfl dX11_absent_74 ⟨rfl, by rw [f_absent, if_pos c1, if_neg c2]⟩
  refine x_if_eq (pc := 5) (y := 0) (tgt := 20) G dX11_absent_5 rfl (fun _ => ?_) (fun q => absurd q (by decide))
  refine x_iconst (pc := 20) (v := 0) G dX11_absent_20 ic_0 ?_
  refine x_istore4 (pc := 21) G dX11_absent_21 (Nat.le_of_ble_eq_true rfl) rfl ?_
  refine x_aload0 (pc := 23) G dX11_absent_23 ?_
  refine x_iload4 (pc := 24) G dX11_absent_24 ?_
  refine x_if_ne (pc := 26) (y := 0) (tgt := 33) G dX11_absent_26 rfl (fun q => absurd q (by decide)) (fun _ => ?_)
  refine x_iconst (pc := 29) (v := 1) G dX11_absent_29 ic_1 ?_
  refine x_goto (pc := 30) (tgt := 54) G dX11_absent_30 rfl ?_
  refine y_c1 (pc := 54) G (c_holdsN hl hM (by decide)) q_ml_X11_210 h_X11_holds rfl ⟨Nat.le_of_ble_eq_true rfl, Nat.le_of_ble_eq_true rfl⟩ (Nat.le_of_ble_eq_true rfl) (Nat.le_refl _) (Nat.le_refl _) dX11_absent_54 ?_
  refine x_if_eq (pc := 57) (y := 0) (tgt := 74) G dX11_absent_57 rfl (fun _ => ?_) (fun q => absurd q (by decide))
  exact x_vret (pc := 74) G B rfl dX11_absent_74 ⟨rfl, by rw [f_absent, if_neg c1]⟩
theorem dX11_controller_0 : decode cX11_controller 0 = .ok (.aload_n 0, 1) := by decide +kernel
theorem dX11_controller_1 : decode cX11_controller 1 = .ok (.aload_n 0, 1) := by decide +kernel
theorem dX11_controller_2 : decode cX11_controller 2 = .ok (.iload_n 1, 1) := by decide +kernel
theorem dX11_controller_3 : decode cX11_controller 3 = .ok (.invokevirtual 206, 3) := by decide +kernel
theorem dX11_controller_6 : decode cX11_controller 6 = .ok (.ifCond .eq 7, 3) := by decide +kernel
theorem dX11_controller_9 : decode cX11_controller 9 = .ok (.iconst 0, 1) := by decide +kernel
theorem dX11_controller_10 : decode cX11_controller 10 = .ok (.goto 4, 3) := by decide +kernel
theorem dX11_controller_13 : decode cX11_controller 13 = .ok (.iconst 1, 1) := by decide +kernel
theorem dX11_controller_14 : decode cX11_controller 14 = .ok (.invokevirtual 210, 3) := by decide +kernel
theorem dX11_controller_17 : decode cX11_controller 17 = .ok (.ifCond .ne 5, 3) := by decide +kernel
theorem dX11_controller_20 : decode cX11_controller 20 = .ok (.iconst 0, 1) := by decide +kernel
theorem dX11_controller_21 : decode cX11_controller 21 = .ok (.ireturn, 1) := by decide +kernel
theorem dX11_controller_22 : decode cX11_controller 22 = .ok (.aload_n 0, 1) := by decide +kernel
theorem dX11_controller_23 : decode cX11_controller 23 = .ok (.getfield 213, 3) := by decide +kernel
theorem dX11_controller_26 : decode cX11_controller 26 = .ok (.istore_n 2, 1) := by decide +kernel
theorem dX11_controller_27 : decode cX11_controller 27 = .ok (.aload_n 0, 1) := by decide +kernel
theorem dX11_controller_28 : decode cX11_controller 28 = .ok (.iload_n 1, 1) := by decide +kernel
theorem dX11_controller_29 : decode cX11_controller 29 = .ok (.putfield 213, 3) := by decide +kernel
theorem dX11_controller_32 : decode cX11_controller 32 = .ok (.iload_n 2, 1) := by decide +kernel
theorem dX11_controller_33 : decode cX11_controller 33 = .ok (.ireturn, 1) := by decide +kernel
def f_controller (p1 : Int32) (M : MS) : Int32 × MS :=
    if P_isPerson p1 M then
      ((mI M 10), (sI (sI M 0 0) 10 p1))
    else
    (0, (sI M 0 1))
abbrev rm_X11_controller : Room := { frames := 2, cells := 0, slots := 0, locals := 43 }
set_option maxRecDepth 100000 in
set_option maxHeartbeats 4000000 in
theorem c_controller {l : Launch} {k : KC} {mo : Nat} {ad : Nat → Nat} (hl : l.stackTraces = false) (hM : HM mo ad) {M : MS} {p1 : Int32}  : CM l k mo ad yX11_controller (.code yX11_controller cX11_controller 3 (some .int)) rm_X11_controller [.int p1] M (some (.int (f_controller p1 M).1)) (f_controller p1 M).2 := by
  refine MC.of 1 hl (by decide) (Nat.le_of_ble_eq_true rfl) ?_
  intro p e s m args below meth c A Q G B _ _
  show Wx p l e rm_X11_controller s m args below meth c k A 3 Q 0 0 0 [some (.ref mo), some (.int p1), none] [] (mW k mo ad M)
  refine x_aload0 (pc := 0) G dX11_controller_0 ?_
  refine x_aload0 (pc := 1) G dX11_controller_1 ?_
  refine x_iload1 (pc := 2) G dX11_controller_2 ?_
  refine y_cb1 (pc := 3) G (b_isPerson hl hM ) q_ml_X11_206 h_X11_isPerson rfl ⟨Nat.le_of_ble_eq_true rfl, Nat.le_of_ble_eq_true rfl⟩ (Nat.le_of_ble_eq_true rfl) (Nat.le_refl _) (Nat.le_refl _) dX11_controller_3 (fun c1 => ?_) (fun c1 => ?_)
  · refine x_if_eq (pc := 6) (y := 0) (tgt := 13) G dX11_controller_6 rfl (fun q => absurd q (by decide)) (fun _ => ?_)
    refine x_iconst (pc := 9) (v := 0) G dX11_controller_9 ic_0 ?_
    refine x_goto (pc := 10) (tgt := 14) G dX11_controller_10 rfl ?_
    refine y_c1 (pc := 14) G (c_holds0 hl hM) q_ml_X11_210 h_X11_holds rfl ⟨Nat.le_of_ble_eq_true rfl, Nat.le_of_ble_eq_true rfl⟩ (Nat.le_of_ble_eq_true rfl) (Nat.le_refl _) (Nat.le_refl _) dX11_controller_14 ?_
    refine x_if_ne (pc := 17) (y := 0) (tgt := 22) G dX11_controller_17 rfl (fun _ => ?_) (fun q => absurd q (by decide))
    refine x_aload0 (pc := 22) G dX11_controller_22 ?_
    refine y_gI (pc := 23) (v := (mI M 10)) G g_213 mG_10 (mI_sIn rfl) dX11_controller_23 ?_
    refine x_istore2 (pc := 26) G dX11_controller_26 (Nat.le_of_ble_eq_true rfl) rfl ?_
    refine x_aload0 (pc := 27) G dX11_controller_27 ?_
    refine x_iload1 (pc := 28) G dX11_controller_28 ?_
    refine y_pI (pc := 29) G p_213 mS_10 dX11_controller_29 ?_
    refine x_iload2 (pc := 32) G dX11_controller_32 ?_
    exact x_iret (pc := 33) G B rfl dX11_controller_33 ⟨by rw [f_controller, if_pos c1], by rw [f_controller, if_pos c1]⟩
  refine x_if_eq (pc := 6) (y := 0) (tgt := 13) G dX11_controller_6 rfl (fun _ => ?_) (fun q => absurd q (by decide))
  refine x_iconst (pc := 13) (v := 1) G dX11_controller_13 ic_1 ?_
  refine y_c1 (pc := 14) G (c_holdsN hl hM (by decide)) q_ml_X11_210 h_X11_holds rfl ⟨Nat.le_of_ble_eq_true rfl, Nat.le_of_ble_eq_true rfl⟩ (Nat.le_of_ble_eq_true rfl) (Nat.le_refl _) (Nat.le_refl _) dX11_controller_14 ?_
  refine x_if_ne (pc := 17) (y := 0) (tgt := 22) G dX11_controller_17 rfl (fun q => absurd q (by decide)) (fun _ => ?_)
  refine x_iconst (pc := 20) (v := 0) G dX11_controller_20 ic_0 ?_
  exact x_iret (pc := 21) G B rfl dX11_controller_21 ⟨by rw [f_controller, if_neg c1], by rw [f_controller, if_neg c1]⟩
theorem dX11_budget_0 : decode cX11_budget 0 = .ok (.aload_n 0, 1) := by decide +kernel
theorem dX11_budget_1 : decode cX11_budget 1 = .ok (.iload_n 1, 1) := by decide +kernel
theorem dX11_budget_2 : decode cX11_budget 2 = .ok (.invokestatic 216, 3) := by decide +kernel
theorem dX11_budget_5 : decode cX11_budget 5 = .ok (.ifCond .eq 10, 3) := by decide +kernel
theorem dX11_budget_8 : decode cX11_budget 8 = .ok (.iload_n 2, 1) := by decide +kernel
theorem dX11_budget_9 : decode cX11_budget 9 = .ok (.invokestatic 219, 3) := by decide +kernel
theorem dX11_budget_12 : decode cX11_budget 12 = .ok (.ifCond .ne 7, 3) := by decide +kernel
theorem dX11_budget_15 : decode cX11_budget 15 = .ok (.iconst 1, 1) := by decide +kernel
theorem dX11_budget_16 : decode cX11_budget 16 = .ok (.goto 18, 3) := by decide +kernel
theorem dX11_budget_19 : decode cX11_budget 19 = .ok (.iload_n 3, 1) := by decide +kernel
theorem dX11_budget_20 : decode cX11_budget 20 = .ok (.iconst 0, 1) := by decide +kernel
theorem dX11_budget_21 : decode cX11_budget 21 = .ok (.ldc 222, 2) := by decide +kernel
theorem dX11_budget_23 : decode cX11_budget 23 = .ok (.invokestatic 181, 3) := by decide +kernel
theorem dX11_budget_26 : decode cX11_budget 26 = .ok (.ifCond .eq 7, 3) := by decide +kernel
theorem dX11_budget_29 : decode cX11_budget 29 = .ok (.iconst 0, 1) := by decide +kernel
theorem dX11_budget_30 : decode cX11_budget 30 = .ok (.goto 4, 3) := by decide +kernel
theorem dX11_budget_33 : decode cX11_budget 33 = .ok (.iconst 2, 1) := by decide +kernel
theorem dX11_budget_34 : decode cX11_budget 34 = .ok (.invokevirtual 210, 3) := by decide +kernel
theorem dX11_budget_37 : decode cX11_budget 37 = .ok (.ifCond .ne 5, 3) := by decide +kernel
theorem dX11_budget_40 : decode cX11_budget 40 = .ok (.lconst 0, 1) := by decide +kernel
theorem dX11_budget_41 : decode cX11_budget 41 = .ok (.lreturn, 1) := by decide +kernel
theorem dX11_budget_42 : decode cX11_budget 42 = .ok (.aload_n 0, 1) := by decide +kernel
theorem dX11_budget_43 : decode cX11_budget 43 = .ok (.getfield 32, 3) := by decide +kernel
theorem dX11_budget_46 : decode cX11_budget 46 = .ok (.iload_n 1, 1) := by decide +kernel
theorem dX11_budget_47 : decode cX11_budget 47 = .ok (.iload_n 2, 1) := by decide +kernel
theorem dX11_budget_48 : decode cX11_budget 48 = .ok (.iconst 0, 1) := by decide +kernel
theorem dX11_budget_49 : decode cX11_budget 49 = .ok (.invokestatic 198, 3) := by decide +kernel
theorem dX11_budget_52 : decode cX11_budget 52 = .ok (.laload, 1) := by decide +kernel
theorem dX11_budget_53 : decode cX11_budget 53 = .ok (.lstore 4, 2) := by decide +kernel
theorem dX11_budget_55 : decode cX11_budget 55 = .ok (.aload_n 0, 1) := by decide +kernel
theorem dX11_budget_56 : decode cX11_budget 56 = .ok (.getfield 32, 3) := by decide +kernel
theorem dX11_budget_59 : decode cX11_budget 59 = .ok (.iload_n 1, 1) := by decide +kernel
theorem dX11_budget_60 : decode cX11_budget 60 = .ok (.iload_n 2, 1) := by decide +kernel
theorem dX11_budget_61 : decode cX11_budget 61 = .ok (.iconst 0, 1) := by decide +kernel
theorem dX11_budget_62 : decode cX11_budget 62 = .ok (.invokestatic 198, 3) := by decide +kernel
theorem dX11_budget_65 : decode cX11_budget 65 = .ok (.iload_n 3, 1) := by decide +kernel
theorem dX11_budget_66 : decode cX11_budget 66 = .ok (.i2l, 1) := by decide +kernel
theorem dX11_budget_67 : decode cX11_budget 67 = .ok (.lastore, 1) := by decide +kernel
theorem dX11_budget_68 : decode cX11_budget 68 = .ok (.lload 4, 2) := by decide +kernel
theorem dX11_budget_70 : decode cX11_budget 70 = .ok (.lreturn, 1) := by decide +kernel
def f_budget (p1 : Int32) (p2 : Int32) (p3 : Int32) (M : MS) : Int64 × MS :=
    if P_isCentre p1 then
      if P_isYear p2 then
        if P_in p3 0 100000000 then
          ((gJ M 11 (f_at p1 p2 0)), (rJ (sI M 0 0) 11 (f_at p1 p2 0) (p3.toInt64)))
        else
        (0, (sI M 0 2))
      else
      (0, (sI M 0 1))
    else
    (0, (sI M 0 1))
abbrev rm_X11_budget : Room := { frames := 2, cells := 0, slots := 0, locals := 42 }
set_option maxRecDepth 100000 in
set_option maxHeartbeats 4000000 in
theorem c_budget {l : Launch} {k : KC} {mo : Nat} {ad : Nat → Nat} (hl : l.stackTraces = false) (hM : HM mo ad) {M : MS} {p1 : Int32} {p2 : Int32} {p3 : Int32}  : CM l k mo ad yX11_budget (.code yX11_budget cX11_budget 6 (some .long)) rm_X11_budget [.int p1, .int p2, .int p3] M (some (.long (f_budget p1 p2 p3 M).1)) (f_budget p1 p2 p3 M).2 := by
  refine MC.of 2 hl (by decide) (Nat.le_of_ble_eq_true rfl) ?_
  intro p e s m args below meth c A Q G B _ _
  show Wx p l e rm_X11_budget s m args below meth c k A 6 Q 0 0 0 [some (.ref mo), some (.int p1), some (.int p2), some (.int p3), none, none] [] (mW k mo ad M)
  refine x_aload0 (pc := 0) G dX11_budget_0 ?_
  refine x_iload1 (pc := 1) G dX11_budget_1 ?_
  refine x_cSb1 (pc := 2) G (b_isCentre hl hM _) q_ml_X11_216 h_X11_isCentre ⟨Nat.le_of_ble_eq_true rfl, Nat.le_of_ble_eq_true rfl⟩ (Nat.le_of_ble_eq_true rfl) (Nat.le_refl _) (Nat.le_refl _) dX11_budget_2 (fun c1 => ?_) (fun c1 => ?_)
  · refine x_if_eq (pc := 5) (y := 0) (tgt := 15) G dX11_budget_5 rfl (fun q => absurd q (by decide)) (fun _ => ?_)
    refine x_iload2 (pc := 8) G dX11_budget_8 ?_
    refine x_cSb1 (pc := 9) G (b_isYear hl hM _) q_ml_X11_219 h_X11_isYear ⟨Nat.le_of_ble_eq_true rfl, Nat.le_of_ble_eq_true rfl⟩ (Nat.le_of_ble_eq_true rfl) (Nat.le_refl _) (Nat.le_refl _) dX11_budget_9 (fun c2 => ?_) (fun c2 => ?_)
    · refine x_if_ne (pc := 12) (y := 0) (tgt := 19) G dX11_budget_12 rfl (fun _ => ?_) (fun q => absurd q (by decide))
      refine x_iload3 (pc := 19) G dX11_budget_19 ?_
      refine x_iconst (pc := 20) (v := 0) G dX11_budget_20 ic_0 ?_
      refine x_ldc (pc := 21) G q_cs_X11_222 dX11_budget_21 ?_
      refine x_cSb3 (pc := 23) G (b_in hl hM _) q_ml_X11_181 h_X11_in ⟨Nat.le_of_ble_eq_true rfl, Nat.le_of_ble_eq_true rfl⟩ (Nat.le_of_ble_eq_true rfl) (Nat.le_refl _) (Nat.le_refl _) dX11_budget_23 (fun c3 => ?_) (fun c3 => ?_)
      · refine x_if_eq (pc := 26) (y := 0) (tgt := 33) G dX11_budget_26 rfl (fun q => absurd q (by decide)) (fun _ => ?_)
        refine x_iconst (pc := 29) (v := 0) G dX11_budget_29 ic_0 ?_
        refine x_goto (pc := 30) (tgt := 34) G dX11_budget_30 rfl ?_
        refine y_c1 (pc := 34) G (c_holds0 hl hM) q_ml_X11_210 h_X11_holds rfl ⟨Nat.le_of_ble_eq_true rfl, Nat.le_of_ble_eq_true rfl⟩ (Nat.le_of_ble_eq_true rfl) (Nat.le_refl _) (Nat.le_refl _) dX11_budget_34 ?_
        refine x_if_ne (pc := 37) (y := 0) (tgt := 42) G dX11_budget_37 rfl (fun _ => ?_) (fun q => absurd q (by decide))
        refine x_aload0 (pc := 42) G dX11_budget_42 ?_
        refine y_gA (pc := 43) G g_32 mG_11 dX11_budget_43 ?_
        refine x_iload1 (pc := 46) G dX11_budget_46 ?_
        refine x_iload2 (pc := 47) G dX11_budget_47 ?_
        refine x_iconst (pc := 48) (v := 0) G dX11_budget_48 ic_0 ?_
        refine x_cS3 (pc := 49) G (c_at hl hM _) q_ml_X11_198 h_X11_at ⟨Nat.le_of_ble_eq_true rfl, Nat.le_of_ble_eq_true rfl⟩ (Nat.le_of_ble_eq_true rfl) (Nat.le_refl _) (Nat.le_refl _) dX11_budget_49 ?_
        refine y_lald (pc := 52) (v := (gJ M 11 (f_at p1 p2 0))) G hM a_11 (by exact vin_at (by assumption) (by assumption) (by decide)) gJ_sI dX11_budget_52 ?_
        refine x_lstore4 (pc := 53) G dX11_budget_53 (Nat.le_of_ble_eq_true rfl) rfl ?_
        refine x_aload0 (pc := 55) G dX11_budget_55 ?_
        refine y_gA (pc := 56) G g_32 mG_11 dX11_budget_56 ?_
        refine x_iload1 (pc := 59) G dX11_budget_59 ?_
        refine x_iload2 (pc := 60) G dX11_budget_60 ?_
        refine x_iconst (pc := 61) (v := 0) G dX11_budget_61 ic_0 ?_
        refine x_cS3 (pc := 62) G (c_at hl hM _) q_ml_X11_198 h_X11_at ⟨Nat.le_of_ble_eq_true rfl, Nat.le_of_ble_eq_true rfl⟩ (Nat.le_of_ble_eq_true rfl) (Nat.le_refl _) (Nat.le_refl _) dX11_budget_62 ?_
        refine x_iload3 (pc := 65) G dX11_budget_65 ?_
        refine x_i2l (pc := 66) G dX11_budget_66 ?_
        refine y_last (pc := 67) G hM a_11 (by exact vin_at (by assumption) (by assumption) (by decide)) dX11_budget_67 ?_
        refine x_lload4 (pc := 68) G dX11_budget_68 ?_
        exact x_lret (pc := 70) G B rfl dX11_budget_70 ⟨by rw [f_budget, if_pos c1, if_pos c2, if_pos c3], by rw [f_budget, if_pos c1, if_pos c2, if_pos c3]⟩
      refine x_if_eq (pc := 26) (y := 0) (tgt := 33) G dX11_budget_26 rfl (fun _ => ?_) (fun q => absurd q (by decide))
      refine x_iconst (pc := 33) (v := 2) G dX11_budget_33 ic_2 ?_
      refine y_c1 (pc := 34) G (c_holdsN hl hM (by decide)) q_ml_X11_210 h_X11_holds rfl ⟨Nat.le_of_ble_eq_true rfl, Nat.le_of_ble_eq_true rfl⟩ (Nat.le_of_ble_eq_true rfl) (Nat.le_refl _) (Nat.le_refl _) dX11_budget_34 ?_
      refine x_if_ne (pc := 37) (y := 0) (tgt := 42) G dX11_budget_37 rfl (fun q => absurd q (by decide)) (fun _ => ?_)
      refine x_lconst (pc := 40) (v := 0) G dX11_budget_40 lc_0 ?_
      exact x_lret (pc := 41) G B rfl dX11_budget_41 ⟨by rw [f_budget, if_pos c1, if_pos c2, if_neg c3], by rw [f_budget, if_pos c1, if_pos c2, if_neg c3]⟩
    refine x_if_ne (pc := 12) (y := 0) (tgt := 19) G dX11_budget_12 rfl (fun q => absurd q (by decide)) (fun _ => ?_)
    refine x_iconst (pc := 15) (v := 1) G dX11_budget_15 ic_1 ?_
    refine x_goto (pc := 16) (tgt := 34) G dX11_budget_16 rfl ?_
    refine y_c1 (pc := 34) G (c_holdsN hl hM (by decide)) q_ml_X11_210 h_X11_holds rfl ⟨Nat.le_of_ble_eq_true rfl, Nat.le_of_ble_eq_true rfl⟩ (Nat.le_of_ble_eq_true rfl) (Nat.le_refl _) (Nat.le_refl _) dX11_budget_34 ?_
    refine x_if_ne (pc := 37) (y := 0) (tgt := 42) G dX11_budget_37 rfl (fun q => absurd q (by decide)) (fun _ => ?_)
    refine x_lconst (pc := 40) (v := 0) G dX11_budget_40 lc_0 ?_
    exact x_lret (pc := 41) G B rfl dX11_budget_41 ⟨by rw [f_budget, if_pos c1, if_neg c2], by rw [f_budget, if_pos c1, if_neg c2]⟩
  refine x_if_eq (pc := 5) (y := 0) (tgt := 15) G dX11_budget_5 rfl (fun _ => ?_) (fun q => absurd q (by decide))
  refine x_iconst (pc := 15) (v := 1) G dX11_budget_15 ic_1 ?_
  refine x_goto (pc := 16) (tgt := 34) G dX11_budget_16 rfl ?_
  refine y_c1 (pc := 34) G (c_holdsN hl hM (by decide)) q_ml_X11_210 h_X11_holds rfl ⟨Nat.le_of_ble_eq_true rfl, Nat.le_of_ble_eq_true rfl⟩ (Nat.le_of_ble_eq_true rfl) (Nat.le_refl _) (Nat.le_refl _) dX11_budget_34 ?_
  refine x_if_ne (pc := 37) (y := 0) (tgt := 42) G dX11_budget_37 rfl (fun q => absurd q (by decide)) (fun _ => ?_)
  refine x_lconst (pc := 40) (v := 0) G dX11_budget_40 lc_0 ?_
  exact x_lret (pc := 41) G B rfl dX11_budget_41 ⟨by rw [f_budget, if_neg c1], by rw [f_budget, if_neg c1]⟩
theorem dX11_transfer_0 : decode cX11_transfer 0 = .ok (.iload_n 1, 1) := by decide +kernel
theorem dX11_transfer_1 : decode cX11_transfer 1 = .ok (.invokestatic 216, 3) := by decide +kernel
theorem dX11_transfer_4 : decode cX11_transfer 4 = .ok (.ifCond .eq 21, 3) := by decide +kernel
theorem dX11_transfer_7 : decode cX11_transfer 7 = .ok (.iload_n 2, 1) := by decide +kernel
theorem dX11_transfer_8 : decode cX11_transfer 8 = .ok (.invokestatic 216, 3) := by decide +kernel
theorem dX11_transfer_11 : decode cX11_transfer 11 = .ok (.ifCond .eq 14, 3) := by decide +kernel
theorem dX11_transfer_14 : decode cX11_transfer 14 = .ok (.iload_n 3, 1) := by decide +kernel
theorem dX11_transfer_15 : decode cX11_transfer 15 = .ok (.invokestatic 219, 3) := by decide +kernel
theorem dX11_transfer_18 : decode cX11_transfer 18 = .ok (.ifCond .eq 7, 3) := by decide +kernel
theorem dX11_transfer_21 : decode cX11_transfer 21 = .ok (.iconst 1, 1) := by decide +kernel
theorem dX11_transfer_22 : decode cX11_transfer 22 = .ok (.goto 4, 3) := by decide +kernel
theorem dX11_transfer_25 : decode cX11_transfer 25 = .ok (.iconst 0, 1) := by decide +kernel
theorem dX11_transfer_26 : decode cX11_transfer 26 = .ok (.istore 5, 2) := by decide +kernel
theorem dX11_transfer_28 : decode cX11_transfer 28 = .ok (.iload 5, 2) := by decide +kernel
theorem dX11_transfer_30 : decode cX11_transfer 30 = .ok (.ifCond .eq 23, 3) := by decide +kernel
theorem dX11_transfer_33 : decode cX11_transfer 33 = .ok (.iload_n 1, 1) := by decide +kernel
theorem dX11_transfer_34 : decode cX11_transfer 34 = .ok (.iload_n 2, 1) := by decide +kernel
theorem dX11_transfer_35 : decode cX11_transfer 35 = .ok (.if_icmp .eq 18, 3) := by decide +kernel
theorem dX11_transfer_38 : decode cX11_transfer 38 = .ok (.iload 4, 2) := by decide +kernel
theorem dX11_transfer_40 : decode cX11_transfer 40 = .ok (.iconst 1, 1) := by decide +kernel
theorem dX11_transfer_41 : decode cX11_transfer 41 = .ok (.ldc 222, 2) := by decide +kernel
theorem dX11_transfer_43 : decode cX11_transfer 43 = .ok (.invokestatic 181, 3) := by decide +kernel
theorem dX11_transfer_46 : decode cX11_transfer 46 = .ok (.ifCond .eq 7, 3) := by decide +kernel
theorem dX11_transfer_49 : decode cX11_transfer 49 = .ok (.iconst 1, 1) := by decide +kernel
theorem dX11_transfer_50 : decode cX11_transfer 50 = .ok (.goto 4, 3) := by decide +kernel
theorem dX11_transfer_53 : decode cX11_transfer 53 = .ok (.iconst 0, 1) := by decide +kernel
theorem dX11_transfer_54 : decode cX11_transfer 54 = .ok (.istore 6, 2) := by decide +kernel
theorem dX11_transfer_56 : decode cX11_transfer 56 = .ok (.aload_n 0, 1) := by decide +kernel
theorem dX11_transfer_57 : decode cX11_transfer 57 = .ok (.iload 5, 2) := by decide +kernel
theorem dX11_transfer_59 : decode cX11_transfer 59 = .ok (.ifCond .ne 7, 3) := by decide +kernel
theorem dX11_transfer_62 : decode cX11_transfer 62 = .ok (.iconst 1, 1) := by decide +kernel
theorem dX11_transfer_63 : decode cX11_transfer 63 = .ok (.goto 30, 3) := by decide +kernel
theorem dX11_transfer_66 : decode cX11_transfer 66 = .ok (.iload 6, 2) := by decide +kernel
theorem dX11_transfer_68 : decode cX11_transfer 68 = .ok (.ifCond .ne 7, 3) := by decide +kernel
theorem dX11_transfer_71 : decode cX11_transfer 71 = .ok (.iconst 2, 1) := by decide +kernel
theorem dX11_transfer_72 : decode cX11_transfer 72 = .ok (.goto 21, 3) := by decide +kernel
theorem dX11_transfer_75 : decode cX11_transfer 75 = .ok (.aload_n 0, 1) := by decide +kernel
theorem dX11_transfer_76 : decode cX11_transfer 76 = .ok (.iload_n 1, 1) := by decide +kernel
theorem dX11_transfer_77 : decode cX11_transfer 77 = .ok (.iload_n 3, 1) := by decide +kernel
theorem dX11_transfer_78 : decode cX11_transfer 78 = .ok (.invokevirtual 202, 3) := by decide +kernel
theorem dX11_transfer_81 : decode cX11_transfer 81 = .ok (.iload 4, 2) := by decide +kernel
theorem dX11_transfer_83 : decode cX11_transfer 83 = .ok (.i2l, 1) := by decide +kernel
theorem dX11_transfer_84 : decode cX11_transfer 84 = .ok (.lcmp, 1) := by decide +kernel
theorem dX11_transfer_85 : decode cX11_transfer 85 = .ok (.ifCond .ge 7, 3) := by decide +kernel
theorem dX11_transfer_88 : decode cX11_transfer 88 = .ok (.iconst 3, 1) := by decide +kernel
theorem dX11_transfer_89 : decode cX11_transfer 89 = .ok (.goto 4, 3) := by decide +kernel
theorem dX11_transfer_92 : decode cX11_transfer 92 = .ok (.iconst 0, 1) := by decide +kernel
theorem dX11_transfer_93 : decode cX11_transfer 93 = .ok (.invokevirtual 210, 3) := by decide +kernel
theorem dX11_transfer_96 : decode cX11_transfer 96 = .ok (.ifCond .ne 5, 3) := by decide +kernel
theorem dX11_transfer_99 : decode cX11_transfer 99 = .ok (.lconst 0, 1) := by decide +kernel
theorem dX11_transfer_100 : decode cX11_transfer 100 = .ok (.lreturn, 1) := by decide +kernel
theorem dX11_transfer_101 : decode cX11_transfer 101 = .ok (.aload_n 0, 1) := by decide +kernel
theorem dX11_transfer_102 : decode cX11_transfer 102 = .ok (.getfield 32, 3) := by decide +kernel
theorem dX11_transfer_105 : decode cX11_transfer 105 = .ok (.iload_n 1, 1) := by decide +kernel
theorem dX11_transfer_106 : decode cX11_transfer 106 = .ok (.iload_n 3, 1) := by decide +kernel
theorem dX11_transfer_107 : decode cX11_transfer 107 = .ok (.iconst 0, 1) := by decide +kernel
theorem dX11_transfer_108 : decode cX11_transfer 108 = .ok (.invokestatic 198, 3) := by decide +kernel
theorem dX11_transfer_111 : decode cX11_transfer 111 = .ok (.dup2, 1) := by decide +kernel
theorem dX11_transfer_112 : decode cX11_transfer 112 = .ok (.laload, 1) := by decide +kernel
theorem dX11_transfer_113 : decode cX11_transfer 113 = .ok (.iload 4, 2) := by decide +kernel
theorem dX11_transfer_115 : decode cX11_transfer 115 = .ok (.i2l, 1) := by decide +kernel
theorem dX11_transfer_116 : decode cX11_transfer 116 = .ok (.lsub, 1) := by decide +kernel
theorem dX11_transfer_117 : decode cX11_transfer 117 = .ok (.lastore, 1) := by decide +kernel
theorem dX11_transfer_118 : decode cX11_transfer 118 = .ok (.aload_n 0, 1) := by decide +kernel
theorem dX11_transfer_119 : decode cX11_transfer 119 = .ok (.getfield 32, 3) := by decide +kernel
theorem dX11_transfer_122 : decode cX11_transfer 122 = .ok (.iload_n 2, 1) := by decide +kernel
theorem dX11_transfer_123 : decode cX11_transfer 123 = .ok (.iload_n 3, 1) := by decide +kernel
theorem dX11_transfer_124 : decode cX11_transfer 124 = .ok (.iconst 0, 1) := by decide +kernel
theorem dX11_transfer_125 : decode cX11_transfer 125 = .ok (.invokestatic 198, 3) := by decide +kernel
theorem dX11_transfer_128 : decode cX11_transfer 128 = .ok (.dup2, 1) := by decide +kernel
theorem dX11_transfer_129 : decode cX11_transfer 129 = .ok (.laload, 1) := by decide +kernel
theorem dX11_transfer_130 : decode cX11_transfer 130 = .ok (.iload 4, 2) := by decide +kernel
theorem dX11_transfer_132 : decode cX11_transfer 132 = .ok (.i2l, 1) := by decide +kernel
theorem dX11_transfer_133 : decode cX11_transfer 133 = .ok (.ladd, 1) := by decide +kernel
theorem dX11_transfer_134 : decode cX11_transfer 134 = .ok (.lastore, 1) := by decide +kernel
theorem dX11_transfer_135 : decode cX11_transfer 135 = .ok (.aload_n 0, 1) := by decide +kernel
theorem dX11_transfer_136 : decode cX11_transfer 136 = .ok (.iload_n 2, 1) := by decide +kernel
theorem dX11_transfer_137 : decode cX11_transfer 137 = .ok (.iload_n 3, 1) := by decide +kernel
theorem dX11_transfer_138 : decode cX11_transfer 138 = .ok (.invokevirtual 202, 3) := by decide +kernel
theorem dX11_transfer_141 : decode cX11_transfer 141 = .ok (.lreturn, 1) := by decide +kernel
def f_transfer (p1 : Int32) (p2 : Int32) (p3 : Int32) (p4 : Int32) (M : MS) : Int64 × MS :=
    if P_isCentre p1 then
      if P_isCentre p2 then
        if P_isYear p3 then
          if p1 = p2 then
            (0, (sI M 0 2))
          else
          if P_in p4 1 100000000 then
            if 0 ≤ (lg_cmp (f_free p1 p3 M) (p4.toInt64)) then
              ((f_free p2 p3 (rJ (rJ (sI M 0 0) 11 (f_at p1 p3 0) ((gJ M 11 (f_at p1 p3 0)) - (p4.toInt64))) 11 (f_at p2 p3 0) ((gJ (rJ (sI M 0 0) 11 (f_at p1 p3 0) ((gJ M 11 (f_at p1 p3 0)) - (p4.toInt64))) 11 (f_at p2 p3 0)) + (p4.toInt64)))), (rJ (rJ (sI M 0 0) 11 (f_at p1 p3 0) ((gJ M 11 (f_at p1 p3 0)) - (p4.toInt64))) 11 (f_at p2 p3 0) ((gJ (rJ (sI M 0 0) 11 (f_at p1 p3 0) ((gJ M 11 (f_at p1 p3 0)) - (p4.toInt64))) 11 (f_at p2 p3 0)) + (p4.toInt64))))
            else
            (0, (sI M 0 3))
          else
          (0, (sI M 0 2))
        else
        (0, (sI M 0 1))
      else
      (0, (sI M 0 1))
    else
    (0, (sI M 0 1))
abbrev rm_X11_transfer : Room := { frames := 2, cells := 0, slots := 0, locals := 44 }
set_option maxRecDepth 100000 in
set_option maxHeartbeats 4000000 in
theorem c_transfer {l : Launch} {k : KC} {mo : Nat} {ad : Nat → Nat} (hl : l.stackTraces = false) (hM : HM mo ad) {M : MS} {p1 : Int32} {p2 : Int32} {p3 : Int32} {p4 : Int32}  : CM l k mo ad yX11_transfer (.code yX11_transfer cX11_transfer 7 (some .long)) rm_X11_transfer [.int p1, .int p2, .int p3, .int p4] M (some (.long (f_transfer p1 p2 p3 p4 M).1)) (f_transfer p1 p2 p3 p4 M).2 := by
  refine MC.of 2 hl (by decide) (Nat.le_of_ble_eq_true rfl) ?_
  intro p e s m args below meth c A Q G B _ _
  show Wx p l e rm_X11_transfer s m args below meth c k A 7 Q 0 0 0 [some (.ref mo), some (.int p1), some (.int p2), some (.int p3), some (.int p4), none, none] [] (mW k mo ad M)
  refine x_iload1 (pc := 0) G dX11_transfer_0 ?_
  refine x_cSb1 (pc := 1) G (b_isCentre hl hM _) q_ml_X11_216 h_X11_isCentre ⟨Nat.le_of_ble_eq_true rfl, Nat.le_of_ble_eq_true rfl⟩ (Nat.le_of_ble_eq_true rfl) (Nat.le_refl _) (Nat.le_refl _) dX11_transfer_1 (fun c1 => ?_) (fun c1 => ?_)
  · refine x_if_eq (pc := 4) (y := 0) (tgt := 25) G dX11_transfer_4 rfl (fun q => absurd q (by decide)) (fun _ => ?_)
    refine x_iload2 (pc := 7) G dX11_transfer_7 ?_
    refine x_cSb1 (pc := 8) G (b_isCentre hl hM _) q_ml_X11_216 h_X11_isCentre ⟨Nat.le_of_ble_eq_true rfl, Nat.le_of_ble_eq_true rfl⟩ (Nat.le_of_ble_eq_true rfl) (Nat.le_refl _) (Nat.le_refl _) dX11_transfer_8 (fun c2 => ?_) (fun c2 => ?_)
    · refine x_if_eq (pc := 11) (y := 0) (tgt := 25) G dX11_transfer_11 rfl (fun q => absurd q (by decide)) (fun _ => ?_)
      refine x_iload3 (pc := 14) G dX11_transfer_14 ?_
      refine x_cSb1 (pc := 15) G (b_isYear hl hM _) q_ml_X11_219 h_X11_isYear ⟨Nat.le_of_ble_eq_true rfl, Nat.le_of_ble_eq_true rfl⟩ (Nat.le_of_ble_eq_true rfl) (Nat.le_refl _) (Nat.le_refl _) dX11_transfer_15 (fun c3 => ?_) (fun c3 => ?_)
      · refine x_if_eq (pc := 18) (y := 0) (tgt := 25) G dX11_transfer_18 rfl (fun q => absurd q (by decide)) (fun _ => ?_)
        refine x_iconst (pc := 21) (v := 1) G dX11_transfer_21 ic_1 ?_
        refine x_goto (pc := 22) (tgt := 26) G dX11_transfer_22 rfl ?_
        refine x_istore5 (pc := 26) G dX11_transfer_26 (Nat.le_of_ble_eq_true rfl) rfl ?_
        refine x_iload5 (pc := 28) G dX11_transfer_28 ?_
        refine x_if_eq (pc := 30) (y := 0) (tgt := 53) G dX11_transfer_30 rfl (fun q => absurd q (by decide)) (fun _ => ?_)
        refine x_iload1 (pc := 33) G dX11_transfer_33 ?_
        refine x_iload2 (pc := 34) G dX11_transfer_34 ?_
        refine x_icmp_eq (pc := 35) (tgt := 53) G dX11_transfer_35 rfl (fun c4 => ?_) (fun c4 => ?_)
        · refine x_iconst (pc := 53) (v := 0) G dX11_transfer_53 ic_0 ?_
          refine x_istore6 (pc := 54) G dX11_transfer_54 (Nat.le_of_ble_eq_true rfl) rfl ?_
          refine x_aload0 (pc := 56) G dX11_transfer_56 ?_
          refine x_iload5 (pc := 57) G dX11_transfer_57 ?_
          refine x_if_ne (pc := 59) (y := 0) (tgt := 66) G dX11_transfer_59 rfl (fun _ => ?_) (fun q => absurd q (by decide))
          refine x_iload6 (pc := 66) G dX11_transfer_66 ?_
          refine x_if_ne (pc := 68) (y := 0) (tgt := 75) G dX11_transfer_68 rfl (fun q => absurd q (by decide)) (fun _ => ?_)
          refine x_iconst (pc := 71) (v := 2) G dX11_transfer_71 ic_2 ?_
          refine x_goto (pc := 72) (tgt := 93) G dX11_transfer_72 rfl ?_
          refine y_c1 (pc := 93) G (c_holdsN hl hM (by decide)) q_ml_X11_210 h_X11_holds rfl ⟨Nat.le_of_ble_eq_true rfl, Nat.le_of_ble_eq_true rfl⟩ (Nat.le_of_ble_eq_true rfl) (Nat.le_refl _) (Nat.le_refl _) dX11_transfer_93 ?_
          refine x_if_ne (pc := 96) (y := 0) (tgt := 101) G dX11_transfer_96 rfl (fun q => absurd q (by decide)) (fun _ => ?_)
          refine x_lconst (pc := 99) (v := 0) G dX11_transfer_99 lc_0 ?_
          exact x_lret (pc := 100) G B rfl dX11_transfer_100 ⟨by rw [f_transfer, if_pos c1, if_pos c2, if_pos c3, if_pos c4], by rw [f_transfer, if_pos c1, if_pos c2, if_pos c3, if_pos c4]⟩
        refine x_iload4 (pc := 38) G dX11_transfer_38 ?_
        refine x_iconst (pc := 40) (v := 1) G dX11_transfer_40 ic_1 ?_
        refine x_ldc (pc := 41) G q_cs_X11_222 dX11_transfer_41 ?_
        refine x_cSb3 (pc := 43) G (b_in hl hM _) q_ml_X11_181 h_X11_in ⟨Nat.le_of_ble_eq_true rfl, Nat.le_of_ble_eq_true rfl⟩ (Nat.le_of_ble_eq_true rfl) (Nat.le_refl _) (Nat.le_refl _) dX11_transfer_43 (fun c5 => ?_) (fun c5 => ?_)
        · refine x_if_eq (pc := 46) (y := 0) (tgt := 53) G dX11_transfer_46 rfl (fun q => absurd q (by decide)) (fun _ => ?_)
          refine x_iconst (pc := 49) (v := 1) G dX11_transfer_49 ic_1 ?_
          refine x_goto (pc := 50) (tgt := 54) G dX11_transfer_50 rfl ?_
          refine x_istore6 (pc := 54) G dX11_transfer_54 (Nat.le_of_ble_eq_true rfl) rfl ?_
          refine x_aload0 (pc := 56) G dX11_transfer_56 ?_
          refine x_iload5 (pc := 57) G dX11_transfer_57 ?_
          refine x_if_ne (pc := 59) (y := 0) (tgt := 66) G dX11_transfer_59 rfl (fun _ => ?_) (fun q => absurd q (by decide))
          refine x_iload6 (pc := 66) G dX11_transfer_66 ?_
          refine x_if_ne (pc := 68) (y := 0) (tgt := 75) G dX11_transfer_68 rfl (fun _ => ?_) (fun q => absurd q (by decide))
          refine x_aload0 (pc := 75) G dX11_transfer_75 ?_
          refine x_iload1 (pc := 76) G dX11_transfer_76 ?_
          refine x_iload3 (pc := 77) G dX11_transfer_77 ?_
          refine y_c2 (pc := 78) G (c_free hl hM c1 c3) q_ml_X11_202 h_X11_free rfl ⟨Nat.le_of_ble_eq_true rfl, Nat.le_of_ble_eq_true rfl⟩ (Nat.le_of_ble_eq_true rfl) (Nat.le_refl _) (Nat.le_refl _) dX11_transfer_78 ?_
          refine x_iload4 (pc := 81) G dX11_transfer_81 ?_
          refine x_i2l (pc := 83) G dX11_transfer_83 ?_
          refine x_lcmp (pc := 84) G dX11_transfer_84 ?_
          refine x_if_ge (pc := 85) (y := 0) (tgt := 92) G dX11_transfer_85 rfl (fun c6 => ?_) (fun c6 => ?_)
          · refine x_iconst (pc := 92) (v := 0) G dX11_transfer_92 ic_0 ?_
            refine y_c1 (pc := 93) G (c_holds0 hl hM) q_ml_X11_210 h_X11_holds rfl ⟨Nat.le_of_ble_eq_true rfl, Nat.le_of_ble_eq_true rfl⟩ (Nat.le_of_ble_eq_true rfl) (Nat.le_refl _) (Nat.le_refl _) dX11_transfer_93 ?_
            refine x_if_ne (pc := 96) (y := 0) (tgt := 101) G dX11_transfer_96 rfl (fun _ => ?_) (fun q => absurd q (by decide))
            refine x_aload0 (pc := 101) G dX11_transfer_101 ?_
            refine y_gA (pc := 102) G g_32 mG_11 dX11_transfer_102 ?_
            refine x_iload1 (pc := 105) G dX11_transfer_105 ?_
            refine x_iload3 (pc := 106) G dX11_transfer_106 ?_
            refine x_iconst (pc := 107) (v := 0) G dX11_transfer_107 ic_0 ?_
            refine x_cS3 (pc := 108) G (c_at hl hM _) q_ml_X11_198 h_X11_at ⟨Nat.le_of_ble_eq_true rfl, Nat.le_of_ble_eq_true rfl⟩ (Nat.le_of_ble_eq_true rfl) (Nat.le_refl _) (Nat.le_refl _) dX11_transfer_108 ?_
            refine x_dup2 (pc := 111) G dX11_transfer_111 rfl rfl ?_
            refine y_lald (pc := 112) (v := (gJ M 11 (f_at p1 p3 0))) G hM a_11 (by exact vin_at (by assumption) (by assumption) (by decide)) gJ_sI dX11_transfer_112 ?_
            refine x_iload4 (pc := 113) G dX11_transfer_113 ?_
            refine x_i2l (pc := 115) G dX11_transfer_115 ?_
            refine x_lsub (pc := 116) G dX11_transfer_116 ?_
            refine y_last (pc := 117) G hM a_11 (by exact vin_at (by assumption) (by assumption) (by decide)) dX11_transfer_117 ?_
            refine x_aload0 (pc := 118) G dX11_transfer_118 ?_
            refine y_gA (pc := 119) G g_32 mG_11 dX11_transfer_119 ?_
            refine x_iload2 (pc := 122) G dX11_transfer_122 ?_
            refine x_iload3 (pc := 123) G dX11_transfer_123 ?_
            refine x_iconst (pc := 124) (v := 0) G dX11_transfer_124 ic_0 ?_
            refine x_cS3 (pc := 125) G (c_at hl hM _) q_ml_X11_198 h_X11_at ⟨Nat.le_of_ble_eq_true rfl, Nat.le_of_ble_eq_true rfl⟩ (Nat.le_of_ble_eq_true rfl) (Nat.le_refl _) (Nat.le_refl _) dX11_transfer_125 ?_
            refine x_dup2 (pc := 128) G dX11_transfer_128 rfl rfl ?_
            refine y_lald (pc := 129) (v := (gJ (rJ (sI M 0 0) 11 (f_at p1 p3 0) ((gJ M 11 (f_at p1 p3 0)) - (p4.toInt64))) 11 (f_at p2 p3 0))) G hM a_11 (by exact vin_at (by assumption) (by assumption) (by decide)) rfl dX11_transfer_129 ?_
            refine x_iload4 (pc := 130) G dX11_transfer_130 ?_
            refine x_i2l (pc := 132) G dX11_transfer_132 ?_
            refine x_ladd (pc := 133) G dX11_transfer_133 ?_
            refine y_last (pc := 134) G hM a_11 (by exact vin_at (by assumption) (by assumption) (by decide)) dX11_transfer_134 ?_
            refine x_aload0 (pc := 135) G dX11_transfer_135 ?_
            refine x_iload2 (pc := 136) G dX11_transfer_136 ?_
            refine x_iload3 (pc := 137) G dX11_transfer_137 ?_
            refine y_c2 (pc := 138) G (c_free hl hM c2 c3) q_ml_X11_202 h_X11_free rfl ⟨Nat.le_of_ble_eq_true rfl, Nat.le_of_ble_eq_true rfl⟩ (Nat.le_of_ble_eq_true rfl) (Nat.le_refl _) (Nat.le_refl _) dX11_transfer_138 ?_
            exact x_lret (pc := 141) G B rfl dX11_transfer_141 ⟨by rw [f_transfer, if_pos c1, if_pos c2, if_pos c3, if_neg c4, if_pos c5, if_pos c6], by rw [f_transfer, if_pos c1, if_pos c2, if_pos c3, if_neg c4, if_pos c5, if_pos c6]⟩
          refine x_iconst (pc := 88) (v := 3) G dX11_transfer_88 ic_3 ?_
          refine x_goto (pc := 89) (tgt := 93) G dX11_transfer_89 rfl ?_
          refine y_c1 (pc := 93) G (c_holdsN hl hM (by decide)) q_ml_X11_210 h_X11_holds rfl ⟨Nat.le_of_ble_eq_true rfl, Nat.le_of_ble_eq_true rfl⟩ (Nat.le_of_ble_eq_true rfl) (Nat.le_refl _) (Nat.le_refl _) dX11_transfer_93 ?_
          refine x_if_ne (pc := 96) (y := 0) (tgt := 101) G dX11_transfer_96 rfl (fun q => absurd q (by decide)) (fun _ => ?_)
          refine x_lconst (pc := 99) (v := 0) G dX11_transfer_99 lc_0 ?_
          exact x_lret (pc := 100) G B rfl dX11_transfer_100 ⟨by rw [f_transfer, if_pos c1, if_pos c2, if_pos c3, if_neg c4, if_pos c5, if_neg c6], by rw [f_transfer, if_pos c1, if_pos c2, if_pos c3, if_neg c4, if_pos c5, if_neg c6]⟩
        refine x_if_eq (pc := 46) (y := 0) (tgt := 53) G dX11_transfer_46 rfl (fun _ => ?_) (fun q => absurd q (by decide))
        refine x_iconst (pc := 53) (v := 0) G dX11_transfer_53 ic_0 ?_
        refine x_istore6 (pc := 54) G dX11_transfer_54 (Nat.le_of_ble_eq_true rfl) rfl ?_
        refine x_aload0 (pc := 56) G dX11_transfer_56 ?_
        refine x_iload5 (pc := 57) G dX11_transfer_57 ?_
        refine x_if_ne (pc := 59) (y := 0) (tgt := 66) G dX11_transfer_59 rfl (fun _ => ?_) (fun q => absurd q (by decide))
        refine x_iload6 (pc := 66) G dX11_transfer_66 ?_
        refine x_if_ne (pc := 68) (y := 0) (tgt := 75) G dX11_transfer_68 rfl (fun q => absurd q (by decide)) (fun _ => ?_)
        refine x_iconst (pc := 71) (v := 2) G dX11_transfer_71 ic_2 ?_
        refine x_goto (pc := 72) (tgt := 93) G dX11_transfer_72 rfl ?_
        refine y_c1 (pc := 93) G (c_holdsN hl hM (by decide)) q_ml_X11_210 h_X11_holds rfl ⟨Nat.le_of_ble_eq_true rfl, Nat.le_of_ble_eq_true rfl⟩ (Nat.le_of_ble_eq_true rfl) (Nat.le_refl _) (Nat.le_refl _) dX11_transfer_93 ?_
        refine x_if_ne (pc := 96) (y := 0) (tgt := 101) G dX11_transfer_96 rfl (fun q => absurd q (by decide)) (fun _ => ?_)
        refine x_lconst (pc := 99) (v := 0) G dX11_transfer_99 lc_0 ?_
        exact x_lret (pc := 100) G B rfl dX11_transfer_100 ⟨by rw [f_transfer, if_pos c1, if_pos c2, if_pos c3, if_neg c4, if_neg c5], by rw [f_transfer, if_pos c1, if_pos c2, if_pos c3, if_neg c4, if_neg c5]⟩
      refine x_if_eq (pc := 18) (y := 0) (tgt := 25) G dX11_transfer_18 rfl (fun _ => ?_) (fun q => absurd q (by decide))
      refine x_iconst (pc := 25) (v := 0) G dX11_transfer_25 ic_0 ?_
      refine x_istore5 (pc := 26) G dX11_transfer_26 (Nat.le_of_ble_eq_true rfl) rfl ?_
      refine x_iload5 (pc := 28) G dX11_transfer_28 ?_
      refine x_if_eq (pc := 30) (y := 0) (tgt := 53) G dX11_transfer_30 rfl (fun _ => ?_) (fun q => absurd q (by decide))
      refine x_iconst (pc := 53) (v := 0) G dX11_transfer_53 ic_0 ?_
      refine x_istore6 (pc := 54) G dX11_transfer_54 (Nat.le_of_ble_eq_true rfl) rfl ?_
      refine x_aload0 (pc := 56) G dX11_transfer_56 ?_
      refine x_iload5 (pc := 57) G dX11_transfer_57 ?_
      refine x_if_ne (pc := 59) (y := 0) (tgt := 66) G dX11_transfer_59 rfl (fun q => absurd q (by decide)) (fun _ => ?_)
      refine x_iconst (pc := 62) (v := 1) G dX11_transfer_62 ic_1 ?_
      refine x_goto (pc := 63) (tgt := 93) G dX11_transfer_63 rfl ?_
      refine y_c1 (pc := 93) G (c_holdsN hl hM (by decide)) q_ml_X11_210 h_X11_holds rfl ⟨Nat.le_of_ble_eq_true rfl, Nat.le_of_ble_eq_true rfl⟩ (Nat.le_of_ble_eq_true rfl) (Nat.le_refl _) (Nat.le_refl _) dX11_transfer_93 ?_
      refine x_if_ne (pc := 96) (y := 0) (tgt := 101) G dX11_transfer_96 rfl (fun q => absurd q (by decide)) (fun _ => ?_)
      refine x_lconst (pc := 99) (v := 0) G dX11_transfer_99 lc_0 ?_
      exact x_lret (pc := 100) G B rfl dX11_transfer_100 ⟨by rw [f_transfer, if_pos c1, if_pos c2, if_neg c3], by rw [f_transfer, if_pos c1, if_pos c2, if_neg c3]⟩
    refine x_if_eq (pc := 11) (y := 0) (tgt := 25) G dX11_transfer_11 rfl (fun _ => ?_) (fun q => absurd q (by decide))
    refine x_iconst (pc := 25) (v := 0) G dX11_transfer_25 ic_0 ?_
    refine x_istore5 (pc := 26) G dX11_transfer_26 (Nat.le_of_ble_eq_true rfl) rfl ?_
    refine x_iload5 (pc := 28) G dX11_transfer_28 ?_
    refine x_if_eq (pc := 30) (y := 0) (tgt := 53) G dX11_transfer_30 rfl (fun _ => ?_) (fun q => absurd q (by decide))
    refine x_iconst (pc := 53) (v := 0) G dX11_transfer_53 ic_0 ?_
    refine x_istore6 (pc := 54) G dX11_transfer_54 (Nat.le_of_ble_eq_true rfl) rfl ?_
    refine x_aload0 (pc := 56) G dX11_transfer_56 ?_
    refine x_iload5 (pc := 57) G dX11_transfer_57 ?_
    refine x_if_ne (pc := 59) (y := 0) (tgt := 66) G dX11_transfer_59 rfl (fun q => absurd q (by decide)) (fun _ => ?_)
    refine x_iconst (pc := 62) (v := 1) G dX11_transfer_62 ic_1 ?_
    refine x_goto (pc := 63) (tgt := 93) G dX11_transfer_63 rfl ?_
    refine y_c1 (pc := 93) G (c_holdsN hl hM (by decide)) q_ml_X11_210 h_X11_holds rfl ⟨Nat.le_of_ble_eq_true rfl, Nat.le_of_ble_eq_true rfl⟩ (Nat.le_of_ble_eq_true rfl) (Nat.le_refl _) (Nat.le_refl _) dX11_transfer_93 ?_
    refine x_if_ne (pc := 96) (y := 0) (tgt := 101) G dX11_transfer_96 rfl (fun q => absurd q (by decide)) (fun _ => ?_)
    refine x_lconst (pc := 99) (v := 0) G dX11_transfer_99 lc_0 ?_
    exact x_lret (pc := 100) G B rfl dX11_transfer_100 ⟨by rw [f_transfer, if_pos c1, if_neg c2], by rw [f_transfer, if_pos c1, if_neg c2]⟩
  refine x_if_eq (pc := 4) (y := 0) (tgt := 25) G dX11_transfer_4 rfl (fun _ => ?_) (fun q => absurd q (by decide))
  refine x_iconst (pc := 25) (v := 0) G dX11_transfer_25 ic_0 ?_
  refine x_istore5 (pc := 26) G dX11_transfer_26 (Nat.le_of_ble_eq_true rfl) rfl ?_
  refine x_iload5 (pc := 28) G dX11_transfer_28 ?_
  refine x_if_eq (pc := 30) (y := 0) (tgt := 53) G dX11_transfer_30 rfl (fun _ => ?_) (fun q => absurd q (by decide))
  refine x_iconst (pc := 53) (v := 0) G dX11_transfer_53 ic_0 ?_
  refine x_istore6 (pc := 54) G dX11_transfer_54 (Nat.le_of_ble_eq_true rfl) rfl ?_
  refine x_aload0 (pc := 56) G dX11_transfer_56 ?_
  refine x_iload5 (pc := 57) G dX11_transfer_57 ?_
  refine x_if_ne (pc := 59) (y := 0) (tgt := 66) G dX11_transfer_59 rfl (fun q => absurd q (by decide)) (fun _ => ?_)
  refine x_iconst (pc := 62) (v := 1) G dX11_transfer_62 ic_1 ?_
  refine x_goto (pc := 63) (tgt := 93) G dX11_transfer_63 rfl ?_
  refine y_c1 (pc := 93) G (c_holdsN hl hM (by decide)) q_ml_X11_210 h_X11_holds rfl ⟨Nat.le_of_ble_eq_true rfl, Nat.le_of_ble_eq_true rfl⟩ (Nat.le_of_ble_eq_true rfl) (Nat.le_refl _) (Nat.le_refl _) dX11_transfer_93 ?_
  refine x_if_ne (pc := 96) (y := 0) (tgt := 101) G dX11_transfer_96 rfl (fun q => absurd q (by decide)) (fun _ => ?_)
  refine x_lconst (pc := 99) (v := 0) G dX11_transfer_99 lc_0 ?_
  exact x_lret (pc := 100) G B rfl dX11_transfer_100 ⟨by rw [f_transfer, if_neg c1], by rw [f_transfer, if_neg c1]⟩
theorem dX11_soft_0 : decode cX11_soft 0 = .ok (.aload_n 0, 1) := by decide +kernel
theorem dX11_soft_1 : decode cX11_soft 1 = .ok (.iload_n 1, 1) := by decide +kernel
theorem dX11_soft_2 : decode cX11_soft 2 = .ok (.invokestatic 216, 3) := by decide +kernel
theorem dX11_soft_5 : decode cX11_soft 5 = .ok (.ifCond .eq 7, 3) := by decide +kernel
theorem dX11_soft_8 : decode cX11_soft 8 = .ok (.iconst 0, 1) := by decide +kernel
theorem dX11_soft_9 : decode cX11_soft 9 = .ok (.goto 4, 3) := by decide +kernel
theorem dX11_soft_12 : decode cX11_soft 12 = .ok (.iconst 1, 1) := by decide +kernel
theorem dX11_soft_13 : decode cX11_soft 13 = .ok (.invokevirtual 210, 3) := by decide +kernel
theorem dX11_soft_16 : decode cX11_soft 16 = .ok (.ifCond .ne 5, 3) := by decide +kernel
theorem dX11_soft_19 : decode cX11_soft 19 = .ok (.iconst 0, 1) := by decide +kernel
theorem dX11_soft_20 : decode cX11_soft 20 = .ok (.ireturn, 1) := by decide +kernel
theorem dX11_soft_21 : decode cX11_soft 21 = .ok (.aload_n 0, 1) := by decide +kernel
theorem dX11_soft_22 : decode cX11_soft 22 = .ok (.getfield 35, 3) := by decide +kernel
theorem dX11_soft_25 : decode cX11_soft 25 = .ok (.iload_n 1, 1) := by decide +kernel
theorem dX11_soft_26 : decode cX11_soft 26 = .ok (.baload, 1) := by decide +kernel
theorem dX11_soft_27 : decode cX11_soft 27 = .ok (.istore_n 3, 1) := by decide +kernel
theorem dX11_soft_28 : decode cX11_soft 28 = .ok (.aload_n 0, 1) := by decide +kernel
theorem dX11_soft_29 : decode cX11_soft 29 = .ok (.getfield 35, 3) := by decide +kernel
theorem dX11_soft_32 : decode cX11_soft 32 = .ok (.iload_n 1, 1) := by decide +kernel
theorem dX11_soft_33 : decode cX11_soft 33 = .ok (.iload_n 2, 1) := by decide +kernel
theorem dX11_soft_34 : decode cX11_soft 34 = .ok (.bastore, 1) := by decide +kernel
theorem dX11_soft_35 : decode cX11_soft 35 = .ok (.iload_n 3, 1) := by decide +kernel
theorem dX11_soft_36 : decode cX11_soft 36 = .ok (.ireturn, 1) := by decide +kernel
def f_soft (p1 : Int32) (p2 : Int32) (M : MS) : Int32 × MS :=
    if P_isCentre p1 then
      ((gI M 12 p1), (rI (sI M 0 0) 12 p1 p2))
    else
    (0, (sI M 0 1))
abbrev rm_X11_soft : Room := { frames := 2, cells := 0, slots := 0, locals := 42 }
set_option maxRecDepth 100000 in
set_option maxHeartbeats 4000000 in
theorem c_soft {l : Launch} {k : KC} {mo : Nat} {ad : Nat → Nat} (hl : l.stackTraces = false) (hM : HM mo ad) {M : MS} {p1 : Int32} {p2 : Int32} (hb : vp_nar .boolean p2 = p2) (hz : P_isCentre p1 → narrow .boolean (.int (gI M 12 p1)) = .int (gI M 12 p1)) : CM l k mo ad yX11_soft (.code yX11_soft cX11_soft 4 (some .boolean)) rm_X11_soft [.int p1, .int p2] M (some (.int (f_soft p1 p2 M).1)) (f_soft p1 p2 M).2 := by
  refine MC.of 1 hl (by decide) (Nat.le_of_ble_eq_true rfl) ?_
  intro p e s m args below meth c A Q G B _ _
  show Wx p l e rm_X11_soft s m args below meth c k A 4 Q 0 0 0 [some (.ref mo), some (.int p1), some (.int p2), none] [] (mW k mo ad M)
  refine x_aload0 (pc := 0) G dX11_soft_0 ?_
  refine x_iload1 (pc := 1) G dX11_soft_1 ?_
  refine x_cSb1 (pc := 2) G (b_isCentre hl hM _) q_ml_X11_216 h_X11_isCentre ⟨Nat.le_of_ble_eq_true rfl, Nat.le_of_ble_eq_true rfl⟩ (Nat.le_of_ble_eq_true rfl) (Nat.le_refl _) (Nat.le_refl _) dX11_soft_2 (fun c1 => ?_) (fun c1 => ?_)
  · refine x_if_eq (pc := 5) (y := 0) (tgt := 12) G dX11_soft_5 rfl (fun q => absurd q (by decide)) (fun _ => ?_)
    refine x_iconst (pc := 8) (v := 0) G dX11_soft_8 ic_0 ?_
    refine x_goto (pc := 9) (tgt := 13) G dX11_soft_9 rfl ?_
    refine y_c1 (pc := 13) G (c_holds0 hl hM) q_ml_X11_210 h_X11_holds rfl ⟨Nat.le_of_ble_eq_true rfl, Nat.le_of_ble_eq_true rfl⟩ (Nat.le_of_ble_eq_true rfl) (Nat.le_refl _) (Nat.le_refl _) dX11_soft_13 ?_
    refine x_if_ne (pc := 16) (y := 0) (tgt := 21) G dX11_soft_16 rfl (fun _ => ?_) (fun q => absurd q (by decide))
    refine x_aload0 (pc := 21) G dX11_soft_21 ?_
    refine y_gA (pc := 22) G g_35 mG_12 dX11_soft_22 ?_
    refine x_iload1 (pc := 25) G dX11_soft_25 ?_
    refine y_zald (pc := 26) (v := (gI M 12 p1)) G hM a_12 (by exact vin_c (c := 5) (N := 5) (by decide) (by decide) (by assumption)) gI_sI dX11_soft_26 ?_
    refine x_istore3 (pc := 27) G dX11_soft_27 (Nat.le_of_ble_eq_true rfl) rfl ?_
    refine x_aload0 (pc := 28) G dX11_soft_28 ?_
    refine y_gA (pc := 29) G g_35 mG_12 dX11_soft_29 ?_
    refine x_iload1 (pc := 32) G dX11_soft_32 ?_
    refine x_iload2 (pc := 33) G dX11_soft_33 ?_
    refine y_zast (pc := 34) G hM a_12 (by exact vin_c (c := 5) (N := 5) (by decide) (by decide) (by assumption)) (by exact hb) dX11_soft_34 ?_
    refine x_iload3 (pc := 35) G dX11_soft_35 ?_
    exact x_zret (pc := 36) G B rfl (by first | decide | exact hz (by assumption)) dX11_soft_36 ⟨by rw [f_soft, if_pos c1], by rw [f_soft, if_pos c1]⟩
  refine x_if_eq (pc := 5) (y := 0) (tgt := 12) G dX11_soft_5 rfl (fun _ => ?_) (fun q => absurd q (by decide))
  refine x_iconst (pc := 12) (v := 1) G dX11_soft_12 ic_1 ?_
  refine y_c1 (pc := 13) G (c_holdsN hl hM (by decide)) q_ml_X11_210 h_X11_holds rfl ⟨Nat.le_of_ble_eq_true rfl, Nat.le_of_ble_eq_true rfl⟩ (Nat.le_of_ble_eq_true rfl) (Nat.le_refl _) (Nat.le_refl _) dX11_soft_13 ?_
  refine x_if_ne (pc := 16) (y := 0) (tgt := 21) G dX11_soft_16 rfl (fun q => absurd q (by decide)) (fun _ => ?_)
  refine x_iconst (pc := 19) (v := 0) G dX11_soft_19 ic_0 ?_
  exact x_zret (pc := 20) G B rfl (by first | decide | exact hz (by assumption)) dX11_soft_20 ⟨by rw [f_soft, if_neg c1], by rw [f_soft, if_neg c1]⟩
theorem dX11_carried_0 : decode cX11_carried 0 = .ok (.aload_n 0, 1) := by decide +kernel
theorem dX11_carried_1 : decode cX11_carried 1 = .ok (.iload_n 1, 1) := by decide +kernel
theorem dX11_carried_2 : decode cX11_carried 2 = .ok (.iconst 0, 1) := by decide +kernel
theorem dX11_carried_3 : decode cX11_carried 3 = .ok (.bipush 100, 2) := by decide +kernel
theorem dX11_carried_5 : decode cX11_carried 5 = .ok (.invokestatic 181, 3) := by decide +kernel
theorem dX11_carried_8 : decode cX11_carried 8 = .ok (.ifCond .eq 7, 3) := by decide +kernel
theorem dX11_carried_11 : decode cX11_carried 11 = .ok (.iconst 0, 1) := by decide +kernel
theorem dX11_carried_12 : decode cX11_carried 12 = .ok (.goto 4, 3) := by decide +kernel
theorem dX11_carried_15 : decode cX11_carried 15 = .ok (.iconst 1, 1) := by decide +kernel
theorem dX11_carried_16 : decode cX11_carried 16 = .ok (.invokevirtual 210, 3) := by decide +kernel
theorem dX11_carried_19 : decode cX11_carried 19 = .ok (.ifCond .ne 5, 3) := by decide +kernel
theorem dX11_carried_22 : decode cX11_carried 22 = .ok (.iconst 0, 1) := by decide +kernel
theorem dX11_carried_23 : decode cX11_carried 23 = .ok (.ireturn, 1) := by decide +kernel
theorem dX11_carried_24 : decode cX11_carried 24 = .ok (.aload_n 0, 1) := by decide +kernel
theorem dX11_carried_25 : decode cX11_carried 25 = .ok (.getfield 223, 3) := by decide +kernel
theorem dX11_carried_28 : decode cX11_carried 28 = .ok (.istore_n 2, 1) := by decide +kernel
theorem dX11_carried_29 : decode cX11_carried 29 = .ok (.aload_n 0, 1) := by decide +kernel
theorem dX11_carried_30 : decode cX11_carried 30 = .ok (.iload_n 1, 1) := by decide +kernel
theorem dX11_carried_31 : decode cX11_carried 31 = .ok (.putfield 223, 3) := by decide +kernel
theorem dX11_carried_34 : decode cX11_carried 34 = .ok (.iload_n 2, 1) := by decide +kernel
theorem dX11_carried_35 : decode cX11_carried 35 = .ok (.ireturn, 1) := by decide +kernel
def f_carried (p1 : Int32) (M : MS) : Int32 × MS :=
    if P_in p1 0 100 then
      ((mI M 13), (sI (sI M 0 0) 13 p1))
    else
    (0, (sI M 0 1))
abbrev rm_X11_carried : Room := { frames := 1, cells := 0, slots := 0, locals := 22 }
set_option maxRecDepth 100000 in
set_option maxHeartbeats 4000000 in
theorem c_carried {l : Launch} {k : KC} {mo : Nat} {ad : Nat → Nat} (hl : l.stackTraces = false) (hM : HM mo ad) {M : MS} {p1 : Int32}  : CM l k mo ad yX11_carried (.code yX11_carried cX11_carried 3 (some .int)) rm_X11_carried [.int p1] M (some (.int (f_carried p1 M).1)) (f_carried p1 M).2 := by
  refine MC.of 1 hl (by decide) (Nat.le_of_ble_eq_true rfl) ?_
  intro p e s m args below meth c A Q G B _ _
  show Wx p l e rm_X11_carried s m args below meth c k A 3 Q 0 0 0 [some (.ref mo), some (.int p1), none] [] (mW k mo ad M)
  refine x_aload0 (pc := 0) G dX11_carried_0 ?_
  refine x_iload1 (pc := 1) G dX11_carried_1 ?_
  refine x_iconst (pc := 2) (v := 0) G dX11_carried_2 ic_0 ?_
  refine x_bipush (pc := 3) (v := 100) G dX11_carried_3 bp_100 ?_
  refine x_cSb3 (pc := 5) G (b_in hl hM _) q_ml_X11_181 h_X11_in ⟨Nat.le_of_ble_eq_true rfl, Nat.le_of_ble_eq_true rfl⟩ (Nat.le_of_ble_eq_true rfl) (Nat.le_refl _) (Nat.le_refl _) dX11_carried_5 (fun c1 => ?_) (fun c1 => ?_)
  · refine x_if_eq (pc := 8) (y := 0) (tgt := 15) G dX11_carried_8 rfl (fun q => absurd q (by decide)) (fun _ => ?_)
    refine x_iconst (pc := 11) (v := 0) G dX11_carried_11 ic_0 ?_
    refine x_goto (pc := 12) (tgt := 16) G dX11_carried_12 rfl ?_
    refine y_c1 (pc := 16) G (c_holds0 hl hM) q_ml_X11_210 h_X11_holds rfl ⟨Nat.le_of_ble_eq_true rfl, Nat.le_of_ble_eq_true rfl⟩ (Nat.le_of_ble_eq_true rfl) (Nat.le_refl _) (Nat.le_refl _) dX11_carried_16 ?_
    refine x_if_ne (pc := 19) (y := 0) (tgt := 24) G dX11_carried_19 rfl (fun _ => ?_) (fun q => absurd q (by decide))
    refine x_aload0 (pc := 24) G dX11_carried_24 ?_
    refine y_gI (pc := 25) (v := (mI M 13)) G g_223 mG_13 (mI_sIn rfl) dX11_carried_25 ?_
    refine x_istore2 (pc := 28) G dX11_carried_28 (Nat.le_of_ble_eq_true rfl) rfl ?_
    refine x_aload0 (pc := 29) G dX11_carried_29 ?_
    refine x_iload1 (pc := 30) G dX11_carried_30 ?_
    refine y_pI (pc := 31) G p_223 mS_13 dX11_carried_31 ?_
    refine x_iload2 (pc := 34) G dX11_carried_34 ?_
    exact x_iret (pc := 35) G B rfl dX11_carried_35 ⟨by rw [f_carried, if_pos c1], by rw [f_carried, if_pos c1]⟩
  refine x_if_eq (pc := 8) (y := 0) (tgt := 15) G dX11_carried_8 rfl (fun _ => ?_) (fun q => absurd q (by decide))
  refine x_iconst (pc := 15) (v := 1) G dX11_carried_15 ic_1 ?_
  refine y_c1 (pc := 16) G (c_holdsN hl hM (by decide)) q_ml_X11_210 h_X11_holds rfl ⟨Nat.le_of_ble_eq_true rfl, Nat.le_of_ble_eq_true rfl⟩ (Nat.le_of_ble_eq_true rfl) (Nat.le_refl _) (Nat.le_refl _) dX11_carried_16 ?_
  refine x_if_ne (pc := 19) (y := 0) (tgt := 24) G dX11_carried_19 rfl (fun q => absurd q (by decide)) (fun _ => ?_)
  refine x_iconst (pc := 22) (v := 0) G dX11_carried_22 ic_0 ?_
  exact x_iret (pc := 23) G B rfl dX11_carried_23 ⟨by rw [f_carried, if_neg c1], by rw [f_carried, if_neg c1]⟩
theorem dX11_supplier_0 : decode cX11_supplier 0 = .ok (.iload_n 1, 1) := by decide +kernel
theorem dX11_supplier_1 : decode cX11_supplier 1 = .ok (.iconst 0, 1) := by decide +kernel
theorem dX11_supplier_2 : decode cX11_supplier 2 = .ok (.iconst 5, 1) := by decide +kernel
theorem dX11_supplier_3 : decode cX11_supplier 3 = .ok (.invokestatic 181, 3) := by decide +kernel
theorem dX11_supplier_6 : decode cX11_supplier 6 = .ok (.ifCond .eq 25, 3) := by decide +kernel
theorem dX11_supplier_9 : decode cX11_supplier 9 = .ok (.iload_n 2, 1) := by decide +kernel
theorem dX11_supplier_10 : decode cX11_supplier 10 = .ok (.iconst 0, 1) := by decide +kernel
theorem dX11_supplier_11 : decode cX11_supplier 11 = .ok (.iconst 2, 1) := by decide +kernel
theorem dX11_supplier_12 : decode cX11_supplier 12 = .ok (.invokestatic 181, 3) := by decide +kernel
theorem dX11_supplier_15 : decode cX11_supplier 15 = .ok (.ifCond .eq 16, 3) := by decide +kernel
theorem dX11_supplier_18 : decode cX11_supplier 18 = .ok (.iload_n 3, 1) := by decide +kernel
theorem dX11_supplier_19 : decode cX11_supplier 19 = .ok (.iconst 0, 1) := by decide +kernel
theorem dX11_supplier_20 : decode cX11_supplier 20 = .ok (.iconst 2, 1) := by decide +kernel
theorem dX11_supplier_21 : decode cX11_supplier 21 = .ok (.invokestatic 181, 3) := by decide +kernel
theorem dX11_supplier_24 : decode cX11_supplier 24 = .ok (.ifCond .eq 7, 3) := by decide +kernel
theorem dX11_supplier_27 : decode cX11_supplier 27 = .ok (.iconst 1, 1) := by decide +kernel
theorem dX11_supplier_28 : decode cX11_supplier 28 = .ok (.goto 4, 3) := by decide +kernel
theorem dX11_supplier_31 : decode cX11_supplier 31 = .ok (.iconst 0, 1) := by decide +kernel
theorem dX11_supplier_32 : decode cX11_supplier 32 = .ok (.istore 7, 2) := by decide +kernel
theorem dX11_supplier_34 : decode cX11_supplier 34 = .ok (.aload_n 0, 1) := by decide +kernel
theorem dX11_supplier_35 : decode cX11_supplier 35 = .ok (.iload 7, 2) := by decide +kernel
theorem dX11_supplier_37 : decode cX11_supplier 37 = .ok (.ifCond .ne 7, 3) := by decide +kernel
theorem dX11_supplier_40 : decode cX11_supplier 40 = .ok (.iconst 1, 1) := by decide +kernel
theorem dX11_supplier_41 : decode cX11_supplier 41 = .ok (.goto 41, 3) := by decide +kernel
theorem dX11_supplier_44 : decode cX11_supplier 44 = .ok (.iload 4, 2) := by decide +kernel
theorem dX11_supplier_46 : decode cX11_supplier 46 = .ok (.iconst 0, 1) := by decide +kernel
theorem dX11_supplier_47 : decode cX11_supplier 47 = .ok (.bipush 90, 2) := by decide +kernel
theorem dX11_supplier_49 : decode cX11_supplier 49 = .ok (.invokestatic 181, 3) := by decide +kernel
theorem dX11_supplier_52 : decode cX11_supplier 52 = .ok (.ifCond .eq 29, 3) := by decide +kernel
theorem dX11_supplier_55 : decode cX11_supplier 55 = .ok (.iload 5, 2) := by decide +kernel
theorem dX11_supplier_57 : decode cX11_supplier 57 = .ok (.iconst 0, 1) := by decide +kernel
theorem dX11_supplier_58 : decode cX11_supplier 58 = .ok (.bipush 10, 2) := by decide +kernel
theorem dX11_supplier_60 : decode cX11_supplier 60 = .ok (.invokestatic 181, 3) := by decide +kernel
theorem dX11_supplier_63 : decode cX11_supplier 63 = .ok (.ifCond .eq 18, 3) := by decide +kernel
theorem dX11_supplier_66 : decode cX11_supplier 66 = .ok (.iload 6, 2) := by decide +kernel
theorem dX11_supplier_68 : decode cX11_supplier 68 = .ok (.iconst 0, 1) := by decide +kernel
theorem dX11_supplier_69 : decode cX11_supplier 69 = .ok (.bipush 30, 2) := by decide +kernel
theorem dX11_supplier_71 : decode cX11_supplier 71 = .ok (.invokestatic 181, 3) := by decide +kernel
theorem dX11_supplier_74 : decode cX11_supplier 74 = .ok (.ifCond .eq 7, 3) := by decide +kernel
theorem dX11_supplier_77 : decode cX11_supplier 77 = .ok (.iconst 0, 1) := by decide +kernel
theorem dX11_supplier_78 : decode cX11_supplier 78 = .ok (.goto 4, 3) := by decide +kernel
theorem dX11_supplier_81 : decode cX11_supplier 81 = .ok (.iconst 2, 1) := by decide +kernel
theorem dX11_supplier_82 : decode cX11_supplier 82 = .ok (.invokevirtual 210, 3) := by decide +kernel
theorem dX11_supplier_85 : decode cX11_supplier 85 = .ok (.ifCond .eq 41, 3) := by decide +kernel
theorem dX11_supplier_88 : decode cX11_supplier 88 = .ok (.aload_n 0, 1) := by decide +kernel
theorem dX11_supplier_89 : decode cX11_supplier 89 = .ok (.getfield 87, 3) := by decide +kernel
theorem dX11_supplier_92 : decode cX11_supplier 92 = .ok (.iload_n 1, 1) := by decide +kernel
theorem dX11_supplier_93 : decode cX11_supplier 93 = .ok (.iload_n 2, 1) := by decide +kernel
theorem dX11_supplier_94 : decode cX11_supplier 94 = .ok (.iastore, 1) := by decide +kernel
theorem dX11_supplier_95 : decode cX11_supplier 95 = .ok (.aload_n 0, 1) := by decide +kernel
theorem dX11_supplier_96 : decode cX11_supplier 96 = .ok (.getfield 90, 3) := by decide +kernel
theorem dX11_supplier_99 : decode cX11_supplier 99 = .ok (.iload_n 1, 1) := by decide +kernel
theorem dX11_supplier_100 : decode cX11_supplier 100 = .ok (.iload_n 3, 1) := by decide +kernel
theorem dX11_supplier_101 : decode cX11_supplier 101 = .ok (.iastore, 1) := by decide +kernel
theorem dX11_supplier_102 : decode cX11_supplier 102 = .ok (.aload_n 0, 1) := by decide +kernel
theorem dX11_supplier_103 : decode cX11_supplier 103 = .ok (.getfield 93, 3) := by decide +kernel
theorem dX11_supplier_106 : decode cX11_supplier 106 = .ok (.iload_n 1, 1) := by decide +kernel
theorem dX11_supplier_107 : decode cX11_supplier 107 = .ok (.iload 4, 2) := by decide +kernel
theorem dX11_supplier_109 : decode cX11_supplier 109 = .ok (.iastore, 1) := by decide +kernel
theorem dX11_supplier_110 : decode cX11_supplier 110 = .ok (.aload_n 0, 1) := by decide +kernel
theorem dX11_supplier_111 : decode cX11_supplier 111 = .ok (.getfield 96, 3) := by decide +kernel
theorem dX11_supplier_114 : decode cX11_supplier 114 = .ok (.iload_n 1, 1) := by decide +kernel
theorem dX11_supplier_115 : decode cX11_supplier 115 = .ok (.iload 5, 2) := by decide +kernel
theorem dX11_supplier_117 : decode cX11_supplier 117 = .ok (.iastore, 1) := by decide +kernel
theorem dX11_supplier_118 : decode cX11_supplier 118 = .ok (.aload_n 0, 1) := by decide +kernel
theorem dX11_supplier_119 : decode cX11_supplier 119 = .ok (.getfield 99, 3) := by decide +kernel
theorem dX11_supplier_122 : decode cX11_supplier 122 = .ok (.iload_n 1, 1) := by decide +kernel
theorem dX11_supplier_123 : decode cX11_supplier 123 = .ok (.iload 6, 2) := by decide +kernel
theorem dX11_supplier_125 : decode cX11_supplier 125 = .ok (.iastore, 1) := by decide +kernel
theorem dX11_supplier_126 : decode cX11_supplier 126 = .ok (.return_, 1) := by decide +kernel
def f_supplier (p1 : Int32) (p2 : Int32) (p3 : Int32) (p4 : Int32) (p5 : Int32) (p6 : Int32) (M : MS) : MS :=
    if P_in p1 0 5 then
      if P_in p2 0 2 then
        if P_in p3 0 2 then
          if P_in p4 0 90 then
            if P_in p5 0 10 then
              if P_in p6 0 30 then
                (rI (rI (rI (rI (rI (sI M 0 0) 31 p1 p2) 32 p1 p3) 33 p1 p4) 34 p1 p5) 35 p1 p6)
              else
              (sI M 0 2)
            else
            (sI M 0 2)
          else
          (sI M 0 2)
        else
        (sI M 0 1)
      else
      (sI M 0 1)
    else
    (sI M 0 1)
abbrev rm_X11_supplier : Room := { frames := 1, cells := 0, slots := 0, locals := 22 }
set_option maxRecDepth 100000 in
set_option maxHeartbeats 4000000 in
theorem c_supplier {l : Launch} {k : KC} {mo : Nat} {ad : Nat → Nat} (hl : l.stackTraces = false) (hM : HM mo ad) {M : MS} {p1 : Int32} {p2 : Int32} {p3 : Int32} {p4 : Int32} {p5 : Int32} {p6 : Int32}  : CM l k mo ad yX11_supplier (.code yX11_supplier cX11_supplier 8 none) rm_X11_supplier [.int p1, .int p2, .int p3, .int p4, .int p5, .int p6] M none (f_supplier p1 p2 p3 p4 p5 p6 M) := by
  refine MC.of 1 hl (by decide) (Nat.le_of_ble_eq_true rfl) ?_
  intro p e s m args below meth c A Q G B _ _
  show Wx p l e rm_X11_supplier s m args below meth c k A 8 Q 0 0 0 [some (.ref mo), some (.int p1), some (.int p2), some (.int p3), some (.int p4), some (.int p5), some (.int p6), none] [] (mW k mo ad M)
  refine x_iload1 (pc := 0) G dX11_supplier_0 ?_
  refine x_iconst (pc := 1) (v := 0) G dX11_supplier_1 ic_0 ?_
  refine x_iconst (pc := 2) (v := 5) G dX11_supplier_2 ic_5 ?_
  refine x_cSb3 (pc := 3) G (b_in hl hM _) q_ml_X11_181 h_X11_in ⟨Nat.le_of_ble_eq_true rfl, Nat.le_of_ble_eq_true rfl⟩ (Nat.le_of_ble_eq_true rfl) (Nat.le_refl _) (Nat.le_refl _) dX11_supplier_3 (fun c1 => ?_) (fun c1 => ?_)
  · refine x_if_eq (pc := 6) (y := 0) (tgt := 31) G dX11_supplier_6 rfl (fun q => absurd q (by decide)) (fun _ => ?_)
    refine x_iload2 (pc := 9) G dX11_supplier_9 ?_
    refine x_iconst (pc := 10) (v := 0) G dX11_supplier_10 ic_0 ?_
    refine x_iconst (pc := 11) (v := 2) G dX11_supplier_11 ic_2 ?_
    refine x_cSb3 (pc := 12) G (b_in hl hM _) q_ml_X11_181 h_X11_in ⟨Nat.le_of_ble_eq_true rfl, Nat.le_of_ble_eq_true rfl⟩ (Nat.le_of_ble_eq_true rfl) (Nat.le_refl _) (Nat.le_refl _) dX11_supplier_12 (fun c2 => ?_) (fun c2 => ?_)
    · refine x_if_eq (pc := 15) (y := 0) (tgt := 31) G dX11_supplier_15 rfl (fun q => absurd q (by decide)) (fun _ => ?_)
      refine x_iload3 (pc := 18) G dX11_supplier_18 ?_
      refine x_iconst (pc := 19) (v := 0) G dX11_supplier_19 ic_0 ?_
      refine x_iconst (pc := 20) (v := 2) G dX11_supplier_20 ic_2 ?_
      refine x_cSb3 (pc := 21) G (b_in hl hM _) q_ml_X11_181 h_X11_in ⟨Nat.le_of_ble_eq_true rfl, Nat.le_of_ble_eq_true rfl⟩ (Nat.le_of_ble_eq_true rfl) (Nat.le_refl _) (Nat.le_refl _) dX11_supplier_21 (fun c3 => ?_) (fun c3 => ?_)
      · refine x_if_eq (pc := 24) (y := 0) (tgt := 31) G dX11_supplier_24 rfl (fun q => absurd q (by decide)) (fun _ => ?_)
        refine x_iconst (pc := 27) (v := 1) G dX11_supplier_27 ic_1 ?_
        refine x_goto (pc := 28) (tgt := 32) G dX11_supplier_28 rfl ?_
        refine x_istore7 (pc := 32) G dX11_supplier_32 (Nat.le_of_ble_eq_true rfl) rfl ?_
        refine x_aload0 (pc := 34) G dX11_supplier_34 ?_
        refine x_iload7 (pc := 35) G dX11_supplier_35 ?_
        refine x_if_ne (pc := 37) (y := 0) (tgt := 44) G dX11_supplier_37 rfl (fun _ => ?_) (fun q => absurd q (by decide))
        refine x_iload4 (pc := 44) G dX11_supplier_44 ?_
        refine x_iconst (pc := 46) (v := 0) G dX11_supplier_46 ic_0 ?_
        refine x_bipush (pc := 47) (v := 90) G dX11_supplier_47 bp_90 ?_
        refine x_cSb3 (pc := 49) G (b_in hl hM _) q_ml_X11_181 h_X11_in ⟨Nat.le_of_ble_eq_true rfl, Nat.le_of_ble_eq_true rfl⟩ (Nat.le_of_ble_eq_true rfl) (Nat.le_refl _) (Nat.le_refl _) dX11_supplier_49 (fun c4 => ?_) (fun c4 => ?_)
        · refine x_if_eq (pc := 52) (y := 0) (tgt := 81) G dX11_supplier_52 rfl (fun q => absurd q (by decide)) (fun _ => ?_)
          refine x_iload5 (pc := 55) G dX11_supplier_55 ?_
          refine x_iconst (pc := 57) (v := 0) G dX11_supplier_57 ic_0 ?_
          refine x_bipush (pc := 58) (v := 10) G dX11_supplier_58 bp_10 ?_
          refine x_cSb3 (pc := 60) G (b_in hl hM _) q_ml_X11_181 h_X11_in ⟨Nat.le_of_ble_eq_true rfl, Nat.le_of_ble_eq_true rfl⟩ (Nat.le_of_ble_eq_true rfl) (Nat.le_refl _) (Nat.le_refl _) dX11_supplier_60 (fun c5 => ?_) (fun c5 => ?_)
          · refine x_if_eq (pc := 63) (y := 0) (tgt := 81) G dX11_supplier_63 rfl (fun q => absurd q (by decide)) (fun _ => ?_)
            refine x_iload6 (pc := 66) G dX11_supplier_66 ?_
            refine x_iconst (pc := 68) (v := 0) G dX11_supplier_68 ic_0 ?_
            refine x_bipush (pc := 69) (v := 30) G dX11_supplier_69 bp_30 ?_
            refine x_cSb3 (pc := 71) G (b_in hl hM _) q_ml_X11_181 h_X11_in ⟨Nat.le_of_ble_eq_true rfl, Nat.le_of_ble_eq_true rfl⟩ (Nat.le_of_ble_eq_true rfl) (Nat.le_refl _) (Nat.le_refl _) dX11_supplier_71 (fun c6 => ?_) (fun c6 => ?_)
            · refine x_if_eq (pc := 74) (y := 0) (tgt := 81) G dX11_supplier_74 rfl (fun q => absurd q (by decide)) (fun _ => ?_)
              refine x_iconst (pc := 77) (v := 0) G dX11_supplier_77 ic_0 ?_
              refine x_goto (pc := 78) (tgt := 82) G dX11_supplier_78 rfl ?_
              refine y_c1 (pc := 82) G (c_holds0 hl hM) q_ml_X11_210 h_X11_holds rfl ⟨Nat.le_of_ble_eq_true rfl, Nat.le_of_ble_eq_true rfl⟩ (Nat.le_of_ble_eq_true rfl) (Nat.le_refl _) (Nat.le_refl _) dX11_supplier_82 ?_
              refine x_if_eq (pc := 85) (y := 0) (tgt := 126) G dX11_supplier_85 rfl (fun q => absurd q (by decide)) (fun _ => ?_)
              refine x_aload0 (pc := 88) G dX11_supplier_88 ?_
              refine y_gA (pc := 89) G g_87 mG_31 dX11_supplier_89 ?_
              refine x_iload1 (pc := 92) G dX11_supplier_92 ?_
              refine x_iload2 (pc := 93) G dX11_supplier_93 ?_
              refine y_iast (pc := 94) G hM a_31 (by first | exact vin_c (c := 5) (N := 5) (by decide) (by decide) (by assumption)) dX11_supplier_94 ?_
              refine x_aload0 (pc := 95) G dX11_supplier_95 ?_
              refine y_gA (pc := 96) G g_90 mG_32 dX11_supplier_96 ?_
              refine x_iload1 (pc := 99) G dX11_supplier_99 ?_
              refine x_iload3 (pc := 100) G dX11_supplier_100 ?_
              refine y_iast (pc := 101) G hM a_32 (by first | exact vin_c (c := 5) (N := 5) (by decide) (by decide) (by assumption)) dX11_supplier_101 ?_
              refine x_aload0 (pc := 102) G dX11_supplier_102 ?_
              refine y_gA (pc := 103) G g_93 mG_33 dX11_supplier_103 ?_
              refine x_iload1 (pc := 106) G dX11_supplier_106 ?_
              refine x_iload4 (pc := 107) G dX11_supplier_107 ?_
              refine y_iast (pc := 109) G hM a_33 (by first | exact vin_c (c := 5) (N := 5) (by decide) (by decide) (by assumption)) dX11_supplier_109 ?_
              refine x_aload0 (pc := 110) G dX11_supplier_110 ?_
              refine y_gA (pc := 111) G g_96 mG_34 dX11_supplier_111 ?_
              refine x_iload1 (pc := 114) G dX11_supplier_114 ?_
              refine x_iload5 (pc := 115) G dX11_supplier_115 ?_
              refine y_iast (pc := 117) G hM a_34 (by first | exact vin_c (c := 5) (N := 5) (by decide) (by decide) (by assumption)) dX11_supplier_117 ?_
              refine x_aload0 (pc := 118) G dX11_supplier_118 ?_
              refine y_gA (pc := 119) G g_99 mG_35 dX11_supplier_119 ?_
              refine x_iload1 (pc := 122) G dX11_supplier_122 ?_
              refine x_iload6 (pc := 123) G dX11_supplier_123 ?_
              refine y_iast (pc := 125) G hM a_35 (by first | exact vin_c (c := 5) (N := 5) (by decide) (by decide) (by assumption)) dX11_supplier_125 ?_
              exact x_vret (pc := 126) G B rfl dX11_supplier_126 ⟨rfl, by rw [f_supplier, if_pos c1, if_pos c2, if_pos c3, if_pos c4, if_pos c5, if_pos c6]⟩
            refine x_if_eq (pc := 74) (y := 0) (tgt := 81) G dX11_supplier_74 rfl (fun _ => ?_) (fun q => absurd q (by decide))
            refine x_iconst (pc := 81) (v := 2) G dX11_supplier_81 ic_2 ?_
            refine y_c1 (pc := 82) G (c_holdsN hl hM (by decide)) q_ml_X11_210 h_X11_holds rfl ⟨Nat.le_of_ble_eq_true rfl, Nat.le_of_ble_eq_true rfl⟩ (Nat.le_of_ble_eq_true rfl) (Nat.le_refl _) (Nat.le_refl _) dX11_supplier_82 ?_
            refine x_if_eq (pc := 85) (y := 0) (tgt := 126) G dX11_supplier_85 rfl (fun _ => ?_) (fun q => absurd q (by decide))
            exact x_vret (pc := 126) G B rfl dX11_supplier_126 ⟨rfl, by rw [f_supplier, if_pos c1, if_pos c2, if_pos c3, if_pos c4, if_pos c5, if_neg c6]⟩
          refine x_if_eq (pc := 63) (y := 0) (tgt := 81) G dX11_supplier_63 rfl (fun _ => ?_) (fun q => absurd q (by decide))
          refine x_iconst (pc := 81) (v := 2) G dX11_supplier_81 ic_2 ?_
          refine y_c1 (pc := 82) G (c_holdsN hl hM (by decide)) q_ml_X11_210 h_X11_holds rfl ⟨Nat.le_of_ble_eq_true rfl, Nat.le_of_ble_eq_true rfl⟩ (Nat.le_of_ble_eq_true rfl) (Nat.le_refl _) (Nat.le_refl _) dX11_supplier_82 ?_
          refine x_if_eq (pc := 85) (y := 0) (tgt := 126) G dX11_supplier_85 rfl (fun _ => ?_) (fun q => absurd q (by decide))
          exact x_vret (pc := 126) G B rfl dX11_supplier_126 ⟨rfl, by rw [f_supplier, if_pos c1, if_pos c2, if_pos c3, if_pos c4, if_neg c5]⟩
        refine x_if_eq (pc := 52) (y := 0) (tgt := 81) G dX11_supplier_52 rfl (fun _ => ?_) (fun q => absurd q (by decide))
        refine x_iconst (pc := 81) (v := 2) G dX11_supplier_81 ic_2 ?_
        refine y_c1 (pc := 82) G (c_holdsN hl hM (by decide)) q_ml_X11_210 h_X11_holds rfl ⟨Nat.le_of_ble_eq_true rfl, Nat.le_of_ble_eq_true rfl⟩ (Nat.le_of_ble_eq_true rfl) (Nat.le_refl _) (Nat.le_refl _) dX11_supplier_82 ?_
        refine x_if_eq (pc := 85) (y := 0) (tgt := 126) G dX11_supplier_85 rfl (fun _ => ?_) (fun q => absurd q (by decide))
        exact x_vret (pc := 126) G B rfl dX11_supplier_126 ⟨rfl, by rw [f_supplier, if_pos c1, if_pos c2, if_pos c3, if_neg c4]⟩
      refine x_if_eq (pc := 24) (y := 0) (tgt := 31) G dX11_supplier_24 rfl (fun _ => ?_) (fun q => absurd q (by decide))
      refine x_iconst (pc := 31) (v := 0) G dX11_supplier_31 ic_0 ?_
      refine x_istore7 (pc := 32) G dX11_supplier_32 (Nat.le_of_ble_eq_true rfl) rfl ?_
      refine x_aload0 (pc := 34) G dX11_supplier_34 ?_
      refine x_iload7 (pc := 35) G dX11_supplier_35 ?_
      refine x_if_ne (pc := 37) (y := 0) (tgt := 44) G dX11_supplier_37 rfl (fun q => absurd q (by decide)) (fun _ => ?_)
      refine x_iconst (pc := 40) (v := 1) G dX11_supplier_40 ic_1 ?_
      refine x_goto (pc := 41) (tgt := 82) G dX11_supplier_41 rfl ?_
      refine y_c1 (pc := 82) G (c_holdsN hl hM (by decide)) q_ml_X11_210 h_X11_holds rfl ⟨Nat.le_of_ble_eq_true rfl, Nat.le_of_ble_eq_true rfl⟩ (Nat.le_of_ble_eq_true rfl) (Nat.le_refl _) (Nat.le_refl _) dX11_supplier_82 ?_
      refine x_if_eq (pc := 85) (y := 0) (tgt := 126) G dX11_supplier_85 rfl (fun _ => ?_) (fun q => absurd q (by decide))
      exact x_vret (pc := 126) G B rfl dX11_supplier_126 ⟨rfl, by rw [f_supplier, if_pos c1, if_pos c2, if_neg c3]⟩
    refine x_if_eq (pc := 15) (y := 0) (tgt := 31) G dX11_supplier_15 rfl (fun _ => ?_) (fun q => absurd q (by decide))
    refine x_iconst (pc := 31) (v := 0) G dX11_supplier_31 ic_0 ?_
    refine x_istore7 (pc := 32) G dX11_supplier_32 (Nat.le_of_ble_eq_true rfl) rfl ?_
    refine x_aload0 (pc := 34) G dX11_supplier_34 ?_
    refine x_iload7 (pc := 35) G dX11_supplier_35 ?_
    refine x_if_ne (pc := 37) (y := 0) (tgt := 44) G dX11_supplier_37 rfl (fun q => absurd q (by decide)) (fun _ => ?_)
    refine x_iconst (pc := 40) (v := 1) G dX11_supplier_40 ic_1 ?_
    refine x_goto (pc := 41) (tgt := 82) G dX11_supplier_41 rfl ?_
    refine y_c1 (pc := 82) G (c_holdsN hl hM (by decide)) q_ml_X11_210 h_X11_holds rfl ⟨Nat.le_of_ble_eq_true rfl, Nat.le_of_ble_eq_true rfl⟩ (Nat.le_of_ble_eq_true rfl) (Nat.le_refl _) (Nat.le_refl _) dX11_supplier_82 ?_
    refine x_if_eq (pc := 85) (y := 0) (tgt := 126) G dX11_supplier_85 rfl (fun _ => ?_) (fun q => absurd q (by decide))
    exact x_vret (pc := 126) G B rfl dX11_supplier_126 ⟨rfl, by rw [f_supplier, if_pos c1, if_neg c2]⟩
  refine x_if_eq (pc := 6) (y := 0) (tgt := 31) G dX11_supplier_6 rfl (fun _ => ?_) (fun q => absurd q (by decide))
  refine x_iconst (pc := 31) (v := 0) G dX11_supplier_31 ic_0 ?_
  refine x_istore7 (pc := 32) G dX11_supplier_32 (Nat.le_of_ble_eq_true rfl) rfl ?_
  refine x_aload0 (pc := 34) G dX11_supplier_34 ?_
  refine x_iload7 (pc := 35) G dX11_supplier_35 ?_
  refine x_if_ne (pc := 37) (y := 0) (tgt := 44) G dX11_supplier_37 rfl (fun q => absurd q (by decide)) (fun _ => ?_)
  refine x_iconst (pc := 40) (v := 1) G dX11_supplier_40 ic_1 ?_
  refine x_goto (pc := 41) (tgt := 82) G dX11_supplier_41 rfl ?_
  refine y_c1 (pc := 82) G (c_holdsN hl hM (by decide)) q_ml_X11_210 h_X11_holds rfl ⟨Nat.le_of_ble_eq_true rfl, Nat.le_of_ble_eq_true rfl⟩ (Nat.le_of_ble_eq_true rfl) (Nat.le_refl _) (Nat.le_refl _) dX11_supplier_82 ?_
  refine x_if_eq (pc := 85) (y := 0) (tgt := 126) G dX11_supplier_85 rfl (fun _ => ?_) (fun q => absurd q (by decide))
  exact x_vret (pc := 126) G B rfl dX11_supplier_126 ⟨rfl, by rw [f_supplier, if_neg c1]⟩
theorem dX11_rate_0 : decode cX11_rate 0 = .ok (.aload_n 0, 1) := by decide +kernel
theorem dX11_rate_1 : decode cX11_rate 1 = .ok (.iload_n 1, 1) := by decide +kernel
theorem dX11_rate_2 : decode cX11_rate 2 = .ok (.iconst 1, 1) := by decide +kernel
theorem dX11_rate_3 : decode cX11_rate 3 = .ok (.iconst 2, 1) := by decide +kernel
theorem dX11_rate_4 : decode cX11_rate 4 = .ok (.invokestatic 181, 3) := by decide +kernel
theorem dX11_rate_7 : decode cX11_rate 7 = .ok (.ifCond .ne 7, 3) := by decide +kernel
theorem dX11_rate_10 : decode cX11_rate 10 = .ok (.iconst 1, 1) := by decide +kernel
theorem dX11_rate_11 : decode cX11_rate 11 = .ok (.goto 20, 3) := by decide +kernel
theorem dX11_rate_14 : decode cX11_rate 14 = .ok (.iload_n 2, 1) := by decide +kernel
theorem dX11_rate_15 : decode cX11_rate 15 = .ok (.bipush 100, 2) := by decide +kernel
theorem dX11_rate_17 : decode cX11_rate 17 = .ok (.sipush 10000, 3) := by decide +kernel
theorem dX11_rate_20 : decode cX11_rate 20 = .ok (.invokestatic 181, 3) := by decide +kernel
theorem dX11_rate_23 : decode cX11_rate 23 = .ok (.ifCond .eq 7, 3) := by decide +kernel
theorem dX11_rate_26 : decode cX11_rate 26 = .ok (.iconst 0, 1) := by decide +kernel
theorem dX11_rate_27 : decode cX11_rate 27 = .ok (.goto 4, 3) := by decide +kernel
theorem dX11_rate_30 : decode cX11_rate 30 = .ok (.iconst 2, 1) := by decide +kernel
theorem dX11_rate_31 : decode cX11_rate 31 = .ok (.invokevirtual 210, 3) := by decide +kernel
theorem dX11_rate_34 : decode cX11_rate 34 = .ok (.ifCond .ne 5, 3) := by decide +kernel
theorem dX11_rate_37 : decode cX11_rate 37 = .ok (.iconst 0, 1) := by decide +kernel
theorem dX11_rate_38 : decode cX11_rate 38 = .ok (.ireturn, 1) := by decide +kernel
theorem dX11_rate_39 : decode cX11_rate 39 = .ok (.aload_n 0, 1) := by decide +kernel
theorem dX11_rate_40 : decode cX11_rate 40 = .ok (.getfield 102, 3) := by decide +kernel
theorem dX11_rate_43 : decode cX11_rate 43 = .ok (.iload_n 1, 1) := by decide +kernel
theorem dX11_rate_44 : decode cX11_rate 44 = .ok (.iaload, 1) := by decide +kernel
theorem dX11_rate_45 : decode cX11_rate 45 = .ok (.istore_n 3, 1) := by decide +kernel
theorem dX11_rate_46 : decode cX11_rate 46 = .ok (.aload_n 0, 1) := by decide +kernel
theorem dX11_rate_47 : decode cX11_rate 47 = .ok (.getfield 102, 3) := by decide +kernel
theorem dX11_rate_50 : decode cX11_rate 50 = .ok (.iload_n 1, 1) := by decide +kernel
theorem dX11_rate_51 : decode cX11_rate 51 = .ok (.iload_n 2, 1) := by decide +kernel
theorem dX11_rate_52 : decode cX11_rate 52 = .ok (.iastore, 1) := by decide +kernel
theorem dX11_rate_53 : decode cX11_rate 53 = .ok (.iload_n 3, 1) := by decide +kernel
theorem dX11_rate_54 : decode cX11_rate 54 = .ok (.ireturn, 1) := by decide +kernel
def f_rate (p1 : Int32) (p2 : Int32) (M : MS) : Int32 × MS :=
    if P_in p1 1 2 then
      if P_in p2 100 10000 then
        ((gI M 36 p1), (rI (sI M 0 0) 36 p1 p2))
      else
      (0, (sI M 0 2))
    else
    (0, (sI M 0 1))
abbrev rm_X11_rate : Room := { frames := 1, cells := 0, slots := 0, locals := 22 }
set_option maxRecDepth 100000 in
set_option maxHeartbeats 4000000 in
theorem c_rate {l : Launch} {k : KC} {mo : Nat} {ad : Nat → Nat} (hl : l.stackTraces = false) (hM : HM mo ad) {M : MS} {p1 : Int32} {p2 : Int32}  : CM l k mo ad yX11_rate (.code yX11_rate cX11_rate 4 (some .int)) rm_X11_rate [.int p1, .int p2] M (some (.int (f_rate p1 p2 M).1)) (f_rate p1 p2 M).2 := by
  refine MC.of 1 hl (by decide) (Nat.le_of_ble_eq_true rfl) ?_
  intro p e s m args below meth c A Q G B _ _
  show Wx p l e rm_X11_rate s m args below meth c k A 4 Q 0 0 0 [some (.ref mo), some (.int p1), some (.int p2), none] [] (mW k mo ad M)
  refine x_aload0 (pc := 0) G dX11_rate_0 ?_
  refine x_iload1 (pc := 1) G dX11_rate_1 ?_
  refine x_iconst (pc := 2) (v := 1) G dX11_rate_2 ic_1 ?_
  refine x_iconst (pc := 3) (v := 2) G dX11_rate_3 ic_2 ?_
  refine x_cSb3 (pc := 4) G (b_in hl hM _) q_ml_X11_181 h_X11_in ⟨Nat.le_of_ble_eq_true rfl, Nat.le_of_ble_eq_true rfl⟩ (Nat.le_of_ble_eq_true rfl) (Nat.le_refl _) (Nat.le_refl _) dX11_rate_4 (fun c1 => ?_) (fun c1 => ?_)
  · refine x_if_ne (pc := 7) (y := 0) (tgt := 14) G dX11_rate_7 rfl (fun _ => ?_) (fun q => absurd q (by decide))
    refine x_iload2 (pc := 14) G dX11_rate_14 ?_
    refine x_bipush (pc := 15) (v := 100) G dX11_rate_15 bp_100 ?_
    refine x_sipush (pc := 17) (v := 10000) G dX11_rate_17 sp_10000 ?_
    refine x_cSb3 (pc := 20) G (b_in hl hM _) q_ml_X11_181 h_X11_in ⟨Nat.le_of_ble_eq_true rfl, Nat.le_of_ble_eq_true rfl⟩ (Nat.le_of_ble_eq_true rfl) (Nat.le_refl _) (Nat.le_refl _) dX11_rate_20 (fun c2 => ?_) (fun c2 => ?_)
    · refine x_if_eq (pc := 23) (y := 0) (tgt := 30) G dX11_rate_23 rfl (fun q => absurd q (by decide)) (fun _ => ?_)
      refine x_iconst (pc := 26) (v := 0) G dX11_rate_26 ic_0 ?_
      refine x_goto (pc := 27) (tgt := 31) G dX11_rate_27 rfl ?_
      refine y_c1 (pc := 31) G (c_holds0 hl hM) q_ml_X11_210 h_X11_holds rfl ⟨Nat.le_of_ble_eq_true rfl, Nat.le_of_ble_eq_true rfl⟩ (Nat.le_of_ble_eq_true rfl) (Nat.le_refl _) (Nat.le_refl _) dX11_rate_31 ?_
      refine x_if_ne (pc := 34) (y := 0) (tgt := 39) G dX11_rate_34 rfl (fun _ => ?_) (fun q => absurd q (by decide))
      refine x_aload0 (pc := 39) G dX11_rate_39 ?_
      refine y_gA (pc := 40) G g_102 mG_36 dX11_rate_40 ?_
      refine x_iload1 (pc := 43) G dX11_rate_43 ?_
      refine y_iald (pc := 44) (v := (gI M 36 p1)) G hM a_36 (by exact vin_rate (by assumption)) gI_sI dX11_rate_44 ?_
      refine x_istore3 (pc := 45) G dX11_rate_45 (Nat.le_of_ble_eq_true rfl) rfl ?_
      refine x_aload0 (pc := 46) G dX11_rate_46 ?_
      refine y_gA (pc := 47) G g_102 mG_36 dX11_rate_47 ?_
      refine x_iload1 (pc := 50) G dX11_rate_50 ?_
      refine x_iload2 (pc := 51) G dX11_rate_51 ?_
      refine y_iast (pc := 52) G hM a_36 (by exact vin_rate (by assumption)) dX11_rate_52 ?_
      refine x_iload3 (pc := 53) G dX11_rate_53 ?_
      exact x_iret (pc := 54) G B rfl dX11_rate_54 ⟨by rw [f_rate, if_pos c1, if_pos c2], by rw [f_rate, if_pos c1, if_pos c2]⟩
    refine x_if_eq (pc := 23) (y := 0) (tgt := 30) G dX11_rate_23 rfl (fun _ => ?_) (fun q => absurd q (by decide))
    refine x_iconst (pc := 30) (v := 2) G dX11_rate_30 ic_2 ?_
    refine y_c1 (pc := 31) G (c_holdsN hl hM (by decide)) q_ml_X11_210 h_X11_holds rfl ⟨Nat.le_of_ble_eq_true rfl, Nat.le_of_ble_eq_true rfl⟩ (Nat.le_of_ble_eq_true rfl) (Nat.le_refl _) (Nat.le_refl _) dX11_rate_31 ?_
    refine x_if_ne (pc := 34) (y := 0) (tgt := 39) G dX11_rate_34 rfl (fun q => absurd q (by decide)) (fun _ => ?_)
    refine x_iconst (pc := 37) (v := 0) G dX11_rate_37 ic_0 ?_
    exact x_iret (pc := 38) G B rfl dX11_rate_38 ⟨by rw [f_rate, if_pos c1, if_neg c2], by rw [f_rate, if_pos c1, if_neg c2]⟩
  refine x_if_ne (pc := 7) (y := 0) (tgt := 14) G dX11_rate_7 rfl (fun q => absurd q (by decide)) (fun _ => ?_)
  refine x_iconst (pc := 10) (v := 1) G dX11_rate_10 ic_1 ?_
  refine x_goto (pc := 11) (tgt := 31) G dX11_rate_11 rfl ?_
  refine y_c1 (pc := 31) G (c_holdsN hl hM (by decide)) q_ml_X11_210 h_X11_holds rfl ⟨Nat.le_of_ble_eq_true rfl, Nat.le_of_ble_eq_true rfl⟩ (Nat.le_of_ble_eq_true rfl) (Nat.le_refl _) (Nat.le_refl _) dX11_rate_31 ?_
  refine x_if_ne (pc := 34) (y := 0) (tgt := 39) G dX11_rate_34 rfl (fun q => absurd q (by decide)) (fun _ => ?_)
  refine x_iconst (pc := 37) (v := 0) G dX11_rate_37 ic_0 ?_
  exact x_iret (pc := 38) G B rfl dX11_rate_38 ⟨by rw [f_rate, if_neg c1], by rw [f_rate, if_neg c1]⟩
theorem dX11_taxes_0 : decode cX11_taxes 0 = .ok (.aload_n 0, 1) := by decide +kernel
theorem dX11_taxes_1 : decode cX11_taxes 1 = .ok (.iload_n 1, 1) := by decide +kernel
theorem dX11_taxes_2 : decode cX11_taxes 2 = .ok (.iconst 0, 1) := by decide +kernel
theorem dX11_taxes_3 : decode cX11_taxes 3 = .ok (.bipush 30, 2) := by decide +kernel
theorem dX11_taxes_5 : decode cX11_taxes 5 = .ok (.invokestatic 181, 3) := by decide +kernel
theorem dX11_taxes_8 : decode cX11_taxes 8 = .ok (.ifCond .eq 17, 3) := by decide +kernel
theorem dX11_taxes_11 : decode cX11_taxes 11 = .ok (.iload_n 2, 1) := by decide +kernel
theorem dX11_taxes_12 : decode cX11_taxes 12 = .ok (.iconst 0, 1) := by decide +kernel
theorem dX11_taxes_13 : decode cX11_taxes 13 = .ok (.bipush 100, 2) := by decide +kernel
theorem dX11_taxes_15 : decode cX11_taxes 15 = .ok (.invokestatic 181, 3) := by decide +kernel
theorem dX11_taxes_18 : decode cX11_taxes 18 = .ok (.ifCond .eq 7, 3) := by decide +kernel
theorem dX11_taxes_21 : decode cX11_taxes 21 = .ok (.iconst 0, 1) := by decide +kernel
theorem dX11_taxes_22 : decode cX11_taxes 22 = .ok (.goto 4, 3) := by decide +kernel
theorem dX11_taxes_25 : decode cX11_taxes 25 = .ok (.iconst 1, 1) := by decide +kernel
theorem dX11_taxes_26 : decode cX11_taxes 26 = .ok (.invokevirtual 210, 3) := by decide +kernel
theorem dX11_taxes_29 : decode cX11_taxes 29 = .ok (.ifCond .eq 13, 3) := by decide +kernel
theorem dX11_taxes_32 : decode cX11_taxes 32 = .ok (.aload_n 0, 1) := by decide +kernel
theorem dX11_taxes_33 : decode cX11_taxes 33 = .ok (.iload_n 1, 1) := by decide +kernel
theorem dX11_taxes_34 : decode cX11_taxes 34 = .ok (.putfield 105, 3) := by decide +kernel
theorem dX11_taxes_37 : decode cX11_taxes 37 = .ok (.aload_n 0, 1) := by decide +kernel
theorem dX11_taxes_38 : decode cX11_taxes 38 = .ok (.iload_n 2, 1) := by decide +kernel
theorem dX11_taxes_39 : decode cX11_taxes 39 = .ok (.putfield 109, 3) := by decide +kernel
theorem dX11_taxes_42 : decode cX11_taxes 42 = .ok (.return_, 1) := by decide +kernel
def f_taxes (p1 : Int32) (p2 : Int32) (M : MS) : MS :=
    if P_in p1 0 30 then
      if P_in p2 0 100 then
        (sI (sI (sI M 0 0) 37 p1) 38 p2)
      else
      (sI M 0 1)
    else
    (sI M 0 1)
abbrev rm_X11_taxes : Room := { frames := 1, cells := 0, slots := 0, locals := 22 }
set_option maxRecDepth 100000 in
set_option maxHeartbeats 4000000 in
theorem c_taxes {l : Launch} {k : KC} {mo : Nat} {ad : Nat → Nat} (hl : l.stackTraces = false) (hM : HM mo ad) {M : MS} {p1 : Int32} {p2 : Int32}  : CM l k mo ad yX11_taxes (.code yX11_taxes cX11_taxes 3 none) rm_X11_taxes [.int p1, .int p2] M none (f_taxes p1 p2 M) := by
  refine MC.of 0 hl (by decide) (Nat.le_of_ble_eq_true rfl) ?_
  intro p e s m args below meth c A Q G B _ _
  show Wx p l e rm_X11_taxes s m args below meth c k A 3 Q 0 0 0 [some (.ref mo), some (.int p1), some (.int p2)] [] (mW k mo ad M)
  refine x_aload0 (pc := 0) G dX11_taxes_0 ?_
  refine x_iload1 (pc := 1) G dX11_taxes_1 ?_
  refine x_iconst (pc := 2) (v := 0) G dX11_taxes_2 ic_0 ?_
  refine x_bipush (pc := 3) (v := 30) G dX11_taxes_3 bp_30 ?_
  refine x_cSb3 (pc := 5) G (b_in hl hM _) q_ml_X11_181 h_X11_in ⟨Nat.le_of_ble_eq_true rfl, Nat.le_of_ble_eq_true rfl⟩ (Nat.le_of_ble_eq_true rfl) (Nat.le_refl _) (Nat.le_refl _) dX11_taxes_5 (fun c1 => ?_) (fun c1 => ?_)
  · refine x_if_eq (pc := 8) (y := 0) (tgt := 25) G dX11_taxes_8 rfl (fun q => absurd q (by decide)) (fun _ => ?_)
    refine x_iload2 (pc := 11) G dX11_taxes_11 ?_
    refine x_iconst (pc := 12) (v := 0) G dX11_taxes_12 ic_0 ?_
    refine x_bipush (pc := 13) (v := 100) G dX11_taxes_13 bp_100 ?_
    refine x_cSb3 (pc := 15) G (b_in hl hM _) q_ml_X11_181 h_X11_in ⟨Nat.le_of_ble_eq_true rfl, Nat.le_of_ble_eq_true rfl⟩ (Nat.le_of_ble_eq_true rfl) (Nat.le_refl _) (Nat.le_refl _) dX11_taxes_15 (fun c2 => ?_) (fun c2 => ?_)
    · refine x_if_eq (pc := 18) (y := 0) (tgt := 25) G dX11_taxes_18 rfl (fun q => absurd q (by decide)) (fun _ => ?_)
      refine x_iconst (pc := 21) (v := 0) G dX11_taxes_21 ic_0 ?_
      refine x_goto (pc := 22) (tgt := 26) G dX11_taxes_22 rfl ?_
      refine y_c1 (pc := 26) G (c_holds0 hl hM) q_ml_X11_210 h_X11_holds rfl ⟨Nat.le_of_ble_eq_true rfl, Nat.le_of_ble_eq_true rfl⟩ (Nat.le_of_ble_eq_true rfl) (Nat.le_refl _) (Nat.le_refl _) dX11_taxes_26 ?_
      refine x_if_eq (pc := 29) (y := 0) (tgt := 42) G dX11_taxes_29 rfl (fun q => absurd q (by decide)) (fun _ => ?_)
      refine x_aload0 (pc := 32) G dX11_taxes_32 ?_
      refine x_iload1 (pc := 33) G dX11_taxes_33 ?_
      refine y_pI (pc := 34) G p_105 mS_37 dX11_taxes_34 ?_
      refine x_aload0 (pc := 37) G dX11_taxes_37 ?_
      refine x_iload2 (pc := 38) G dX11_taxes_38 ?_
      refine y_pI (pc := 39) G p_109 mS_38 dX11_taxes_39 ?_
      exact x_vret (pc := 42) G B rfl dX11_taxes_42 ⟨rfl, by rw [f_taxes, if_pos c1, if_pos c2]⟩
    refine x_if_eq (pc := 18) (y := 0) (tgt := 25) G dX11_taxes_18 rfl (fun _ => ?_) (fun q => absurd q (by decide))
    refine x_iconst (pc := 25) (v := 1) G dX11_taxes_25 ic_1 ?_
    refine y_c1 (pc := 26) G (c_holdsN hl hM (by decide)) q_ml_X11_210 h_X11_holds rfl ⟨Nat.le_of_ble_eq_true rfl, Nat.le_of_ble_eq_true rfl⟩ (Nat.le_of_ble_eq_true rfl) (Nat.le_refl _) (Nat.le_refl _) dX11_taxes_26 ?_
    refine x_if_eq (pc := 29) (y := 0) (tgt := 42) G dX11_taxes_29 rfl (fun _ => ?_) (fun q => absurd q (by decide))
    exact x_vret (pc := 42) G B rfl dX11_taxes_42 ⟨rfl, by rw [f_taxes, if_pos c1, if_neg c2]⟩
  refine x_if_eq (pc := 8) (y := 0) (tgt := 25) G dX11_taxes_8 rfl (fun _ => ?_) (fun q => absurd q (by decide))
  refine x_iconst (pc := 25) (v := 1) G dX11_taxes_25 ic_1 ?_
  refine y_c1 (pc := 26) G (c_holdsN hl hM (by decide)) q_ml_X11_210 h_X11_holds rfl ⟨Nat.le_of_ble_eq_true rfl, Nat.le_of_ble_eq_true rfl⟩ (Nat.le_of_ble_eq_true rfl) (Nat.le_refl _) (Nat.le_refl _) dX11_taxes_26 ?_
  refine x_if_eq (pc := 29) (y := 0) (tgt := 42) G dX11_taxes_29 rfl (fun _ => ?_) (fun q => absurd q (by decide))
  exact x_vret (pc := 42) G B rfl dX11_taxes_42 ⟨rfl, by rw [f_taxes, if_neg c1]⟩
theorem dX11_request_0 : decode cX11_request 0 = .ok (.aload_n 0, 1) := by decide +kernel
theorem dX11_request_1 : decode cX11_request 1 = .ok (.iload_n 1, 1) := by decide +kernel
theorem dX11_request_2 : decode cX11_request 2 = .ok (.invokevirtual 206, 3) := by decide +kernel
theorem dX11_request_5 : decode cX11_request 5 = .ok (.ifCond .eq 14, 3) := by decide +kernel
theorem dX11_request_8 : decode cX11_request 8 = .ok (.iload_n 2, 1) := by decide +kernel
theorem dX11_request_9 : decode cX11_request 9 = .ok (.invokestatic 216, 3) := by decide +kernel
theorem dX11_request_12 : decode cX11_request 12 = .ok (.ifCond .eq 7, 3) := by decide +kernel
theorem dX11_request_15 : decode cX11_request 15 = .ok (.iconst 1, 1) := by decide +kernel
theorem dX11_request_16 : decode cX11_request 16 = .ok (.goto 4, 3) := by decide +kernel
theorem dX11_request_19 : decode cX11_request 19 = .ok (.iconst 0, 1) := by decide +kernel
theorem dX11_request_20 : decode cX11_request 20 = .ok (.istore_n 3, 1) := by decide +kernel
theorem dX11_request_21 : decode cX11_request 21 = .ok (.aload_n 0, 1) := by decide +kernel
theorem dX11_request_22 : decode cX11_request 22 = .ok (.iload_n 3, 1) := by decide +kernel
theorem dX11_request_23 : decode cX11_request 23 = .ok (.ifCond .ne 7, 3) := by decide +kernel
theorem dX11_request_26 : decode cX11_request 26 = .ok (.iconst 1, 1) := by decide +kernel
theorem dX11_request_27 : decode cX11_request 27 = .ok (.goto 17, 3) := by decide +kernel
theorem dX11_request_30 : decode cX11_request 30 = .ok (.aload_n 0, 1) := by decide +kernel
theorem dX11_request_31 : decode cX11_request 31 = .ok (.getfield 185, 3) := by decide +kernel
theorem dX11_request_34 : decode cX11_request 34 = .ok (.bipush 40, 2) := by decide +kernel
theorem dX11_request_36 : decode cX11_request 36 = .ok (.if_icmp .ne 7, 3) := by decide +kernel
theorem dX11_request_39 : decode cX11_request 39 = .ok (.iconst 2, 1) := by decide +kernel
theorem dX11_request_40 : decode cX11_request 40 = .ok (.goto 4, 3) := by decide +kernel
theorem dX11_request_43 : decode cX11_request 43 = .ok (.iconst 0, 1) := by decide +kernel
theorem dX11_request_44 : decode cX11_request 44 = .ok (.invokevirtual 210, 3) := by decide +kernel
theorem dX11_request_47 : decode cX11_request 47 = .ok (.ifCond .ne 5, 3) := by decide +kernel
theorem dX11_request_50 : decode cX11_request 50 = .ok (.iconst 0, 1) := by decide +kernel
theorem dX11_request_51 : decode cX11_request 51 = .ok (.ireturn, 1) := by decide +kernel
theorem dX11_request_52 : decode cX11_request 52 = .ok (.aload_n 0, 1) := by decide +kernel
theorem dX11_request_53 : decode cX11_request 53 = .ok (.getfield 39, 3) := by decide +kernel
theorem dX11_request_56 : decode cX11_request 56 = .ok (.aload_n 0, 1) := by decide +kernel
theorem dX11_request_57 : decode cX11_request 57 = .ok (.getfield 185, 3) := by decide +kernel
theorem dX11_request_60 : decode cX11_request 60 = .ok (.iload_n 1, 1) := by decide +kernel
theorem dX11_request_61 : decode cX11_request 61 = .ok (.iastore, 1) := by decide +kernel
theorem dX11_request_62 : decode cX11_request 62 = .ok (.aload_n 0, 1) := by decide +kernel
theorem dX11_request_63 : decode cX11_request 63 = .ok (.getfield 42, 3) := by decide +kernel
theorem dX11_request_66 : decode cX11_request 66 = .ok (.aload_n 0, 1) := by decide +kernel
theorem dX11_request_67 : decode cX11_request 67 = .ok (.getfield 185, 3) := by decide +kernel
theorem dX11_request_70 : decode cX11_request 70 = .ok (.iload_n 2, 1) := by decide +kernel
theorem dX11_request_71 : decode cX11_request 71 = .ok (.iastore, 1) := by decide +kernel
theorem dX11_request_72 : decode cX11_request 72 = .ok (.aload_n 0, 1) := by decide +kernel
theorem dX11_request_73 : decode cX11_request 73 = .ok (.getfield 54, 3) := by decide +kernel
theorem dX11_request_76 : decode cX11_request 76 = .ok (.aload_n 0, 1) := by decide +kernel
theorem dX11_request_77 : decode cX11_request 77 = .ok (.getfield 185, 3) := by decide +kernel
theorem dX11_request_80 : decode cX11_request 80 = .ok (.iconst (-1), 1) := by decide +kernel
theorem dX11_request_81 : decode cX11_request 81 = .ok (.iastore, 1) := by decide +kernel
theorem dX11_request_82 : decode cX11_request 82 = .ok (.aload_n 0, 1) := by decide +kernel
theorem dX11_request_83 : decode cX11_request 83 = .ok (.getfield 57, 3) := by decide +kernel
theorem dX11_request_86 : decode cX11_request 86 = .ok (.aload_n 0, 1) := by decide +kernel
theorem dX11_request_87 : decode cX11_request 87 = .ok (.getfield 185, 3) := by decide +kernel
theorem dX11_request_90 : decode cX11_request 90 = .ok (.iconst (-1), 1) := by decide +kernel
theorem dX11_request_91 : decode cX11_request 91 = .ok (.iastore, 1) := by decide +kernel
theorem dX11_request_92 : decode cX11_request 92 = .ok (.aload_n 0, 1) := by decide +kernel
theorem dX11_request_93 : decode cX11_request 93 = .ok (.getfield 72, 3) := by decide +kernel
theorem dX11_request_96 : decode cX11_request 96 = .ok (.aload_n 0, 1) := by decide +kernel
theorem dX11_request_97 : decode cX11_request 97 = .ok (.getfield 185, 3) := by decide +kernel
theorem dX11_request_100 : decode cX11_request 100 = .ok (.iconst (-1), 1) := by decide +kernel
theorem dX11_request_101 : decode cX11_request 101 = .ok (.iastore, 1) := by decide +kernel
theorem dX11_request_102 : decode cX11_request 102 = .ok (.aload_n 0, 1) := by decide +kernel
theorem dX11_request_103 : decode cX11_request 103 = .ok (.dup, 1) := by decide +kernel
theorem dX11_request_104 : decode cX11_request 104 = .ok (.getfield 185, 3) := by decide +kernel
theorem dX11_request_107 : decode cX11_request 107 = .ok (.iconst 1, 1) := by decide +kernel
theorem dX11_request_108 : decode cX11_request 108 = .ok (.iadd, 1) := by decide +kernel
theorem dX11_request_109 : decode cX11_request 109 = .ok (.putfield 185, 3) := by decide +kernel
theorem dX11_request_112 : decode cX11_request 112 = .ok (.aload_n 0, 1) := by decide +kernel
theorem dX11_request_113 : decode cX11_request 113 = .ok (.getfield 185, 3) := by decide +kernel
theorem dX11_request_116 : decode cX11_request 116 = .ok (.iconst 1, 1) := by decide +kernel
theorem dX11_request_117 : decode cX11_request 117 = .ok (.isub, 1) := by decide +kernel
theorem dX11_request_118 : decode cX11_request 118 = .ok (.ireturn, 1) := by decide +kernel
def f_request (p1 : Int32) (p2 : Int32) (M : MS) : Int32 × MS :=
    if P_isPerson p1 M then
      if P_isCentre p2 then
        if (mI M 14) = 40 then
          (0, (sI M 0 2))
        else
        ((((mI M 14) + 1) - 1), (sI (rI (rI (rI (rI (rI (sI M 0 0) 15 (mI M 14) p1) 16 (mI M 14) p2) 20 (mI M 14) (-1)) 21 (mI M 14) (-1)) 26 (mI M 14) (-1)) 14 ((mI M 14) + 1)))
      else
      (0, (sI M 0 1))
    else
    (0, (sI M 0 1))
abbrev rm_X11_request : Room := { frames := 2, cells := 0, slots := 0, locals := 43 }
set_option maxRecDepth 100000 in
set_option maxHeartbeats 4000000 in
theorem c_request {l : Launch} {k : KC} {mo : Nat} {ad : Nat → Nat} (hl : l.stackTraces = false) (hM : HM mo ad) {M : MS} {p1 : Int32} {p2 : Int32} (h14 : LE (mI M 14) 40) : CM l k mo ad yX11_request (.code yX11_request cX11_request 4 (some .int)) rm_X11_request [.int p1, .int p2] M (some (.int (f_request p1 p2 M).1)) (f_request p1 p2 M).2 := by
  refine MC.of 1 hl (by decide) (Nat.le_of_ble_eq_true rfl) ?_
  intro p e s m args below meth c A Q G B _ _
  show Wx p l e rm_X11_request s m args below meth c k A 4 Q 0 0 0 [some (.ref mo), some (.int p1), some (.int p2), none] [] (mW k mo ad M)
  refine x_aload0 (pc := 0) G dX11_request_0 ?_
  refine x_iload1 (pc := 1) G dX11_request_1 ?_
  refine y_cb1 (pc := 2) G (b_isPerson hl hM ) q_ml_X11_206 h_X11_isPerson rfl ⟨Nat.le_of_ble_eq_true rfl, Nat.le_of_ble_eq_true rfl⟩ (Nat.le_of_ble_eq_true rfl) (Nat.le_refl _) (Nat.le_refl _) dX11_request_2 (fun c1 => ?_) (fun c1 => ?_)
  · refine x_if_eq (pc := 5) (y := 0) (tgt := 19) G dX11_request_5 rfl (fun q => absurd q (by decide)) (fun _ => ?_)
    refine x_iload2 (pc := 8) G dX11_request_8 ?_
    refine x_cSb1 (pc := 9) G (b_isCentre hl hM _) q_ml_X11_216 h_X11_isCentre ⟨Nat.le_of_ble_eq_true rfl, Nat.le_of_ble_eq_true rfl⟩ (Nat.le_of_ble_eq_true rfl) (Nat.le_refl _) (Nat.le_refl _) dX11_request_9 (fun c2 => ?_) (fun c2 => ?_)
    · refine x_if_eq (pc := 12) (y := 0) (tgt := 19) G dX11_request_12 rfl (fun q => absurd q (by decide)) (fun _ => ?_)
      refine x_iconst (pc := 15) (v := 1) G dX11_request_15 ic_1 ?_
      refine x_goto (pc := 16) (tgt := 20) G dX11_request_16 rfl ?_
      refine x_istore3 (pc := 20) G dX11_request_20 (Nat.le_of_ble_eq_true rfl) rfl ?_
      refine x_aload0 (pc := 21) G dX11_request_21 ?_
      refine x_iload3 (pc := 22) G dX11_request_22 ?_
      refine x_if_ne (pc := 23) (y := 0) (tgt := 30) G dX11_request_23 rfl (fun _ => ?_) (fun q => absurd q (by decide))
      refine x_aload0 (pc := 30) G dX11_request_30 ?_
      refine y_gI (pc := 31) (v := (mI M 14)) G g_185 mG_14 rfl dX11_request_31 ?_
      refine x_bipush (pc := 34) (v := 40) G dX11_request_34 bp_40 ?_
      refine x_icmp_ne (pc := 36) (tgt := 43) G dX11_request_36 rfl (fun c3 => ?_) (fun c3 => ?_)
      · refine x_iconst (pc := 43) (v := 0) G dX11_request_43 ic_0 ?_
        refine y_c1 (pc := 44) G (c_holds0 hl hM) q_ml_X11_210 h_X11_holds rfl ⟨Nat.le_of_ble_eq_true rfl, Nat.le_of_ble_eq_true rfl⟩ (Nat.le_of_ble_eq_true rfl) (Nat.le_refl _) (Nat.le_refl _) dX11_request_44 ?_
        refine x_if_ne (pc := 47) (y := 0) (tgt := 52) G dX11_request_47 rfl (fun _ => ?_) (fun q => absurd q (by decide))
        refine x_aload0 (pc := 52) G dX11_request_52 ?_
        refine y_gA (pc := 53) G g_39 mG_15 dX11_request_53 ?_
        refine x_aload0 (pc := 56) G dX11_request_56 ?_
        refine y_gI (pc := 57) (v := (mI M 14)) G g_185 mG_14 (mI_sIn rfl) dX11_request_57 ?_
        refine x_iload1 (pc := 60) G dX11_request_60 ?_
        refine y_iast (pc := 61) G hM a_15 (by exact vin_new h14 (c := 40) rfl (by decide) (by assumption)) dX11_request_61 ?_
        refine x_aload0 (pc := 62) G dX11_request_62 ?_
        refine y_gA (pc := 63) G g_42 mG_16 dX11_request_63 ?_
        refine x_aload0 (pc := 66) G dX11_request_66 ?_
        refine y_gI (pc := 67) (v := (mI M 14)) G g_185 mG_14 (mI_rI.trans (mI_sIn rfl)) dX11_request_67 ?_
        refine x_iload2 (pc := 70) G dX11_request_70 ?_
        refine y_iast (pc := 71) G hM a_16 (by exact vin_new h14 (c := 40) rfl (by decide) (by assumption)) dX11_request_71 ?_
        refine x_aload0 (pc := 72) G dX11_request_72 ?_
        refine y_gA (pc := 73) G g_54 mG_20 dX11_request_73 ?_
        refine x_aload0 (pc := 76) G dX11_request_76 ?_
        refine y_gI (pc := 77) (v := (mI M 14)) G g_185 mG_14 (mI_rI.trans (mI_rI.trans (mI_sIn rfl))) dX11_request_77 ?_
        refine x_iconst (pc := 80) (v := (-1)) G dX11_request_80 ic_m1 ?_
        refine y_iast (pc := 81) G hM a_20 (by exact vin_new h14 (c := 40) rfl (by decide) (by assumption)) dX11_request_81 ?_
        refine x_aload0 (pc := 82) G dX11_request_82 ?_
        refine y_gA (pc := 83) G g_57 mG_21 dX11_request_83 ?_
        refine x_aload0 (pc := 86) G dX11_request_86 ?_
        refine y_gI (pc := 87) (v := (mI M 14)) G g_185 mG_14 (mI_rI.trans (mI_rI.trans (mI_rI.trans (mI_sIn rfl)))) dX11_request_87 ?_
        refine x_iconst (pc := 90) (v := (-1)) G dX11_request_90 ic_m1 ?_
        refine y_iast (pc := 91) G hM a_21 (by exact vin_new h14 (c := 40) rfl (by decide) (by assumption)) dX11_request_91 ?_
        refine x_aload0 (pc := 92) G dX11_request_92 ?_
        refine y_gA (pc := 93) G g_72 mG_26 dX11_request_93 ?_
        refine x_aload0 (pc := 96) G dX11_request_96 ?_
        refine y_gI (pc := 97) (v := (mI M 14)) G g_185 mG_14 (mI_rI.trans (mI_rI.trans (mI_rI.trans (mI_rI.trans (mI_sIn rfl))))) dX11_request_97 ?_
        refine x_iconst (pc := 100) (v := (-1)) G dX11_request_100 ic_m1 ?_
        refine y_iast (pc := 101) G hM a_26 (by exact vin_new h14 (c := 40) rfl (by decide) (by assumption)) dX11_request_101 ?_
        refine x_aload0 (pc := 102) G dX11_request_102 ?_
        refine x_dup (pc := 103) G dX11_request_103 rfl ?_
        refine y_gI (pc := 104) (v := (mI M 14)) G g_185 mG_14 (mI_rI.trans (mI_rI.trans (mI_rI.trans (mI_rI.trans (mI_rI.trans (mI_sIn rfl)))))) dX11_request_104 ?_
        refine x_iconst (pc := 107) (v := 1) G dX11_request_107 ic_1 ?_
        refine x_iadd (pc := 108) G dX11_request_108 ?_
        refine y_pI (pc := 109) G p_185 mS_14 dX11_request_109 ?_
        refine x_aload0 (pc := 112) G dX11_request_112 ?_
        refine y_gI (pc := 113) (v := ((mI M 14) + 1)) G g_185 mG_14 mI_sIs dX11_request_113 ?_
        refine x_iconst (pc := 116) (v := 1) G dX11_request_116 ic_1 ?_
        refine x_isub (pc := 117) G dX11_request_117 ?_
        exact x_iret (pc := 118) G B rfl dX11_request_118 ⟨by rw [f_request, if_pos c1, if_pos c2, if_neg c3], by rw [f_request, if_pos c1, if_pos c2, if_neg c3]⟩
      refine x_iconst (pc := 39) (v := 2) G dX11_request_39 ic_2 ?_
      refine x_goto (pc := 40) (tgt := 44) G dX11_request_40 rfl ?_
      refine y_c1 (pc := 44) G (c_holdsN hl hM (by decide)) q_ml_X11_210 h_X11_holds rfl ⟨Nat.le_of_ble_eq_true rfl, Nat.le_of_ble_eq_true rfl⟩ (Nat.le_of_ble_eq_true rfl) (Nat.le_refl _) (Nat.le_refl _) dX11_request_44 ?_
      refine x_if_ne (pc := 47) (y := 0) (tgt := 52) G dX11_request_47 rfl (fun q => absurd q (by decide)) (fun _ => ?_)
      refine x_iconst (pc := 50) (v := 0) G dX11_request_50 ic_0 ?_
      exact x_iret (pc := 51) G B rfl dX11_request_51 ⟨by rw [f_request, if_pos c1, if_pos c2, if_pos c3], by rw [f_request, if_pos c1, if_pos c2, if_pos c3]⟩
    refine x_if_eq (pc := 12) (y := 0) (tgt := 19) G dX11_request_12 rfl (fun _ => ?_) (fun q => absurd q (by decide))
    refine x_iconst (pc := 19) (v := 0) G dX11_request_19 ic_0 ?_
    refine x_istore3 (pc := 20) G dX11_request_20 (Nat.le_of_ble_eq_true rfl) rfl ?_
    refine x_aload0 (pc := 21) G dX11_request_21 ?_
    refine x_iload3 (pc := 22) G dX11_request_22 ?_
    refine x_if_ne (pc := 23) (y := 0) (tgt := 30) G dX11_request_23 rfl (fun q => absurd q (by decide)) (fun _ => ?_)
    refine x_iconst (pc := 26) (v := 1) G dX11_request_26 ic_1 ?_
    refine x_goto (pc := 27) (tgt := 44) G dX11_request_27 rfl ?_
    refine y_c1 (pc := 44) G (c_holdsN hl hM (by decide)) q_ml_X11_210 h_X11_holds rfl ⟨Nat.le_of_ble_eq_true rfl, Nat.le_of_ble_eq_true rfl⟩ (Nat.le_of_ble_eq_true rfl) (Nat.le_refl _) (Nat.le_refl _) dX11_request_44 ?_
    refine x_if_ne (pc := 47) (y := 0) (tgt := 52) G dX11_request_47 rfl (fun q => absurd q (by decide)) (fun _ => ?_)
    refine x_iconst (pc := 50) (v := 0) G dX11_request_50 ic_0 ?_
    exact x_iret (pc := 51) G B rfl dX11_request_51 ⟨by rw [f_request, if_pos c1, if_neg c2], by rw [f_request, if_pos c1, if_neg c2]⟩
  refine x_if_eq (pc := 5) (y := 0) (tgt := 19) G dX11_request_5 rfl (fun _ => ?_) (fun q => absurd q (by decide))
  refine x_iconst (pc := 19) (v := 0) G dX11_request_19 ic_0 ?_
  refine x_istore3 (pc := 20) G dX11_request_20 (Nat.le_of_ble_eq_true rfl) rfl ?_
  refine x_aload0 (pc := 21) G dX11_request_21 ?_
  refine x_iload3 (pc := 22) G dX11_request_22 ?_
  refine x_if_ne (pc := 23) (y := 0) (tgt := 30) G dX11_request_23 rfl (fun q => absurd q (by decide)) (fun _ => ?_)
  refine x_iconst (pc := 26) (v := 1) G dX11_request_26 ic_1 ?_
  refine x_goto (pc := 27) (tgt := 44) G dX11_request_27 rfl ?_
  refine y_c1 (pc := 44) G (c_holdsN hl hM (by decide)) q_ml_X11_210 h_X11_holds rfl ⟨Nat.le_of_ble_eq_true rfl, Nat.le_of_ble_eq_true rfl⟩ (Nat.le_of_ble_eq_true rfl) (Nat.le_refl _) (Nat.le_refl _) dX11_request_44 ?_
  refine x_if_ne (pc := 47) (y := 0) (tgt := 52) G dX11_request_47 rfl (fun q => absurd q (by decide)) (fun _ => ?_)
  refine x_iconst (pc := 50) (v := 0) G dX11_request_50 ic_0 ?_
  exact x_iret (pc := 51) G B rfl dX11_request_51 ⟨by rw [f_request, if_neg c1], by rw [f_request, if_neg c1]⟩
theorem dX11_commits_0 : decode cX11_commits 0 = .ok (.aload_n 0, 1) := by decide +kernel
theorem dX11_commits_1 : decode cX11_commits 1 = .ok (.getfield 51, 3) := by decide +kernel
theorem dX11_commits_4 : decode cX11_commits 4 = .ok (.iload_n 1, 1) := by decide +kernel
theorem dX11_commits_5 : decode cX11_commits 5 = .ok (.dup2, 1) := by decide +kernel
theorem dX11_commits_6 : decode cX11_commits 6 = .ok (.laload, 1) := by decide +kernel
theorem dX11_commits_7 : decode cX11_commits 7 = .ok (.lload_n 2, 1) := by decide +kernel
theorem dX11_commits_8 : decode cX11_commits 8 = .ok (.ladd, 1) := by decide +kernel
theorem dX11_commits_9 : decode cX11_commits 9 = .ok (.lastore, 1) := by decide +kernel
theorem dX11_commits_10 : decode cX11_commits 10 = .ok (.aload_n 0, 1) := by decide +kernel
theorem dX11_commits_11 : decode cX11_commits 11 = .ok (.getfield 32, 3) := by decide +kernel
theorem dX11_commits_14 : decode cX11_commits 14 = .ok (.aload_n 0, 1) := by decide +kernel
theorem dX11_commits_15 : decode cX11_commits 15 = .ok (.getfield 42, 3) := by decide +kernel
theorem dX11_commits_18 : decode cX11_commits 18 = .ok (.iload_n 1, 1) := by decide +kernel
theorem dX11_commits_19 : decode cX11_commits 19 = .ok (.iaload, 1) := by decide +kernel
theorem dX11_commits_20 : decode cX11_commits 20 = .ok (.aload_n 0, 1) := by decide +kernel
theorem dX11_commits_21 : decode cX11_commits 21 = .ok (.getfield 54, 3) := by decide +kernel
theorem dX11_commits_24 : decode cX11_commits 24 = .ok (.iload_n 1, 1) := by decide +kernel
theorem dX11_commits_25 : decode cX11_commits 25 = .ok (.iaload, 1) := by decide +kernel
theorem dX11_commits_26 : decode cX11_commits 26 = .ok (.iconst 1, 1) := by decide +kernel
theorem dX11_commits_27 : decode cX11_commits 27 = .ok (.invokestatic 198, 3) := by decide +kernel
theorem dX11_commits_30 : decode cX11_commits 30 = .ok (.dup2, 1) := by decide +kernel
theorem dX11_commits_31 : decode cX11_commits 31 = .ok (.laload, 1) := by decide +kernel
theorem dX11_commits_32 : decode cX11_commits 32 = .ok (.lload_n 2, 1) := by decide +kernel
theorem dX11_commits_33 : decode cX11_commits 33 = .ok (.ladd, 1) := by decide +kernel
theorem dX11_commits_34 : decode cX11_commits 34 = .ok (.lastore, 1) := by decide +kernel
theorem dX11_commits_35 : decode cX11_commits 35 = .ok (.return_, 1) := by decide +kernel
def f_commits (p1 : Int32) (p2 : Int64) (M : MS) : MS :=
    (rJ (rJ M 19 p1 ((gJ M 19 p1) + p2)) 11 (f_at (gI M 16 p1) (gI M 20 p1) 1) ((gJ M 11 (f_at (gI M 16 p1) (gI M 20 p1) 1)) + p2))
abbrev rm_X11_commits : Room := { frames := 1, cells := 0, slots := 0, locals := 22 }
set_option maxRecDepth 100000 in
set_option maxHeartbeats 4000000 in
theorem c_commits {l : Launch} {k : KC} {mo : Nat} {ad : Nat → Nat} (hl : l.stackTraces = false) (hM : HM mo ad) {M : MS} {p1 : Int32} {p2 : Int64} (h1 : vp_in p1 40) (h2 : vp_in (f_at (gI M 16 p1) (gI M 20 p1) 1) 54) : CM l k mo ad yX11_commits (.code yX11_commits cX11_commits 4 none) rm_X11_commits [.int p1, .long p2] M none (f_commits p1 p2 M) := by
  refine MC.of 0 hl (by decide) (Nat.le_of_ble_eq_true rfl) ?_
  intro p e s m args below meth c A Q G B _ _
  show Wx p l e rm_X11_commits s m args below meth c k A 4 Q 0 0 0 [some (.ref mo), some (.int p1), some (.long p2), none] [] (mW k mo ad M)
  refine x_aload0 (pc := 0) G dX11_commits_0 ?_
  refine y_gA (pc := 1) G g_51 mG_19 dX11_commits_1 ?_
  refine x_iload1 (pc := 4) G dX11_commits_4 ?_
  refine x_dup2 (pc := 5) G dX11_commits_5 rfl rfl ?_
  refine y_lald (pc := 6) (v := (gJ M 19 p1)) G hM a_19 (by first | exact h1 | exact h2) rfl dX11_commits_6 ?_
  refine x_lload2 (pc := 7) G dX11_commits_7 ?_
  refine x_ladd (pc := 8) G dX11_commits_8 ?_
  refine y_last (pc := 9) G hM a_19 (by first | exact h1 | exact h2) dX11_commits_9 ?_
  refine x_aload0 (pc := 10) G dX11_commits_10 ?_
  refine y_gA (pc := 11) G g_32 mG_11 dX11_commits_11 ?_
  refine x_aload0 (pc := 14) G dX11_commits_14 ?_
  refine y_gA (pc := 15) G g_42 mG_16 dX11_commits_15 ?_
  refine x_iload1 (pc := 18) G dX11_commits_18 ?_
  refine y_iald (pc := 19) (v := (gI M 16 p1)) G hM a_16 (by first | exact h1 | exact h2) gI_rJ dX11_commits_19 ?_
  refine x_aload0 (pc := 20) G dX11_commits_20 ?_
  refine y_gA (pc := 21) G g_54 mG_20 dX11_commits_21 ?_
  refine x_iload1 (pc := 24) G dX11_commits_24 ?_
  refine y_iald (pc := 25) (v := (gI M 20 p1)) G hM a_20 (by first | exact h1 | exact h2) gI_rJ dX11_commits_25 ?_
  refine x_iconst (pc := 26) (v := 1) G dX11_commits_26 ic_1 ?_
  refine x_cS3 (pc := 27) G (c_at hl hM _) q_ml_X11_198 h_X11_at ⟨Nat.le_of_ble_eq_true rfl, Nat.le_of_ble_eq_true rfl⟩ (Nat.le_of_ble_eq_true rfl) (Nat.le_refl _) (Nat.le_refl _) dX11_commits_27 ?_
  refine x_dup2 (pc := 30) G dX11_commits_30 rfl rfl ?_
  refine y_lald (pc := 31) (v := (gJ M 11 (f_at (gI M 16 p1) (gI M 20 p1) 1))) G hM a_11 (by first | exact h1 | exact h2) (gJ_rJn rfl) dX11_commits_31 ?_
  refine x_lload2 (pc := 32) G dX11_commits_32 ?_
  refine x_ladd (pc := 33) G dX11_commits_33 ?_
  refine y_last (pc := 34) G hM a_11 (by first | exact h1 | exact h2) dX11_commits_34 ?_
  exact x_vret (pc := 35) G B rfl dX11_commits_35 ⟨rfl, by rw [f_commits]⟩
theorem dX11_frees_0 : decode cX11_frees 0 = .ok (.lload_n 2, 1) := by decide +kernel
theorem dX11_frees_1 : decode cX11_frees 1 = .ok (.aload_n 0, 1) := by decide +kernel
theorem dX11_frees_2 : decode cX11_frees 2 = .ok (.getfield 51, 3) := by decide +kernel
theorem dX11_frees_5 : decode cX11_frees 5 = .ok (.iload_n 1, 1) := by decide +kernel
theorem dX11_frees_6 : decode cX11_frees 6 = .ok (.laload, 1) := by decide +kernel
theorem dX11_frees_7 : decode cX11_frees 7 = .ok (.lcmp, 1) := by decide +kernel
theorem dX11_frees_8 : decode cX11_frees 8 = .ok (.ifCond .ge 7, 3) := by decide +kernel
theorem dX11_frees_11 : decode cX11_frees 11 = .ok (.lload_n 2, 1) := by decide +kernel
theorem dX11_frees_12 : decode cX11_frees 12 = .ok (.goto 9, 3) := by decide +kernel
theorem dX11_frees_15 : decode cX11_frees 15 = .ok (.aload_n 0, 1) := by decide +kernel
theorem dX11_frees_16 : decode cX11_frees 16 = .ok (.getfield 51, 3) := by decide +kernel
theorem dX11_frees_19 : decode cX11_frees 19 = .ok (.iload_n 1, 1) := by decide +kernel
theorem dX11_frees_20 : decode cX11_frees 20 = .ok (.laload, 1) := by decide +kernel
theorem dX11_frees_21 : decode cX11_frees 21 = .ok (.lstore 4, 2) := by decide +kernel
theorem dX11_frees_23 : decode cX11_frees 23 = .ok (.lload 4, 2) := by decide +kernel
theorem dX11_frees_25 : decode cX11_frees 25 = .ok (.lconst 0, 1) := by decide +kernel
theorem dX11_frees_26 : decode cX11_frees 26 = .ok (.lcmp, 1) := by decide +kernel
theorem dX11_frees_27 : decode cX11_frees 27 = .ok (.ifCond .le 11, 3) := by decide +kernel
theorem dX11_frees_30 : decode cX11_frees 30 = .ok (.aload_n 0, 1) := by decide +kernel
theorem dX11_frees_31 : decode cX11_frees 31 = .ok (.iload_n 1, 1) := by decide +kernel
theorem dX11_frees_32 : decode cX11_frees 32 = .ok (.lload 4, 2) := by decide +kernel
theorem dX11_frees_34 : decode cX11_frees 34 = .ok (.lneg, 1) := by decide +kernel
theorem dX11_frees_35 : decode cX11_frees 35 = .ok (.invokevirtual 240, 3) := by decide +kernel
theorem dX11_frees_38 : decode cX11_frees 38 = .ok (.lload 4, 2) := by decide +kernel
theorem dX11_frees_40 : decode cX11_frees 40 = .ok (.lreturn, 1) := by decide +kernel
def f_frees (p1 : Int32) (p2 : Int64) (M : MS) : Int64 × MS :=
    if 0 ≤ (lg_cmp p2 (gJ M 19 p1)) then
      if (lg_cmp (gJ M 19 p1) 0) ≤ 0 then
        ((gJ M 19 p1), M)
      else
      ((gJ M 19 p1), (f_commits p1 (-(gJ M 19 p1)) M))
    else
    if (lg_cmp p2 0) ≤ 0 then
      (p2, M)
    else
    (p2, (f_commits p1 (-p2) M))
abbrev rm_X11_frees : Room := { frames := 2, cells := 0, slots := 0, locals := 45 }
set_option maxRecDepth 100000 in
set_option maxHeartbeats 4000000 in
theorem c_frees {l : Launch} {k : KC} {mo : Nat} {ad : Nat → Nat} (hl : l.stackTraces = false) (hM : HM mo ad) {M : MS} {p1 : Int32} {p2 : Int64} (h1 : vp_in p1 40) (h2 : 0 < gJ M 19 p1 → vp_in (f_at (gI M 16 p1) (gI M 20 p1) 1) 54) : CM l k mo ad yX11_frees (.code yX11_frees cX11_frees 6 (some .long)) rm_X11_frees [.int p1, .long p2] M (some (.long (f_frees p1 p2 M).1)) (f_frees p1 p2 M).2 := by
  refine MC.of 2 hl (by decide) (Nat.le_of_ble_eq_true rfl) ?_
  intro p e s m args below meth c A Q G B _ _
  show Wx p l e rm_X11_frees s m args below meth c k A 6 Q 0 0 0 [some (.ref mo), some (.int p1), some (.long p2), none, none, none] [] (mW k mo ad M)
  refine x_lload2 (pc := 0) G dX11_frees_0 ?_
  refine x_aload0 (pc := 1) G dX11_frees_1 ?_
  refine y_gA (pc := 2) G g_51 mG_19 dX11_frees_2 ?_
  refine x_iload1 (pc := 5) G dX11_frees_5 ?_
  refine y_lald (pc := 6) (v := (gJ M 19 p1)) G hM a_19 (by exact h1) rfl dX11_frees_6 ?_
  refine x_lcmp (pc := 7) G dX11_frees_7 ?_
  refine x_if_ge (pc := 8) (y := 0) (tgt := 15) G dX11_frees_8 rfl (fun c1 => ?_) (fun c1 => ?_)
  · refine x_aload0 (pc := 15) G dX11_frees_15 ?_
    refine y_gA (pc := 16) G g_51 mG_19 dX11_frees_16 ?_
    refine x_iload1 (pc := 19) G dX11_frees_19 ?_
    refine y_lald (pc := 20) (v := (gJ M 19 p1)) G hM a_19 (by exact h1) rfl dX11_frees_20 ?_
    refine x_lstore4 (pc := 21) G dX11_frees_21 (Nat.le_of_ble_eq_true rfl) rfl ?_
    refine x_lload4 (pc := 23) G dX11_frees_23 ?_
    refine x_lconst (pc := 25) (v := 0) G dX11_frees_25 lc_0 ?_
    refine x_lcmp (pc := 26) G dX11_frees_26 ?_
    refine x_if_le (pc := 27) (y := 0) (tgt := 38) G dX11_frees_27 rfl (fun c2 => ?_) (fun c2 => ?_)
    · refine x_lload4 (pc := 38) G dX11_frees_38 ?_
      exact x_lret (pc := 40) G B rfl dX11_frees_40 ⟨by rw [f_frees, if_pos c1, if_pos c2], by rw [f_frees, if_pos c1, if_pos c2]⟩
    refine x_aload0 (pc := 30) G dX11_frees_30 ?_
    refine x_iload1 (pc := 31) G dX11_frees_31 ?_
    refine x_lload4 (pc := 32) G dX11_frees_32 ?_
    refine x_lneg (pc := 34) G dX11_frees_34 ?_
    refine y_cv2 (pc := 35) G (c_commits hl hM h1 (h2 (by first | exact fp2 c2 | exact fp2 c3 | exact fp1 c1 c3 | exact fp1 c1 c2))) q_ml_X11_240 h_X11_commits rfl ⟨Nat.le_of_ble_eq_true rfl, Nat.le_of_ble_eq_true rfl⟩ (Nat.le_of_ble_eq_true rfl) (Nat.le_refl _) (Nat.le_refl _) dX11_frees_35 ?_
    refine x_lload4 (pc := 38) G dX11_frees_38 ?_
    exact x_lret (pc := 40) G B rfl dX11_frees_40 ⟨by rw [f_frees, if_pos c1, if_neg c2], by rw [f_frees, if_pos c1, if_neg c2]⟩
  refine x_lload2 (pc := 11) G dX11_frees_11 ?_
  refine x_goto (pc := 12) (tgt := 21) G dX11_frees_12 rfl ?_
  refine x_lstore4 (pc := 21) G dX11_frees_21 (Nat.le_of_ble_eq_true rfl) rfl ?_
  refine x_lload4 (pc := 23) G dX11_frees_23 ?_
  refine x_lconst (pc := 25) (v := 0) G dX11_frees_25 lc_0 ?_
  refine x_lcmp (pc := 26) G dX11_frees_26 ?_
  refine x_if_le (pc := 27) (y := 0) (tgt := 38) G dX11_frees_27 rfl (fun c3 => ?_) (fun c3 => ?_)
  · refine x_lload4 (pc := 38) G dX11_frees_38 ?_
    exact x_lret (pc := 40) G B rfl dX11_frees_40 ⟨by rw [f_frees, if_neg c1, if_pos c3], by rw [f_frees, if_neg c1, if_pos c3]⟩
  refine x_aload0 (pc := 30) G dX11_frees_30 ?_
  refine x_iload1 (pc := 31) G dX11_frees_31 ?_
  refine x_lload4 (pc := 32) G dX11_frees_32 ?_
  refine x_lneg (pc := 34) G dX11_frees_34 ?_
  refine y_cv2 (pc := 35) G (c_commits hl hM h1 (h2 (by first | exact fp2 c2 | exact fp2 c3 | exact fp1 c1 c3 | exact fp1 c1 c2))) q_ml_X11_240 h_X11_commits rfl ⟨Nat.le_of_ble_eq_true rfl, Nat.le_of_ble_eq_true rfl⟩ (Nat.le_of_ble_eq_true rfl) (Nat.le_refl _) (Nat.le_refl _) dX11_frees_35 ?_
  refine x_lload4 (pc := 38) G dX11_frees_38 ?_
  exact x_lret (pc := 40) G B rfl dX11_frees_40 ⟨by rw [f_frees, if_neg c1, if_neg c3], by rw [f_frees, if_neg c1, if_neg c3]⟩
theorem dX11_left_0 : decode cX11_left 0 = .ok (.aload_n 0, 1) := by decide +kernel
theorem dX11_left_1 : decode cX11_left 1 = .ok (.getfield 66, 3) := by decide +kernel
theorem dX11_left_4 : decode cX11_left 4 = .ok (.iload_n 1, 1) := by decide +kernel
theorem dX11_left_5 : decode cX11_left 5 = .ok (.iaload, 1) := by decide +kernel
theorem dX11_left_6 : decode cX11_left 6 = .ok (.aload_n 0, 1) := by decide +kernel
theorem dX11_left_7 : decode cX11_left 7 = .ok (.getfield 69, 3) := by decide +kernel
theorem dX11_left_10 : decode cX11_left 10 = .ok (.iload_n 1, 1) := by decide +kernel
theorem dX11_left_11 : decode cX11_left 11 = .ok (.iaload, 1) := by decide +kernel
theorem dX11_left_12 : decode cX11_left 12 = .ok (.isub, 1) := by decide +kernel
theorem dX11_left_13 : decode cX11_left 13 = .ok (.aload_n 0, 1) := by decide +kernel
theorem dX11_left_14 : decode cX11_left 14 = .ok (.getfield 72, 3) := by decide +kernel
theorem dX11_left_17 : decode cX11_left 17 = .ok (.iload_n 1, 1) := by decide +kernel
theorem dX11_left_18 : decode cX11_left 18 = .ok (.iaload, 1) := by decide +kernel
theorem dX11_left_19 : decode cX11_left 19 = .ok (.iconst (-1), 1) := by decide +kernel
theorem dX11_left_20 : decode cX11_left 20 = .ok (.if_icmp .ne 7, 3) := by decide +kernel
theorem dX11_left_23 : decode cX11_left 23 = .ok (.iconst 0, 1) := by decide +kernel
theorem dX11_left_24 : decode cX11_left 24 = .ok (.goto 4, 3) := by decide +kernel
theorem dX11_left_27 : decode cX11_left 27 = .ok (.iconst 1, 1) := by decide +kernel
theorem dX11_left_28 : decode cX11_left 28 = .ok (.iadd, 1) := by decide +kernel
theorem dX11_left_29 : decode cX11_left 29 = .ok (.ireturn, 1) := by decide +kernel
def f_left (p1 : Int32) (M : MS) : Int32 :=
    if (gI M 26 p1) = (-1) then
      (((gI M 24 p1) - (gI M 25 p1)) + 0)
    else
    (((gI M 24 p1) - (gI M 25 p1)) + 1)
abbrev rm_X11_left : Room := { frames := 0, cells := 0, slots := 0, locals := 0 }
set_option maxRecDepth 100000 in
set_option maxHeartbeats 4000000 in
theorem c_left {l : Launch} {k : KC} {mo : Nat} {ad : Nat → Nat} (hl : l.stackTraces = false) (hM : HM mo ad) {M : MS} {p1 : Int32} (h1 : vp_in p1 40) : CM l k mo ad yX11_left (.code yX11_left cX11_left 2 (some .int)) rm_X11_left [.int p1] M (some (.int (f_left p1 M))) M := by
  refine MC.of 0 hl (by decide) (Nat.le_of_ble_eq_true rfl) ?_
  intro p e s m args below meth c A Q G B _ _
  show Wx p l e rm_X11_left s m args below meth c k A 2 Q 0 0 0 [some (.ref mo), some (.int p1)] [] (mW k mo ad M)
  refine x_aload0 (pc := 0) G dX11_left_0 ?_
  refine y_gA (pc := 1) G g_66 mG_24 dX11_left_1 ?_
  refine x_iload1 (pc := 4) G dX11_left_4 ?_
  refine y_iald (pc := 5) (v := (gI M 24 p1)) G hM a_24 (by exact h1) rfl dX11_left_5 ?_
  refine x_aload0 (pc := 6) G dX11_left_6 ?_
  refine y_gA (pc := 7) G g_69 mG_25 dX11_left_7 ?_
  refine x_iload1 (pc := 10) G dX11_left_10 ?_
  refine y_iald (pc := 11) (v := (gI M 25 p1)) G hM a_25 (by exact h1) rfl dX11_left_11 ?_
  refine x_isub (pc := 12) G dX11_left_12 ?_
  refine x_aload0 (pc := 13) G dX11_left_13 ?_
  refine y_gA (pc := 14) G g_72 mG_26 dX11_left_14 ?_
  refine x_iload1 (pc := 17) G dX11_left_17 ?_
  refine y_iald (pc := 18) (v := (gI M 26 p1)) G hM a_26 (by exact h1) rfl dX11_left_18 ?_
  refine x_iconst (pc := 19) (v := (-1)) G dX11_left_19 ic_m1 ?_
  refine x_icmp_ne (pc := 20) (tgt := 27) G dX11_left_20 rfl (fun c1 => ?_) (fun c1 => ?_)
  · refine x_iconst (pc := 27) (v := 1) G dX11_left_27 ic_1 ?_
    refine x_iadd (pc := 28) G dX11_left_28 ?_
    exact x_iret (pc := 29) G B rfl dX11_left_29 ⟨by rw [f_left, if_neg c1], rfl⟩
  refine x_iconst (pc := 23) (v := 0) G dX11_left_23 ic_0 ?_
  refine x_goto (pc := 24) (tgt := 28) G dX11_left_24 rfl ?_
  refine x_iadd (pc := 28) G dX11_left_28 ?_
  exact x_iret (pc := 29) G B rfl dX11_left_29 ⟨by rw [f_left, if_pos c1], rfl⟩
theorem dX11_approver_0 : decode cX11_approver 0 = .ok (.aload_n 0, 1) := by decide +kernel
theorem dX11_approver_1 : decode cX11_approver 1 = .ok (.getfield 195, 3) := by decide +kernel
theorem dX11_approver_4 : decode cX11_approver 4 = .ok (.aload_n 0, 1) := by decide +kernel
theorem dX11_approver_5 : decode cX11_approver 5 = .ok (.getfield 20, 3) := by decide +kernel
theorem dX11_approver_8 : decode cX11_approver 8 = .ok (.iload_n 1, 1) := by decide +kernel
theorem dX11_approver_9 : decode cX11_approver 9 = .ok (.iaload, 1) := by decide +kernel
theorem dX11_approver_10 : decode cX11_approver 10 = .ok (.if_icmp .ge 7, 3) := by decide +kernel
theorem dX11_approver_13 : decode cX11_approver 13 = .ok (.iconst 1, 1) := by decide +kernel
theorem dX11_approver_14 : decode cX11_approver 14 = .ok (.goto 4, 3) := by decide +kernel
theorem dX11_approver_17 : decode cX11_approver 17 = .ok (.iconst 0, 1) := by decide +kernel
theorem dX11_approver_18 : decode cX11_approver 18 = .ok (.istore_n 3, 1) := by decide +kernel
theorem dX11_approver_19 : decode cX11_approver 19 = .ok (.iload_n 3, 1) := by decide +kernel
theorem dX11_approver_20 : decode cX11_approver 20 = .ok (.ifCond .ne 7, 3) := by decide +kernel
theorem dX11_approver_23 : decode cX11_approver 23 = .ok (.iload_n 1, 1) := by decide +kernel
theorem dX11_approver_24 : decode cX11_approver 24 = .ok (.goto 28, 3) := by decide +kernel
theorem dX11_approver_27 : decode cX11_approver 27 = .ok (.aload_n 0, 1) := by decide +kernel
theorem dX11_approver_28 : decode cX11_approver 28 = .ok (.getfield 23, 3) := by decide +kernel
theorem dX11_approver_31 : decode cX11_approver 31 = .ok (.iload_n 1, 1) := by decide +kernel
theorem dX11_approver_32 : decode cX11_approver 32 = .ok (.iaload, 1) := by decide +kernel
theorem dX11_approver_33 : decode cX11_approver 33 = .ok (.aload_n 0, 1) := by decide +kernel
theorem dX11_approver_34 : decode cX11_approver 34 = .ok (.getfield 39, 3) := by decide +kernel
theorem dX11_approver_37 : decode cX11_approver 37 = .ok (.iload_n 2, 1) := by decide +kernel
theorem dX11_approver_38 : decode cX11_approver 38 = .ok (.iaload, 1) := by decide +kernel
theorem dX11_approver_39 : decode cX11_approver 39 = .ok (.if_icmp .ne 7, 3) := by decide +kernel
theorem dX11_approver_42 : decode cX11_approver 42 = .ok (.iconst (-1), 1) := by decide +kernel
theorem dX11_approver_43 : decode cX11_approver 43 = .ok (.goto 9, 3) := by decide +kernel
theorem dX11_approver_46 : decode cX11_approver 46 = .ok (.aload_n 0, 1) := by decide +kernel
theorem dX11_approver_47 : decode cX11_approver 47 = .ok (.getfield 23, 3) := by decide +kernel
theorem dX11_approver_50 : decode cX11_approver 50 = .ok (.iload_n 1, 1) := by decide +kernel
theorem dX11_approver_51 : decode cX11_approver 51 = .ok (.iaload, 1) := by decide +kernel
theorem dX11_approver_52 : decode cX11_approver 52 = .ok (.ireturn, 1) := by decide +kernel
def f_approver (p1 : Int32) (p2 : Int32) (M : MS) : Int32 :=
    if (gI M 6 p1) ≤ (mI M 1) then
      p1
    else
    if (gI M 7 p1) = (gI M 15 p2) then
      (-1)
    else
    (gI M 7 p1)
abbrev rm_X11_approver : Room := { frames := 0, cells := 0, slots := 0, locals := 0 }
set_option maxRecDepth 100000 in
set_option maxHeartbeats 4000000 in
theorem c_approver {l : Launch} {k : KC} {mo : Nat} {ad : Nat → Nat} (hl : l.stackTraces = false) (hM : HM mo ad) {M : MS} {p1 : Int32} {p2 : Int32} (h1 : vp_in p1 12) (h2 : vp_in p2 40) : CM l k mo ad yX11_approver (.code yX11_approver cX11_approver 4 (some .int)) rm_X11_approver [.int p1, .int p2] M (some (.int (f_approver p1 p2 M))) M := by
  refine MC.of 1 hl (by decide) (Nat.le_of_ble_eq_true rfl) ?_
  intro p e s m args below meth c A Q G B _ _
  show Wx p l e rm_X11_approver s m args below meth c k A 4 Q 0 0 0 [some (.ref mo), some (.int p1), some (.int p2), none] [] (mW k mo ad M)
  refine x_aload0 (pc := 0) G dX11_approver_0 ?_
  refine y_gI (pc := 1) (v := (mI M 1)) G g_195 mG_1 rfl dX11_approver_1 ?_
  refine x_aload0 (pc := 4) G dX11_approver_4 ?_
  refine y_gA (pc := 5) G g_20 mG_6 dX11_approver_5 ?_
  refine x_iload1 (pc := 8) G dX11_approver_8 ?_
  refine y_iald (pc := 9) (v := (gI M 6 p1)) G hM a_6 (by first | exact h1 | exact h2) rfl dX11_approver_9 ?_
  refine x_icmp_ge (pc := 10) (tgt := 17) G dX11_approver_10 rfl (fun c1 => ?_) (fun c1 => ?_)
  · refine x_iconst (pc := 17) (v := 0) G dX11_approver_17 ic_0 ?_
    refine x_istore3 (pc := 18) G dX11_approver_18 (Nat.le_of_ble_eq_true rfl) rfl ?_
    refine x_iload3 (pc := 19) G dX11_approver_19 ?_
    refine x_if_ne (pc := 20) (y := 0) (tgt := 27) G dX11_approver_20 rfl (fun q => absurd q (by decide)) (fun _ => ?_)
    refine x_iload1 (pc := 23) G dX11_approver_23 ?_
    refine x_goto (pc := 24) (tgt := 52) G dX11_approver_24 rfl ?_
    exact x_iret (pc := 52) G B rfl dX11_approver_52 ⟨by rw [f_approver, if_pos c1], rfl⟩
  refine x_iconst (pc := 13) (v := 1) G dX11_approver_13 ic_1 ?_
  refine x_goto (pc := 14) (tgt := 18) G dX11_approver_14 rfl ?_
  refine x_istore3 (pc := 18) G dX11_approver_18 (Nat.le_of_ble_eq_true rfl) rfl ?_
  refine x_iload3 (pc := 19) G dX11_approver_19 ?_
  refine x_if_ne (pc := 20) (y := 0) (tgt := 27) G dX11_approver_20 rfl (fun _ => ?_) (fun q => absurd q (by decide))
  refine x_aload0 (pc := 27) G dX11_approver_27 ?_
  refine y_gA (pc := 28) G g_23 mG_7 dX11_approver_28 ?_
  refine x_iload1 (pc := 31) G dX11_approver_31 ?_
  refine y_iald (pc := 32) (v := (gI M 7 p1)) G hM a_7 (by first | exact h1 | exact h2) rfl dX11_approver_32 ?_
  refine x_aload0 (pc := 33) G dX11_approver_33 ?_
  refine y_gA (pc := 34) G g_39 mG_15 dX11_approver_34 ?_
  refine x_iload2 (pc := 37) G dX11_approver_37 ?_
  refine y_iald (pc := 38) (v := (gI M 15 p2)) G hM a_15 (by first | exact h1 | exact h2) rfl dX11_approver_38 ?_
  refine x_icmp_ne (pc := 39) (tgt := 46) G dX11_approver_39 rfl (fun c2 => ?_) (fun c2 => ?_)
  · refine x_aload0 (pc := 46) G dX11_approver_46 ?_
    refine y_gA (pc := 47) G g_23 mG_7 dX11_approver_47 ?_
    refine x_iload1 (pc := 50) G dX11_approver_50 ?_
    refine y_iald (pc := 51) (v := (gI M 7 p1)) G hM a_7 (by first | exact h1 | exact h2) rfl dX11_approver_51 ?_
    exact x_iret (pc := 52) G B rfl dX11_approver_52 ⟨by rw [f_approver, if_neg c1, if_neg c2], rfl⟩
  refine x_iconst (pc := 42) (v := (-1)) G dX11_approver_42 ic_m1 ?_
  refine x_goto (pc := 43) (tgt := 52) G dX11_approver_43 rfl ?_
  exact x_iret (pc := 52) G B rfl dX11_approver_52 ⟨by rw [f_approver, if_neg c1, if_pos c2], rfl⟩
