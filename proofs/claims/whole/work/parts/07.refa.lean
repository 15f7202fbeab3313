def LE (x : Int32) (N : Nat) : Prop := ∃ n, n ≤ N ∧ x = nI n
theorem vin_lt {x p : Int32} {N : Nat} (h : LE x N) (hN : N < 2 ^ 30) (hp : 0 ≤ p ∧ p ≤ x - 1) : vp_in p N := by
  obtain ⟨n, hn, rfl⟩ := h
  obtain ⟨j, hj, rfl⟩ := nI_of (Int32.not_lt.mpr hp.1)
  refine vp_in_nI ?_ (by omega)
  have h2 := hp.2
  rw [Int32.le_iff_toInt_le, nI_toInt hj, show (1 : Int32) = nI 1 from rfl, pk_sub_toInt (by omega) (by decide)] at h2
  omega
theorem vin_new {x c : Int32} {N : Nat} (h : LE x N) (hc : c = nI N) (hN : N < 2 ^ 31) (hx : ¬ x = c) : vp_in x N := by
  obtain ⟨n, hn, rfl⟩ := h
  refine vp_in_nI (Nat.lt_of_le_of_ne hn fun e => hx ?_) hN
  rw [hc, e]
theorem vin_c {p c : Int32} {N : Nat} (hc : c.toInt = N) (hN : N < 2 ^ 30) (hp : 0 ≤ p ∧ p ≤ c) : vp_in p (N + 1) := by
  obtain ⟨j, hj, rfl⟩ := nI_of2 hc (Int32.not_lt.mpr hp.1) hp.2
  exact vp_in_nI (by omega) (by omega)
theorem dX11_thrown_0 : decode cX11_thrown 0 = .ok (.aload_n 0, 1) := by decide +kernel
theorem dX11_thrown_1 : decode cX11_thrown 1 = .ok (.getfield 175, 3) := by decide +kernel
theorem dX11_thrown_4 : decode cX11_thrown 4 = .ok (.ireturn, 1) := by decide +kernel
def f_thrown  (M : MS) : Int32 :=
    (mI M 0)
abbrev rm_X11_thrown : Room := { frames := 0, cells := 0, slots := 0, locals := 0 }
set_option maxRecDepth 100000 in
set_option maxHeartbeats 4000000 in
theorem c_thrown {l : Launch} {k : KC} {mo : Nat} {ad : Nat → Nat} (hl : l.stackTraces = false) (hM : HM mo ad) {M : MS}   : CM l k mo ad yX11_thrown (.code yX11_thrown cX11_thrown 1 (some .int)) rm_X11_thrown [] M (some (.int (f_thrown  M))) M := by
  refine MC.of 0 hl (by decide) (Nat.le_of_ble_eq_true rfl) ?_
  intro p e s m args below meth c A Q G B _ _
  show Wx p l e rm_X11_thrown s m args below meth c k A 1 Q 0 0 0 [some (.ref mo)] [] (mW k mo ad M)
  refine x_aload0 (pc := 0) G dX11_thrown_0 ?_
  refine y_gI (pc := 1) (v := (mI M 0)) G g_175 mG_0 rfl dX11_thrown_1 ?_
  exact x_iret (pc := 4) G B rfl dX11_thrown_4 ⟨by rw [f_thrown], rfl⟩
theorem dX11_holds_0 : decode cX11_holds 0 = .ok (.aload_n 0, 1) := by decide +kernel
theorem dX11_holds_1 : decode cX11_holds 1 = .ok (.iload_n 1, 1) := by decide +kernel
theorem dX11_holds_2 : decode cX11_holds 2 = .ok (.putfield 175, 3) := by decide +kernel
theorem dX11_holds_5 : decode cX11_holds 5 = .ok (.iload_n 1, 1) := by decide +kernel
theorem dX11_holds_6 : decode cX11_holds 6 = .ok (.ifCond .ne 7, 3) := by decide +kernel
theorem dX11_holds_9 : decode cX11_holds 9 = .ok (.iconst 1, 1) := by decide +kernel
theorem dX11_holds_10 : decode cX11_holds 10 = .ok (.goto 4, 3) := by decide +kernel
theorem dX11_holds_13 : decode cX11_holds 13 = .ok (.iconst 0, 1) := by decide +kernel
theorem dX11_holds_14 : decode cX11_holds 14 = .ok (.ireturn, 1) := by decide +kernel
def f_holds0 (p1 : Int32) (M : MS) : Int32 × MS :=
    if p1 = 0 then
      (1, (sI M 0 p1))
    else
    (0, (sI M 0 p1))
abbrev rm_X11_holds : Room := { frames := 0, cells := 0, slots := 0, locals := 0 }
set_option maxRecDepth 100000 in
set_option maxHeartbeats 4000000 in
theorem c_holds {l : Launch} {k : KC} {mo : Nat} {ad : Nat → Nat} (hl : l.stackTraces = false) (hM : HM mo ad) {M : MS} {p1 : Int32}  : CM l k mo ad yX11_holds (.code yX11_holds cX11_holds 2 (some .boolean)) rm_X11_holds [.int p1] M (some (.int (f_holds0 p1 M).1)) (f_holds0 p1 M).2 := by
  refine MC.of 0 hl (by decide) (Nat.le_of_ble_eq_true rfl) ?_
  intro p e s m args below meth c A Q G B _ _
  show Wx p l e rm_X11_holds s m args below meth c k A 2 Q 0 0 0 [some (.ref mo), some (.int p1)] [] (mW k mo ad M)
  refine x_aload0 (pc := 0) G dX11_holds_0 ?_
  refine x_iload1 (pc := 1) G dX11_holds_1 ?_
  refine y_pI (pc := 2) G p_175 mS_0 dX11_holds_2 ?_
  refine x_iload1 (pc := 5) G dX11_holds_5 ?_
  refine x_if_ne (pc := 6) (y := 0) (tgt := 13) G dX11_holds_6 rfl (fun c1 => ?_) (fun c1 => ?_)
  · refine x_iconst (pc := 13) (v := 0) G dX11_holds_13 ic_0 ?_
    exact x_zret (pc := 14) G B rfl (by decide) dX11_holds_14 ⟨by rw [f_holds0, if_neg c1], by rw [f_holds0, if_neg c1]⟩
  refine x_iconst (pc := 9) (v := 1) G dX11_holds_9 ic_1 ?_
  refine x_goto (pc := 10) (tgt := 14) G dX11_holds_10 rfl ?_
  exact x_zret (pc := 14) G B rfl (by decide) dX11_holds_14 ⟨by rw [f_holds0, if_pos c1], by rw [f_holds0, if_pos c1]⟩
theorem c_holds0 {l : Launch} {k : KC} {mo : Nat} {ad : Nat → Nat} (hl : l.stackTraces = false) (hM : HM mo ad) {M : MS} : CM l k mo ad yX11_holds (.code yX11_holds cX11_holds 2 (some .boolean)) rm_X11_holds [.int 0] M (some (.int 1)) (sI M 0 0) := c_holds hl hM (p1 := 0)
theorem c_holdsN {l : Launch} {k : KC} {mo : Nat} {ad : Nat → Nat} (hl : l.stackTraces = false) (hM : HM mo ad) {M : MS} {p1 : Int32} (h : ¬ p1 = 0) : CM l k mo ad yX11_holds (.code yX11_holds cX11_holds 2 (some .boolean)) rm_X11_holds [.int p1] M (some (.int 0)) (sI M 0 p1) := by
  have h9 := c_holds (k := k) hl hM (M := M) (p1 := p1)
  simpa [f_holds0, h] using h9
theorem dX11_in_0 : decode cX11_in 0 = .ok (.iload_n 0, 1) := by decide +kernel
theorem dX11_in_1 : decode cX11_in 1 = .ok (.iload_n 1, 1) := by decide +kernel
theorem dX11_in_2 : decode cX11_in 2 = .ok (.if_icmp .lt 12, 3) := by decide +kernel
theorem dX11_in_5 : decode cX11_in 5 = .ok (.iload_n 0, 1) := by decide +kernel
theorem dX11_in_6 : decode cX11_in 6 = .ok (.iload_n 2, 1) := by decide +kernel
theorem dX11_in_7 : decode cX11_in 7 = .ok (.if_icmp .gt 7, 3) := by decide +kernel
theorem dX11_in_10 : decode cX11_in 10 = .ok (.iconst 1, 1) := by decide +kernel
theorem dX11_in_11 : decode cX11_in 11 = .ok (.goto 4, 3) := by decide +kernel
theorem dX11_in_14 : decode cX11_in 14 = .ok (.iconst 0, 1) := by decide +kernel
theorem dX11_in_15 : decode cX11_in 15 = .ok (.ireturn, 1) := by decide +kernel
def f_in (p1 : Int32) (p2 : Int32) (p3 : Int32) : Int32 :=
    if p1 < p2 then
      0
    else
    if p3 < p1 then
      0
    else
    1
abbrev rm_X11_in : Room := { frames := 0, cells := 0, slots := 0, locals := 0 }
set_option maxRecDepth 100000 in
set_option maxHeartbeats 4000000 in
theorem c_in {l : Launch} {k : KC} {mo : Nat} {ad : Nat → Nat} (hl : l.stackTraces = false) (hM : HM mo ad) {p1 : Int32} {p2 : Int32} {p3 : Int32}  : CS l k yX11_in (.code yX11_in cX11_in 3 (some .boolean)) rm_X11_in [.int p1, .int p2, .int p3] (.int (f_in p1 p2 p3)) := by
  intro h
  refine MC.of 0 hl (by decide) (Nat.le_of_ble_eq_true rfl) ?_
  intro p e s m args below meth c A Q G B _ _
  show Wx p l e rm_X11_in s m args below meth c k A 3 Q 0 0 0 [some (.int p1), some (.int p2), some (.int p3)] [] h
  refine x_iload0 (pc := 0) G dX11_in_0 ?_
  refine x_iload1 (pc := 1) G dX11_in_1 ?_
  refine x_icmp_lt (pc := 2) (tgt := 14) G dX11_in_2 rfl (fun c1 => ?_) (fun c1 => ?_)
  · refine x_iconst (pc := 14) (v := 0) G dX11_in_14 ic_0 ?_
    exact x_zret (pc := 15) G B rfl (by decide) dX11_in_15 ⟨by rw [f_in, if_pos c1], rfl⟩
  refine x_iload0 (pc := 5) G dX11_in_5 ?_
  refine x_iload2 (pc := 6) G dX11_in_6 ?_
  refine x_icmp_gt (pc := 7) (tgt := 14) G dX11_in_7 rfl (fun c2 => ?_) (fun c2 => ?_)
  · refine x_iconst (pc := 14) (v := 0) G dX11_in_14 ic_0 ?_
    exact x_zret (pc := 15) G B rfl (by decide) dX11_in_15 ⟨by rw [f_in, if_neg c1, if_pos c2], rfl⟩
  refine x_iconst (pc := 10) (v := 1) G dX11_in_10 ic_1 ?_
  refine x_goto (pc := 11) (tgt := 15) G dX11_in_11 rfl ?_
  exact x_zret (pc := 15) G B rfl (by decide) dX11_in_15 ⟨by rw [f_in, if_neg c1, if_neg c2], rfl⟩
abbrev P_in (p1 : Int32) (p2 : Int32) (p3 : Int32) : Prop := p2 ≤ p1 ∧ p1 ≤ p3
theorem v_in {p1 : Int32} {p2 : Int32} {p3 : Int32} : f_in p1 p2 p3 = if P_in p1 p2 p3 then 1 else 0 := by unfold f_in P_in; simp only [Int32.not_lt, Int32.not_le, ← Int32.not_lt]; by_cases h1 : p1 < p2 <;> by_cases h2 : p3 < p1 <;> simp [h1, h2]
theorem b_in {l : Launch} {k : KC} {mo : Nat} {ad : Nat → Nat} (hl : l.stackTraces = false) (hM : HM mo ad) (h : Wd) {p1 : Int32} {p2 : Int32} {p3 : Int32} : (P_in p1 p2 p3 → MC l k yX11_in (.code yX11_in cX11_in 3 (some .boolean)) rm_X11_in [.int p1, .int p2, .int p3] h (pR (some (.int 1)) h)) ∧ (¬ P_in p1 p2 p3 → MC l k yX11_in (.code yX11_in cX11_in 3 (some .boolean)) rm_X11_in [.int p1, .int p2, .int p3] h (pR (some (.int 0)) h)) := MC.bool (by rw [← v_in]; exact c_in hl hM h)
theorem dX11_isPerson_0 : decode cX11_isPerson 0 = .ok (.iload_n 1, 1) := by decide +kernel
theorem dX11_isPerson_1 : decode cX11_isPerson 1 = .ok (.iconst 0, 1) := by decide +kernel
theorem dX11_isPerson_2 : decode cX11_isPerson 2 = .ok (.aload_n 0, 1) := by decide +kernel
theorem dX11_isPerson_3 : decode cX11_isPerson 3 = .ok (.getfield 178, 3) := by decide +kernel
theorem dX11_isPerson_6 : decode cX11_isPerson 6 = .ok (.iconst 1, 1) := by decide +kernel
theorem dX11_isPerson_7 : decode cX11_isPerson 7 = .ok (.isub, 1) := by decide +kernel
theorem dX11_isPerson_8 : decode cX11_isPerson 8 = .ok (.invokestatic 181, 3) := by decide +kernel
theorem dX11_isPerson_11 : decode cX11_isPerson 11 = .ok (.ireturn, 1) := by decide +kernel
def f_isPerson (p1 : Int32) (M : MS) : Int32 :=
    if P_in p1 0 ((mI M 3) - 1) then
      1
    else
    0
abbrev rm_X11_isPerson : Room := { frames := 1, cells := 0, slots := 0, locals := 22 }
set_option maxRecDepth 100000 in
set_option maxHeartbeats 4000000 in
theorem c_isPerson {l : Launch} {k : KC} {mo : Nat} {ad : Nat → Nat} (hl : l.stackTraces = false) (hM : HM mo ad) {M : MS} {p1 : Int32}  : CM l k mo ad yX11_isPerson (.code yX11_isPerson cX11_isPerson 2 (some .boolean)) rm_X11_isPerson [.int p1] M (some (.int (f_isPerson p1 M))) M := by
  refine MC.of 0 hl (by decide) (Nat.le_of_ble_eq_true rfl) ?_
  intro p e s m args below meth c A Q G B _ _
  show Wx p l e rm_X11_isPerson s m args below meth c k A 2 Q 0 0 0 [some (.ref mo), some (.int p1)] [] (mW k mo ad M)
  refine x_iload1 (pc := 0) G dX11_isPerson_0 ?_
  refine x_iconst (pc := 1) (v := 0) G dX11_isPerson_1 ic_0 ?_
  refine x_aload0 (pc := 2) G dX11_isPerson_2 ?_
  refine y_gI (pc := 3) (v := (mI M 3)) G g_178 mG_3 rfl dX11_isPerson_3 ?_
  refine x_iconst (pc := 6) (v := 1) G dX11_isPerson_6 ic_1 ?_
  refine x_isub (pc := 7) G dX11_isPerson_7 ?_
  refine x_cSb3 (pc := 8) G (b_in hl hM _) q_ml_X11_181 h_X11_in ⟨Nat.le_of_ble_eq_true rfl, Nat.le_of_ble_eq_true rfl⟩ (Nat.le_of_ble_eq_true rfl) (Nat.le_refl _) (Nat.le_refl _) dX11_isPerson_8 (fun c1 => ?_) (fun c1 => ?_)
  · exact x_zret (pc := 11) G B rfl (by decide) dX11_isPerson_11 ⟨by rw [f_isPerson, if_pos c1], rfl⟩
  exact x_zret (pc := 11) G B rfl (by decide) dX11_isPerson_11 ⟨by rw [f_isPerson, if_neg c1], rfl⟩
abbrev P_isPerson (p1 : Int32) (M : MS) : Prop := P_in p1 0 (mI M 3 - 1)
theorem v_isPerson {p1 : Int32} {M : MS} : f_isPerson p1 M = if P_isPerson p1 M then 1 else 0 := by rfl
theorem b_isPerson {l : Launch} {k : KC} {mo : Nat} {ad : Nat → Nat} (hl : l.stackTraces = false) (hM : HM mo ad) {M : MS} {p1 : Int32}  : (P_isPerson p1 M → CM l k mo ad yX11_isPerson (.code yX11_isPerson cX11_isPerson 2 (some .boolean)) rm_X11_isPerson [.int p1] M (some (.int 1)) M) ∧ (¬ P_isPerson p1 M → CM l k mo ad yX11_isPerson (.code yX11_isPerson cX11_isPerson 2 (some .boolean)) rm_X11_isPerson [.int p1] M (some (.int 0)) M) := MC.bool (by rw [← v_isPerson]; exact c_isPerson hl hM )
theorem dX11_isCentre_0 : decode cX11_isCentre 0 = .ok (.iload_n 0, 1) := by decide +kernel
theorem dX11_isCentre_1 : decode cX11_isCentre 1 = .ok (.iconst 0, 1) := by decide +kernel
theorem dX11_isCentre_2 : decode cX11_isCentre 2 = .ok (.iconst 5, 1) := by decide +kernel
theorem dX11_isCentre_3 : decode cX11_isCentre 3 = .ok (.invokestatic 181, 3) := by decide +kernel
theorem dX11_isCentre_6 : decode cX11_isCentre 6 = .ok (.ireturn, 1) := by decide +kernel
def f_isCentre (p1 : Int32) : Int32 :=
    if P_in p1 0 5 then
      1
    else
    0
abbrev rm_X11_isCentre : Room := { frames := 1, cells := 0, slots := 0, locals := 22 }
set_option maxRecDepth 100000 in
set_option maxHeartbeats 4000000 in
theorem c_isCentre {l : Launch} {k : KC} {mo : Nat} {ad : Nat → Nat} (hl : l.stackTraces = false) (hM : HM mo ad) {p1 : Int32}  : CS l k yX11_isCentre (.code yX11_isCentre cX11_isCentre 1 (some .boolean)) rm_X11_isCentre [.int p1] (.int (f_isCentre p1)) := by
  intro h
  refine MC.of 0 hl (by decide) (Nat.le_of_ble_eq_true rfl) ?_
  intro p e s m args below meth c A Q G B _ _
  show Wx p l e rm_X11_isCentre s m args below meth c k A 1 Q 0 0 0 [some (.int p1)] [] h
  refine x_iload0 (pc := 0) G dX11_isCentre_0 ?_
  refine x_iconst (pc := 1) (v := 0) G dX11_isCentre_1 ic_0 ?_
  refine x_iconst (pc := 2) (v := 5) G dX11_isCentre_2 ic_5 ?_
  refine x_cSb3 (pc := 3) G (b_in hl hM _) q_ml_X11_181 h_X11_in ⟨Nat.le_of_ble_eq_true rfl, Nat.le_of_ble_eq_true rfl⟩ (Nat.le_of_ble_eq_true rfl) (Nat.le_refl _) (Nat.le_refl _) dX11_isCentre_3 (fun c1 => ?_) (fun c1 => ?_)
  · exact x_zret (pc := 6) G B rfl (by decide) dX11_isCentre_6 ⟨by rw [f_isCentre, if_pos c1], rfl⟩
  exact x_zret (pc := 6) G B rfl (by decide) dX11_isCentre_6 ⟨by rw [f_isCentre, if_neg c1], rfl⟩
abbrev P_isCentre (p1 : Int32) : Prop := P_in p1 0 5
theorem v_isCentre {p1 : Int32} : f_isCentre p1 = if P_isCentre p1 then 1 else 0 := by rfl
theorem b_isCentre {l : Launch} {k : KC} {mo : Nat} {ad : Nat → Nat} (hl : l.stackTraces = false) (hM : HM mo ad) (h : Wd) {p1 : Int32} : (P_isCentre p1 → MC l k yX11_isCentre (.code yX11_isCentre cX11_isCentre 1 (some .boolean)) rm_X11_isCentre [.int p1] h (pR (some (.int 1)) h)) ∧ (¬ P_isCentre p1 → MC l k yX11_isCentre (.code yX11_isCentre cX11_isCentre 1 (some .boolean)) rm_X11_isCentre [.int p1] h (pR (some (.int 0)) h)) := MC.bool (by rw [← v_isCentre]; exact c_isCentre hl hM h)
theorem dX11_isYear_0 : decode cX11_isYear 0 = .ok (.iload_n 0, 1) := by decide +kernel
theorem dX11_isYear_1 : decode cX11_isYear 1 = .ok (.iconst 0, 1) := by decide +kernel
theorem dX11_isYear_2 : decode cX11_isYear 2 = .ok (.iconst 2, 1) := by decide +kernel
theorem dX11_isYear_3 : decode cX11_isYear 3 = .ok (.invokestatic 181, 3) := by decide +kernel
theorem dX11_isYear_6 : decode cX11_isYear 6 = .ok (.ireturn, 1) := by decide +kernel
def f_isYear (p1 : Int32) : Int32 :=
    if P_in p1 0 2 then
      1
    else
    0
abbrev rm_X11_isYear : Room := { frames := 1, cells := 0, slots := 0, locals := 22 }
set_option maxRecDepth 100000 in
set_option maxHeartbeats 4000000 in
theorem c_isYear {l : Launch} {k : KC} {mo : Nat} {ad : Nat → Nat} (hl : l.stackTraces = false) (hM : HM mo ad) {p1 : Int32}  : CS l k yX11_isYear (.code yX11_isYear cX11_isYear 1 (some .boolean)) rm_X11_isYear [.int p1] (.int (f_isYear p1)) := by
  intro h
  refine MC.of 0 hl (by decide) (Nat.le_of_ble_eq_true rfl) ?_
  intro p e s m args below meth c A Q G B _ _
  show Wx p l e rm_X11_isYear s m args below meth c k A 1 Q 0 0 0 [some (.int p1)] [] h
  refine x_iload0 (pc := 0) G dX11_isYear_0 ?_
  refine x_iconst (pc := 1) (v := 0) G dX11_isYear_1 ic_0 ?_
  refine x_iconst (pc := 2) (v := 2) G dX11_isYear_2 ic_2 ?_
  refine x_cSb3 (pc := 3) G (b_in hl hM _) q_ml_X11_181 h_X11_in ⟨Nat.le_of_ble_eq_true rfl, Nat.le_of_ble_eq_true rfl⟩ (Nat.le_of_ble_eq_true rfl) (Nat.le_refl _) (Nat.le_refl _) dX11_isYear_3 (fun c1 => ?_) (fun c1 => ?_)
  · exact x_zret (pc := 6) G B rfl (by decide) dX11_isYear_6 ⟨by rw [f_isYear, if_pos c1], rfl⟩
  exact x_zret (pc := 6) G B rfl (by decide) dX11_isYear_6 ⟨by rw [f_isYear, if_neg c1], rfl⟩
abbrev P_isYear (p1 : Int32) : Prop := P_in p1 0 2
theorem v_isYear {p1 : Int32} : f_isYear p1 = if P_isYear p1 then 1 else 0 := by rfl
theorem b_isYear {l : Launch} {k : KC} {mo : Nat} {ad : Nat → Nat} (hl : l.stackTraces = false) (hM : HM mo ad) (h : Wd) {p1 : Int32} : (P_isYear p1 → MC l k yX11_isYear (.code yX11_isYear cX11_isYear 1 (some .boolean)) rm_X11_isYear [.int p1] h (pR (some (.int 1)) h)) ∧ (¬ P_isYear p1 → MC l k yX11_isYear (.code yX11_isYear cX11_isYear 1 (some .boolean)) rm_X11_isYear [.int p1] h (pR (some (.int 0)) h)) := MC.bool (by rw [← v_isYear]; exact c_isYear hl hM h)
theorem dX11_isRequest_0 : decode cX11_isRequest 0 = .ok (.iload_n 1, 1) := by decide +kernel
theorem dX11_isRequest_1 : decode cX11_isRequest 1 = .ok (.iconst 0, 1) := by decide +kernel
theorem dX11_isRequest_2 : decode cX11_isRequest 2 = .ok (.aload_n 0, 1) := by decide +kernel
theorem dX11_isRequest_3 : decode cX11_isRequest 3 = .ok (.getfield 185, 3) := by decide +kernel
theorem dX11_isRequest_6 : decode cX11_isRequest 6 = .ok (.iconst 1, 1) := by decide +kernel
theorem dX11_isRequest_7 : decode cX11_isRequest 7 = .ok (.isub, 1) := by decide +kernel
theorem dX11_isRequest_8 : decode cX11_isRequest 8 = .ok (.invokestatic 181, 3) := by decide +kernel
theorem dX11_isRequest_11 : decode cX11_isRequest 11 = .ok (.ireturn, 1) := by decide +kernel
def f_isRequest (p1 : Int32) (M : MS) : Int32 :=
    if P_in p1 0 ((mI M 14) - 1) then
      1
    else
    0
abbrev rm_X11_isRequest : Room := { frames := 1, cells := 0, slots := 0, locals := 22 }
set_option maxRecDepth 100000 in
set_option maxHeartbeats 4000000 in
theorem c_isRequest {l : Launch} {k : KC} {mo : Nat} {ad : Nat → Nat} (hl : l.stackTraces = false) (hM : HM mo ad) {M : MS} {p1 : Int32}  : CM l k mo ad yX11_isRequest (.code yX11_isRequest cX11_isRequest 2 (some .boolean)) rm_X11_isRequest [.int p1] M (some (.int (f_isRequest p1 M))) M := by
  refine MC.of 0 hl (by decide) (Nat.le_of_ble_eq_true rfl) ?_
  intro p e s m args below meth c A Q G B _ _
  show Wx p l e rm_X11_isRequest s m args below meth c k A 2 Q 0 0 0 [some (.ref mo), some (.int p1)] [] (mW k mo ad M)
  refine x_iload1 (pc := 0) G dX11_isRequest_0 ?_
  refine x_iconst (pc := 1) (v := 0) G dX11_isRequest_1 ic_0 ?_
  refine x_aload0 (pc := 2) G dX11_isRequest_2 ?_
  refine y_gI (pc := 3) (v := (mI M 14)) G g_185 mG_14 rfl dX11_isRequest_3 ?_
  refine x_iconst (pc := 6) (v := 1) G dX11_isRequest_6 ic_1 ?_
  refine x_isub (pc := 7) G dX11_isRequest_7 ?_
  refine x_cSb3 (pc := 8) G (b_in hl hM _) q_ml_X11_181 h_X11_in ⟨Nat.le_of_ble_eq_true rfl, Nat.le_of_ble_eq_true rfl⟩ (Nat.le_of_ble_eq_true rfl) (Nat.le_refl _) (Nat.le_refl _) dX11_isRequest_8 (fun c1 => ?_) (fun c1 => ?_)
  · exact x_zret (pc := 11) G B rfl (by decide) dX11_isRequest_11 ⟨by rw [f_isRequest, if_pos c1], rfl⟩
  exact x_zret (pc := 11) G B rfl (by decide) dX11_isRequest_11 ⟨by rw [f_isRequest, if_neg c1], rfl⟩
abbrev P_isRequest (p1 : Int32) (M : MS) : Prop := P_in p1 0 (mI M 14 - 1)
theorem v_isRequest {p1 : Int32} {M : MS} : f_isRequest p1 M = if P_isRequest p1 M then 1 else 0 := by rfl
theorem b_isRequest {l : Launch} {k : KC} {mo : Nat} {ad : Nat → Nat} (hl : l.stackTraces = false) (hM : HM mo ad) {M : MS} {p1 : Int32}  : (P_isRequest p1 M → CM l k mo ad yX11_isRequest (.code yX11_isRequest cX11_isRequest 2 (some .boolean)) rm_X11_isRequest [.int p1] M (some (.int 1)) M) ∧ (¬ P_isRequest p1 M → CM l k mo ad yX11_isRequest (.code yX11_isRequest cX11_isRequest 2 (some .boolean)) rm_X11_isRequest [.int p1] M (some (.int 0)) M) := MC.bool (by rw [← v_isRequest]; exact c_isRequest hl hM )
theorem dX11_isInvoice_0 : decode cX11_isInvoice 0 = .ok (.iload_n 1, 1) := by decide +kernel
theorem dX11_isInvoice_1 : decode cX11_isInvoice 1 = .ok (.iconst 0, 1) := by decide +kernel
theorem dX11_isInvoice_2 : decode cX11_isInvoice 2 = .ok (.aload_n 0, 1) := by decide +kernel
theorem dX11_isInvoice_3 : decode cX11_isInvoice 3 = .ok (.getfield 192, 3) := by decide +kernel
theorem dX11_isInvoice_6 : decode cX11_isInvoice 6 = .ok (.iconst 1, 1) := by decide +kernel
theorem dX11_isInvoice_7 : decode cX11_isInvoice 7 = .ok (.isub, 1) := by decide +kernel
theorem dX11_isInvoice_8 : decode cX11_isInvoice 8 = .ok (.invokestatic 181, 3) := by decide +kernel
theorem dX11_isInvoice_11 : decode cX11_isInvoice 11 = .ok (.ireturn, 1) := by decide +kernel
def f_isInvoice (p1 : Int32) (M : MS) : Int32 :=
    if P_in p1 0 ((mI M 39) - 1) then
      1
    else
    0
abbrev rm_X11_isInvoice : Room := { frames := 1, cells := 0, slots := 0, locals := 22 }
set_option maxRecDepth 100000 in
set_option maxHeartbeats 4000000 in
theorem c_isInvoice {l : Launch} {k : KC} {mo : Nat} {ad : Nat → Nat} (hl : l.stackTraces = false) (hM : HM mo ad) {M : MS} {p1 : Int32}  : CM l k mo ad yX11_isInvoice (.code yX11_isInvoice cX11_isInvoice 2 (some .boolean)) rm_X11_isInvoice [.int p1] M (some (.int (f_isInvoice p1 M))) M := by
  refine MC.of 0 hl (by decide) (Nat.le_of_ble_eq_true rfl) ?_
  intro p e s m args below meth c A Q G B _ _
  show Wx p l e rm_X11_isInvoice s m args below meth c k A 2 Q 0 0 0 [some (.ref mo), some (.int p1)] [] (mW k mo ad M)
  refine x_iload1 (pc := 0) G dX11_isInvoice_0 ?_
  refine x_iconst (pc := 1) (v := 0) G dX11_isInvoice_1 ic_0 ?_
  refine x_aload0 (pc := 2) G dX11_isInvoice_2 ?_
  refine y_gI (pc := 3) (v := (mI M 39)) G g_192 mG_39 rfl dX11_isInvoice_3 ?_
  refine x_iconst (pc := 6) (v := 1) G dX11_isInvoice_6 ic_1 ?_
  refine x_isub (pc := 7) G dX11_isInvoice_7 ?_
  refine x_cSb3 (pc := 8) G (b_in hl hM _) q_ml_X11_181 h_X11_in ⟨Nat.le_of_ble_eq_true rfl, Nat.le_of_ble_eq_true rfl⟩ (Nat.le_of_ble_eq_true rfl) (Nat.le_refl _) (Nat.le_refl _) dX11_isInvoice_8 (fun c1 => ?_) (fun c1 => ?_)
  · exact x_zret (pc := 11) G B rfl (by decide) dX11_isInvoice_11 ⟨by rw [f_isInvoice, if_pos c1], rfl⟩
  exact x_zret (pc := 11) G B rfl (by decide) dX11_isInvoice_11 ⟨by rw [f_isInvoice, if_neg c1], rfl⟩
abbrev P_isInvoice (p1 : Int32) (M : MS) : Prop := P_in p1 0 (mI M 39 - 1)
theorem v_isInvoice {p1 : Int32} {M : MS} : f_isInvoice p1 M = if P_isInvoice p1 M then 1 else 0 := by rfl
theorem b_isInvoice {l : Launch} {k : KC} {mo : Nat} {ad : Nat → Nat} (hl : l.stackTraces = false) (hM : HM mo ad) {M : MS} {p1 : Int32}  : (P_isInvoice p1 M → CM l k mo ad yX11_isInvoice (.code yX11_isInvoice cX11_isInvoice 2 (some .boolean)) rm_X11_isInvoice [.int p1] M (some (.int 1)) M) ∧ (¬ P_isInvoice p1 M → CM l k mo ad yX11_isInvoice (.code yX11_isInvoice cX11_isInvoice 2 (some .boolean)) rm_X11_isInvoice [.int p1] M (some (.int 0)) M) := MC.bool (by rw [← v_isInvoice]; exact c_isInvoice hl hM )
theorem dX11_yearNow_0 : decode cX11_yearNow 0 = .ok (.aload_n 0, 1) := by decide +kernel
theorem dX11_yearNow_1 : decode cX11_yearNow 1 = .ok (.getfield 195, 3) := by decide +kernel
theorem dX11_yearNow_4 : decode cX11_yearNow 4 = .ok (.sipush 360, 3) := by decide +kernel
theorem dX11_yearNow_7 : decode cX11_yearNow 7 = .ok (.idiv, 1) := by decide +kernel
theorem dX11_yearNow_8 : decode cX11_yearNow 8 = .ok (.ireturn, 1) := by decide +kernel
def f_yearNow  (M : MS) : Int32 :=
    ((mI M 1) / 360)
abbrev rm_X11_yearNow : Room := { frames := 0, cells := 0, slots := 0, locals := 0 }
set_option maxRecDepth 100000 in
set_option maxHeartbeats 4000000 in
theorem c_yearNow {l : Launch} {k : KC} {mo : Nat} {ad : Nat → Nat} (hl : l.stackTraces = false) (hM : HM mo ad) {M : MS}   : CM l k mo ad yX11_yearNow (.code yX11_yearNow cX11_yearNow 1 (some .int)) rm_X11_yearNow [] M (some (.int (f_yearNow  M))) M := by
  refine MC.of 0 hl (by decide) (Nat.le_of_ble_eq_true rfl) ?_
  intro p e s m args below meth c A Q G B _ _
  show Wx p l e rm_X11_yearNow s m args below meth c k A 1 Q 0 0 0 [some (.ref mo)] [] (mW k mo ad M)
  refine x_aload0 (pc := 0) G dX11_yearNow_0 ?_
  refine y_gI (pc := 1) (v := (mI M 1)) G g_195 mG_1 rfl dX11_yearNow_1 ?_
  refine x_sipush (pc := 4) (v := 360) G dX11_yearNow_4 sp_360 ?_
  refine x_idiv (pc := 7) G dX11_yearNow_7 (by decide) ?_
  exact x_iret (pc := 8) G B rfl dX11_yearNow_8 ⟨by rw [f_yearNow], rfl⟩
theorem dX11_at_0 : decode cX11_at 0 = .ok (.bipush 9, 2) := by decide +kernel
theorem dX11_at_2 : decode cX11_at 2 = .ok (.iload_n 0, 1) := by decide +kernel
theorem dX11_at_3 : decode cX11_at 3 = .ok (.imul, 1) := by decide +kernel
theorem dX11_at_4 : decode cX11_at 4 = .ok (.iconst 3, 1) := by decide +kernel
theorem dX11_at_5 : decode cX11_at 5 = .ok (.iload_n 1, 1) := by decide +kernel
theorem dX11_at_6 : decode cX11_at 6 = .ok (.imul, 1) := by decide +kernel
theorem dX11_at_7 : decode cX11_at 7 = .ok (.iadd, 1) := by decide +kernel
theorem dX11_at_8 : decode cX11_at 8 = .ok (.iload_n 2, 1) := by decide +kernel
theorem dX11_at_9 : decode cX11_at 9 = .ok (.iadd, 1) := by decide +kernel
theorem dX11_at_10 : decode cX11_at 10 = .ok (.ireturn, 1) := by decide +kernel
def f_at (p1 : Int32) (p2 : Int32) (p3 : Int32) : Int32 :=
    (((9 * p1) + (3 * p2)) + p3)
abbrev rm_X11_at : Room := { frames := 0, cells := 0, slots := 0, locals := 0 }
set_option maxRecDepth 100000 in
set_option maxHeartbeats 4000000 in
theorem c_at {l : Launch} {k : KC} {mo : Nat} {ad : Nat → Nat} (hl : l.stackTraces = false) (hM : HM mo ad) {p1 : Int32} {p2 : Int32} {p3 : Int32}  : CS l k yX11_at (.code yX11_at cX11_at 3 (some .int)) rm_X11_at [.int p1, .int p2, .int p3] (.int (f_at p1 p2 p3)) := by
  intro h
  refine MC.of 0 hl (by decide) (Nat.le_of_ble_eq_true rfl) ?_
  intro p e s m args below meth c A Q G B _ _
  show Wx p l e rm_X11_at s m args below meth c k A 3 Q 0 0 0 [some (.int p1), some (.int p2), some (.int p3)] [] h
  refine x_bipush (pc := 0) (v := 9) G dX11_at_0 bp_9 ?_
  refine x_iload0 (pc := 2) G dX11_at_2 ?_
  refine x_imul (pc := 3) G dX11_at_3 ?_
  refine x_iconst (pc := 4) (v := 3) G dX11_at_4 ic_3 ?_
  refine x_iload1 (pc := 5) G dX11_at_5 ?_
  refine x_imul (pc := 6) G dX11_at_6 ?_
  refine x_iadd (pc := 7) G dX11_at_7 ?_
  refine x_iload2 (pc := 8) G dX11_at_8 ?_
  refine x_iadd (pc := 9) G dX11_at_9 ?_
  exact x_iret (pc := 10) G B rfl dX11_at_10 ⟨by rw [f_at], rfl⟩
