theorem dX10_request_0 : decode cX10_request 0 = .ok (.aload_n 0, 1) := by decide +kernel
theorem dX10_request_1 : decode cX10_request 1 = .ok (.iload_n 1, 1) := by decide +kernel
theorem dX10_request_2 : decode cX10_request 2 = .ok (.invokevirtual 87, 3) := by decide +kernel
theorem dX10_request_5 : decode cX10_request 5 = .ok (.astore_n 3, 1) := by decide +kernel
theorem dX10_request_6 : decode cX10_request 6 = .ok (.aload_n 0, 1) := by decide +kernel
theorem dX10_request_7 : decode cX10_request 7 = .ok (.iload_n 2, 1) := by decide +kernel
theorem dX10_request_8 : decode cX10_request 8 = .ok (.invokevirtual 144, 3) := by decide +kernel
theorem dX10_request_11 : decode cX10_request 11 = .ok (.astore 4, 2) := by decide +kernel
theorem dX10_request_13 : decode cX10_request 13 = .ok (.aload_n 0, 1) := by decide +kernel
theorem dX10_request_14 : decode cX10_request 14 = .ok (.getfield 25, 3) := by decide +kernel
theorem dX10_request_17 : decode cX10_request 17 = .ok (.invokevirtual 96, 3) := by decide +kernel
theorem dX10_request_20 : decode cX10_request 20 = .ok (.bipush 40, 2) := by decide +kernel
theorem dX10_request_22 : decode cX10_request 22 = .ok (.if_icmp .lt 13, 3) := by decide +kernel
theorem dX10_request_25 : decode cX10_request 25 = .ok (.new 100, 3) := by decide +kernel
theorem dX10_request_28 : decode cX10_request 28 = .ok (.dup, 1) := by decide +kernel
theorem dX10_request_29 : decode cX10_request 29 = .ok (.ldc 197, 2) := by decide +kernel
theorem dX10_request_31 : decode cX10_request 31 = .ok (.invokespecial 104, 3) := by decide +kernel
theorem dX10_request_34 : decode cX10_request 34 = .ok (.athrow, 1) := by decide +kernel
theorem dX10_request_35 : decode cX10_request 35 = .ok (.aload_n 0, 1) := by decide +kernel
theorem dX10_request_36 : decode cX10_request 36 = .ok (.getfield 25, 3) := by decide +kernel
theorem dX10_request_39 : decode cX10_request 39 = .ok (.new 199, 3) := by decide +kernel
theorem dX10_request_42 : decode cX10_request 42 = .ok (.dup, 1) := by decide +kernel
theorem dX10_request_43 : decode cX10_request 43 = .ok (.aload_n 3, 1) := by decide +kernel
theorem dX10_request_44 : decode cX10_request 44 = .ok (.aload 4, 2) := by decide +kernel
theorem dX10_request_46 : decode cX10_request 46 = .ok (.invokespecial 201, 3) := by decide +kernel
theorem dX10_request_49 : decode cX10_request 49 = .ok (.invokevirtual 75, 3) := by decide +kernel
theorem dX10_request_52 : decode cX10_request 52 = .ok (.pop, 1) := by decide +kernel
theorem dX10_request_53 : decode cX10_request 53 = .ok (.aload_n 0, 1) := by decide +kernel
theorem dX10_request_54 : decode cX10_request 54 = .ok (.getfield 25, 3) := by decide +kernel
theorem dX10_request_57 : decode cX10_request 57 = .ok (.invokevirtual 96, 3) := by decide +kernel
theorem dX10_request_60 : decode cX10_request 60 = .ok (.iconst 1, 1) := by decide +kernel
theorem dX10_request_61 : decode cX10_request 61 = .ok (.isub, 1) := by decide +kernel
theorem dX10_request_62 : decode cX10_request 62 = .ok (.ireturn, 1) := by decide +kernel
def k_request (p1 : Int32) (p2 : Int32) (X : CX) (S : CT) : (Int32 × CT) ⊕ String :=
    if P_num p1 (nS X 20 0) then
      if P_num p2 (nS X 21 0) then
        if (nS X 24 0) < 40 then
          .inl ((nI (xSz X 24 0 + 1)) - 1, (s_request X S))
        else
        .inr "java/lang/IllegalStateException"
      else
      .inr "java/lang/IndexOutOfBoundsException"
    else
    .inr "java/lang/IndexOutOfBoundsException"
abbrev rma_request : Room := { frames := 8, cells := 3, slots := 86, locals := 240 }
set_option maxRecDepth 100000 in
set_option maxHeartbeats 4000000 in
theorem ck_request {l : Launch} {k : KC} (hl : l.stackTraces = false) {X : CX} {S : CT} (hX : XOK X) (hL : LVX X) (hT : TS X S) {p1 : Int32} {p2 : Int32}  : MC l k yX10_request (.code yX10_request cX10_request 5 (some .int)) rma_request [(vr X 11 0), .int p1, .int p2] (cW k X S) (pAi k X S (y_request X p1 p2) 24 0 (k_request p1 p2 X S)) := by
  refine MC.of 2 hl (by decide) (by simp only [lg_sl_vr, lg_sl_i, lg_sl_l, lg_sl_0]; exact Nat.le_of_ble_eq_true rfl) ?_
  intro p e s m args below meth c A Q G B B2 hout
  simp only [lp_args_vr, lp_args_i, lp_args_l, lp_args_0]
  show Wx p l e rma_request s m args below meth c k A 5 Q 3 86 0 [some ((vr X 11 0)), some (.int p1), some (.int p2), none, none] [] (cW k X S)
  refine z_aload0 (pc := 0) G vr_r dX10_request_0 ?_
  refine x_iload1 (pc := 1) G dX10_request_1 ?_
  rcases Decidable.em (¬ (P_num p1 (nS X 20 0))) with c1 | c1
  · exact z_cVt1 (pc := 2) G kb_11 hX.1 hX.l11 B B2 hout (no_personAt hl hX  c1) rfl q_ml_X10_87 h_X10_personAt ⟨Nat.le_of_ble_eq_true rfl, Nat.le_of_ble_eq_true rfl⟩ (Nat.le_of_ble_eq_true rfl) (Nat.le_refl _) (Nat.le_refl _) dX10_request_2 (by rw [k_request, if_neg c1]; exact ⟨rfl, rfl⟩)
  have c1 := Decidable.not_not.mp c1
  refine z_cV1 (pc := 2) G kb_11 hX.1 hX.l11 (ok_personAt hl hX  c1) rfl q_ml_X10_87 h_X10_personAt ⟨Nat.le_of_ble_eq_true rfl, Nat.le_of_ble_eq_true rfl⟩ (Nat.le_of_ble_eq_true rfl) (Nat.le_refl _) (Nat.le_refl _) dX10_request_2 ?_
  refine z_astore3 (pc := 5) G vr_r dX10_request_5 (Nat.le_of_ble_eq_true rfl) rfl ?_
  refine z_aload0 (pc := 6) G vr_r dX10_request_6 ?_
  refine x_iload2 (pc := 7) G dX10_request_7 ?_
  rcases Decidable.em (¬ (P_num p2 (nS X 21 0))) with c2 | c2
  · exact z_cVt1 (pc := 8) G kb_11 hX.1 hX.l11 B B2 hout (no_centreAt hl hX  c2) rfl q_ml_X10_144 h_X10_centreAt ⟨Nat.le_of_ble_eq_true rfl, Nat.le_of_ble_eq_true rfl⟩ (Nat.le_of_ble_eq_true rfl) (Nat.le_refl _) (Nat.le_refl _) dX10_request_8 (by rw [k_request, if_pos c1, if_neg c2]; exact ⟨rfl, rfl⟩)
  have c2 := Decidable.not_not.mp c2
  refine z_cV1 (pc := 8) G kb_11 hX.1 hX.l11 (ok_centreAt hl hX  c2) rfl q_ml_X10_144 h_X10_centreAt ⟨Nat.le_of_ble_eq_true rfl, Nat.le_of_ble_eq_true rfl⟩ (Nat.le_of_ble_eq_true rfl) (Nat.le_refl _) (Nat.le_refl _) dX10_request_8 ?_
  refine z_astore4 (pc := 11) G vr_r dX10_request_11 (Nat.le_of_ble_eq_true rfl) lp_c2_vr ?_
  refine z_aload0 (pc := 13) G vr_r dX10_request_13 ?_
  refine z_g (pc := 14) (f := 356) (x := 0) (v := (aR X 24 0)) G kb_11 gb_X10_25 rfl hX.1 hX.l11 cr_356 dX10_request_14 ?_
  refine z_size (pc := 17) (Li := 24) (x := 0) G hX.1 hX.lw24 q_ml_X10_96 ⟨Nat.le_of_ble_eq_true rfl, Nat.le_of_ble_eq_true rfl⟩ (Nat.le_of_ble_eq_true rfl) dX10_request_17 ?_
  refine x_bipush (pc := 20) (v := 40) G dX10_request_20 bp_40 ?_
  refine x_icmp_lt (pc := 22) (tgt := 35) G dX10_request_22 rfl (fun c3 => ?_) (fun c3 => ?_)
  · refine z_aload0 (pc := 35) G vr_r dX10_request_35 ?_
    refine z_g (pc := 36) (f := 356) (x := 0) (v := (aR X 24 0)) G kb_11 gb_X10_25 rfl hX.1 hX.l11 cr_356 dX10_request_36 ?_
    have hlt : xSz X 24 0 < 40 := (nI_ltI (a := xSz X 24 0) (b := 40) (by have := hL.2.2.1; omega) (by decide)).mp c3
    refine  x_new (pc := 39) (ci := 8) (N := 10) (C := RX7) (T := TX7) (fs := [.null, .null, .null, .int 0, .int 0, .long 0, .null, .null, .null, .long 0]) (bc1 := 2) (bs1 := 76) G i_X7 tyX7 tyX7_ok q_cl_X10_199 q_it_X7 q_in_X7 rfl (by decide) (Nat.le_of_ble_eq_true rfl) (Nat.le_of_ble_eq_true rfl) dX10_request_39 (fun b hb => ?_)
    refine  x_dup (pc := 42) G dX10_request_42 rfl ?_
    refine  z_aload3 (pc := 43) G vr_r dX10_request_43 ?_
    refine  z_aload4 (pc := 44) G vr_r dX10_request_44 ?_
    refine  x_callI (bc1 := 1) (bs1 := 73) (pc := 46) (n := 2) (As := [(vr X 6 p1), (vr X 1 p2)]) (st := [.ref b, (aR X 24 0)]) G (in_Request hl (List.mem_append_right _ List.mem_cons_self) vr_r vr_r) q_ml_X10_201 q_im_yX7_init q_in_X7 q_co_yX7_init rfl ⟨by decide +kernel, by decide +kernel, by decide +kernel⟩ ⟨Nat.le_of_ble_eq_true rfl, Nat.le_of_ble_eq_true rfl⟩ (by simp only [List.map_cons, List.map_nil, vr_cat]; exact Nat.le_of_ble_eq_true rfl) (Nat.le_refl _) (Nat.le_refl _) rfl rfl dX10_request_46 (fun v9 h9 hp => ?_)
    obtain ⟨q, hq2, e1, rfl⟩ := hp
    cases e1
    obtain ⟨X1, E1, hK1, hT1, hA1, hN1, hv0, ev, hI1, ha0, hs1⟩ := al_request (p1 := p1) (p2 := p2) hX hL hT (hX.el20 c1) (hX.el21 c2) hlt hb hq2
    have hv1 : ∀ t x, (t < 20 ∧ t ≠ 8) → vr X1 t x = vr X t x := fun t x h => hv0 t x h.1 h.2
    have ha1 : ∀ L i, (20 ≤ L ∧ L ≠ 29) → xAd X1 L i = xAd X L i := fun L i h => ha0 L i h.1 h.2
    rw [E1]
    rw [ev, show aR X 24 0 = aR X1 24 0 from congrArg Value.ref (ha1 _ _ (by decide)).symm]
    refine  z_add (pc := 49) (Li := 24) (kd := 8) (x := 0) (z := nI (xSz X 24 0)) (bc1 := 0) (bs1 := 0) G hA1 hI1 ⟨rfl, by decide⟩ ((if_pos (by decide)).trans (by rw [nI_clamp (by omega)]; exact hs1)) rfl (by decide +kernel) q_ml_X10_75 ⟨Nat.le_of_ble_eq_true rfl, Nat.le_of_ble_eq_true rfl⟩ (Nat.le_of_ble_eq_true rfl) (Nat.le_of_ble_eq_true rfl) (Nat.le_of_ble_eq_true rfl) dX10_request_49 (fun X2 hA2 => ?_)
    refine  x_pop (pc := 52) G dX10_request_52 rfl ?_
    have hN2 := hN1 X2 hA2
    have hX2 := hN2.1
    have hs2 : nS X2 24 0 = nI (xSz X 24 0 + 1) := nS_AD hA2 rfl hs1
    rw [show vr X 11 0 = vr X2 11 0 from ((vr_AD hA2 (by decide)).trans (hv1 _ _ (by decide))).symm]
    refine  z_aload0 (pc := 53) G vr_r dX10_request_53 ?_
    refine  z_g (pc := 54) (f := 356) (x := 0) (v := (aR X2 24 0)) G kb_11 gb_X10_25 rfl hX2.1 hX2.l11 cr_356 dX10_request_54 ?_
    refine  z_size (pc := 57) (Li := 24) (x := 0) G hX2.1 hX2.lw24 q_ml_X10_96 ⟨Nat.le_of_ble_eq_true rfl, Nat.le_of_ble_eq_true rfl⟩ (Nat.le_of_ble_eq_true rfl) dX10_request_57 ?_
    refine  x_iconst (pc := 60) (v := 1) G dX10_request_60 ic_1 ?_
    refine  x_isub (pc := 61) G dX10_request_61 ?_
    exact  x_iret (pc := 62) G B rfl dX10_request_62 (by rw [k_request, if_pos c1, if_pos c2, if_pos c3]; exact ⟨by rw [hs2], X2, hN2, rfl⟩)
  exact z_ISE (pc := 25) G B B2 hout (is := 197) (text := "there are 40 requests") (by decide +kernel) dX10_request_25 dX10_request_28 (Or.inl ⟨dX10_request_29, dX10_request_31, dX10_request_34⟩) ⟨Nat.le_of_ble_eq_true rfl, Nat.le_of_ble_eq_true rfl⟩ (Nat.le_of_ble_eq_true rfl) (Nat.le_of_ble_eq_true rfl) (by rw [k_request, if_pos c1, if_pos c2, if_neg c3]; exact ⟨rfl, rfl⟩)
theorem LVX_29 {X Y X2 : CX} {S S1 : CT} {q r : Nat} {e : va_E} (h : LVX X) (hX : HX X) (hq : q ∉ xAs X) (hD : DE X S Y S1 4 (4 * r + xSz X 29 r)) (hr : r < xSz X 24 0) (hs : xSz X 29 r < 4) (hA : AD (obX Y 4 (4 * r + xSz X 29 r) q e) X2 29 r) : LVX X2 := by
  obtain ⟨h1, h2, h3, h4, h5⟩ := h
  obtain ⟨a1, -, a3, a4, a5, ⟨a6, a6'⟩, a7, -⟩ := hA
  have e1 : xSz (obX Y 4 (4 * r + xSz X 29 r) q e) = xSz X := hD.2.1.1
  have e2 : xCp (obX Y 4 (4 * r + xSz X 29 r) q e) = xCp X := hD.2.1.2.1
  rw [e1] at a4 a6
  have hne : ∀ L j, ¬ (L = 29 ∧ j = r) → xSz X2 L j = xSz X L j := fun L j z => by rw [a4]; exact if_neg z
  have hnc : ∀ L j, ¬ (L = 29 ∧ j = r) → xCp X2 L j = xCp X L j := fun L j z => by rw [a5 L j z, e2]
  have hsz : xSz X2 29 r = xSz X 29 r + 1 := by rw [a4]; exact if_pos ⟨rfl, rfl⟩
  have hc0 : xCp X2 29 r ≠ 0 := by omega
  have h24 : xSz X2 24 0 = xSz X 24 0 := hne 24 0 (by omega)
  have hlv : ∀ k i, lv X2 k i ↔ (lvb X k i ∨ (k = 4 ∧ i = 4 * r + xSz X 29 r)) ∨ (k = 39 ∧ i = r) := fun k i => by rw [a7, lv_ob hX hq hD.1, h1]
  refine ⟨fun k i => ?_, fun L i g1 g2 g3 => ?_, ?_, fun i hi => ?_, fun i hi => ?_⟩
  · rw [hlv]
    unfold lvb
    rw [h24]
    split
    · omega
    · rw [hne 27 0 (by omega)]; omega
    · rw [hne 25 0 (by omega)]; omega
    · by_cases z : i / 4 = r
      · rw [z, hsz]; omega
      · rw [hne 29 _ (by omega)]; omega
    · omega
    · rw [hne 20 0 (by omega)]; omega
    · omega
    · omega
    · omega
    · rw [hne 26 0 (by omega)]; omega
    · omega
    · omega
    · omega
    · omega
    · omega
    · omega
    · omega
    · omega
    · omega
    · omega
    · omega
    · rw [hnc 20 i (by omega)]; omega
    · rw [hnc 21 i (by omega)]; omega
    · rw [hnc 22 i (by omega)]; omega
    · rw [hnc 23 i (by omega)]; omega
    · rw [hnc 24 i (by omega)]; omega
    · rw [hnc 25 i (by omega)]; omega
    · rw [hnc 26 i (by omega)]; omega
    · rw [hnc 27 i (by omega)]; omega
    · rw [hnc 28 i (by omega)]; omega
    · by_cases z : i = r
      · rw [z]; constructor
        · exact fun _ => ⟨by omega, hc0⟩
        · exact fun _ => Or.inr ⟨rfl, rfl⟩
      · rw [hnc 29 i (by omega)]; omega
    · omega
    · omega
    · rename_i z1 z2 z3 z4 z5 z6 z7 z8 z9 z10 z11 z12 z13 z14 z15 z16 z17 z18 z19 z20 z21 z22 z23 z24 z25 z26 z27 z28 z29 z30 z31 z32 z33
      constructor
      · rintro ((z | z) | z)
        · exact z
        · exact z4 z.1
        · exact z31 z.1
      · exact fun z => z.elim
  · by_cases z : L = 29 ∧ i = r
    · rw [z.1, z.2]; exact a6'
    · rw [hnc L i z]
      refine h2 L i g1 g2 ((h1 L i).mpr ?_)
      rcases (hlv L i).mp g3 with (q | q) | q
      · exact q
      · omega
      · omega
  · rw [hne 20 0 (by omega), hne 21 0 (by omega), hne 22 0 (by omega), hne 23 0 (by omega), hne 24 0 (by omega), hne 25 0 (by omega), hne 26 0 (by omega), hne 27 0 (by omega)]; omega
  · rw [hne 28 i (by omega)]; exact h4 i hi
  · rw [h24] at hi
    by_cases y : i = r
    · rw [y, hsz]; omega
    · rw [hne 29 i (by omega)]; exact h5 i hi
def y_line (X : CX) (r : Nat) (p2 p3 p4 : Int32) : CX := (fiX (fiX X 128 (4 * r + xSz X 29 r) p2) 129 (4 * r + xSz X 29 r) p4)
def s_line (X : CX) (S : CT) (r : Nat) (p2 p3 p4 : Int32) : CT := (si (si (si (si S 130 (nI (4 * r + xSz X 29 r)) p3) 131 (nI (4 * r + xSz X 29 r)) 0) 132 (nI (4 * r + xSz X 29 r)) 0) 133 (nI (4 * r + xSz X 29 r)) 0)
theorem al_line {k : KC} {X : CX} {S : CT} (hX : XOK X) (hL : LVX X) (hT : TS X S) {r : Nat} {p2 p3 p4 : Int32} (hr : r < xSz X 24 0) (hlt : xSz X 29 r < 4) {q : Nat} (hq : q ∉ (cW k X S).1) : ∃ X1, ((cW k X S).1 ++ [q], va_up (cW k X S).2 q (.inr (4, [.int p2, .int p4, .int p3, .int 0, .int 0, .int 0]))) = cW k X1 (s_line X S r p2 p3 p4) ∧ XOK X1 ∧ TS X1 (s_line X S r p2 p3 p4) ∧ LA X1 29 r ∧ (∀ X2, AD X1 X2 29 r → NX (y_line X r p2 p3 p4) X2 29 r) ∧ (∀ t x, t ≠ 4 → vr X1 t x = vr X t x) ∧ Value.ref q = vr X1 4 (nI (4 * r + xSz X 29 r)) ∧ lI X1 4 (nI (4 * r + xSz X 29 r)) ∧ (∀ L i, 20 ≤ L → xAd X1 L i = xAd X L i) ∧ (xFi X1 = xFi (y_line X r p2 p3 p4) ∧ xFj X1 = xFj (y_line X r p2 p3 p4) ∧ xSz X1 = xSz X) ∧ ∀ kd i, lv X kd i → lv X1 kd i := by
  have hb := hL.2.2.1
  have hn31 : (4 * r + xSz X 29 r) < 2 ^ 31 := by omega
  have hd : dead X 4 (4 * r + xSz X 29 r) := dead.of hX.1 fun z => by
    have h8 : (4 * r + xSz X 29 r) / 4 < xSz X 24 0 ∧ (4 * r + xSz X 29 r) % 4 < xSz X 29 ((4 * r + xSz X 29 r) / 4) := (hL.1 4 _).mp z
    rw [show (4 * r + xSz X 29 r) / 4 = r by omega, show (4 * r + xSz X 29 r) % 4 = xSz X 29 r by omega] at h8
    omega
  have hD : DE X S (fiX (fiX X 128 (4 * r + xSz X 29 r) p2) 129 (4 * r + xSz X 29 r) p4) (si (si (si (si S 130 (nI (4 * r + xSz X 29 r)) p3) 131 (nI (4 * r + xSz X 29 r)) 0) 132 (nI (4 * r + xSz X 29 r)) 0) 133 (nI (4 * r + xSz X 29 r)) 0) 4 (4 * r + xSz X 29 r) := (DE.si (DE.si (DE.si (DE.si (DE.fi (DE.fi DE.refl (by decide)) (by decide)) (by decide) hn31) (by decide) hn31) (by decide) hn31) (by decide) hn31)
  obtain ⟨E1, HX1⟩ := cW_obj (k := k) (e := (.inr (4, [.int p2, .int p4, .int p3, .int 0, .int 0, .int 0]))) hX.1 (RO_of hX hL hT) (EA_of hX hL) (by decide) hq hd hD (by
    show Sum.inr (4, [.int p2, .int p4, .int p3, .int 0, .int 0, .int 0]) = Sum.inr (4, [cR (adX (fiX (fiX X 128 (4 * r + xSz X 29 r) p2) 129 (4 * r + xSz X 29 r) p4) 4 (4 * r + xSz X 29 r) q) (si (si (si (si S 130 (nI (4 * r + xSz X 29 r)) p3) 131 (nI (4 * r + xSz X 29 r)) 0) 132 (nI (4 * r + xSz X 29 r)) 0) 133 (nI (4 * r + xSz X 29 r)) 0) 128 (4 * r + xSz X 29 r), cR (adX (fiX (fiX X 128 (4 * r + xSz X 29 r) p2) 129 (4 * r + xSz X 29 r) p4) 4 (4 * r + xSz X 29 r) q) (si (si (si (si S 130 (nI (4 * r + xSz X 29 r)) p3) 131 (nI (4 * r + xSz X 29 r)) 0) 132 (nI (4 * r + xSz X 29 r)) 0) 133 (nI (4 * r + xSz X 29 r)) 0) 129 (4 * r + xSz X 29 r), cR (adX (fiX (fiX X 128 (4 * r + xSz X 29 r) p2) 129 (4 * r + xSz X 29 r) p4) 4 (4 * r + xSz X 29 r) q) (si (si (si (si S 130 (nI (4 * r + xSz X 29 r)) p3) 131 (nI (4 * r + xSz X 29 r)) 0) 132 (nI (4 * r + xSz X 29 r)) 0) 133 (nI (4 * r + xSz X 29 r)) 0) 130 (4 * r + xSz X 29 r), cR (adX (fiX (fiX X 128 (4 * r + xSz X 29 r) p2) 129 (4 * r + xSz X 29 r) p4) 4 (4 * r + xSz X 29 r) q) (si (si (si (si S 130 (nI (4 * r + xSz X 29 r)) p3) 131 (nI (4 * r + xSz X 29 r)) 0) 132 (nI (4 * r + xSz X 29 r)) 0) 133 (nI (4 * r + xSz X 29 r)) 0) 131 (4 * r + xSz X 29 r), cR (adX (fiX (fiX X 128 (4 * r + xSz X 29 r) p2) 129 (4 * r + xSz X 29 r) p4) 4 (4 * r + xSz X 29 r) q) (si (si (si (si S 130 (nI (4 * r + xSz X 29 r)) p3) 131 (nI (4 * r + xSz X 29 r)) 0) 132 (nI (4 * r + xSz X 29 r)) 0) 133 (nI (4 * r + xSz X 29 r)) 0) 132 (4 * r + xSz X 29 r), cR (adX (fiX (fiX X 128 (4 * r + xSz X 29 r) p2) 129 (4 * r + xSz X 29 r) p4) 4 (4 * r + xSz X 29 r) q) (si (si (si (si S 130 (nI (4 * r + xSz X 29 r)) p3) 131 (nI (4 * r + xSz X 29 r)) 0) 132 (nI (4 * r + xSz X 29 r)) 0) 133 (nI (4 * r + xSz X 29 r)) 0) 133 (4 * r + xSz X 29 r)])
    rw [show cR (adX (fiX (fiX X 128 (4 * r + xSz X 29 r) p2) 129 (4 * r + xSz X 29 r) p4) 4 (4 * r + xSz X 29 r) q) (si (si (si (si S 130 (nI (4 * r + xSz X 29 r)) p3) 131 (nI (4 * r + xSz X 29 r)) 0) 132 (nI (4 * r + xSz X 29 r)) 0) 133 (nI (4 * r + xSz X 29 r)) 0) 128 (4 * r + xSz X 29 r) = .int p2 from (congrArg Value.int ((fi_sn rfl).trans fi_ss)), show cR (adX (fiX (fiX X 128 (4 * r + xSz X 29 r) p2) 129 (4 * r + xSz X 29 r) p4) 4 (4 * r + xSz X 29 r) q) (si (si (si (si S 130 (nI (4 * r + xSz X 29 r)) p3) 131 (nI (4 * r + xSz X 29 r)) 0) 132 (nI (4 * r + xSz X 29 r)) 0) 133 (nI (4 * r + xSz X 29 r)) 0) 129 (4 * r + xSz X 29 r) = .int p4 from (congrArg Value.int fi_ss), show cR (adX (fiX (fiX X 128 (4 * r + xSz X 29 r) p2) 129 (4 * r + xSz X 29 r) p4) 4 (4 * r + xSz X 29 r) q) (si (si (si (si S 130 (nI (4 * r + xSz X 29 r)) p3) 131 (nI (4 * r + xSz X 29 r)) 0) 132 (nI (4 * r + xSz X 29 r)) 0) 133 (nI (4 * r + xSz X 29 r)) 0) 130 (4 * r + xSz X 29 r) = .int p3 from (congrArg Value.int ((si_an rfl).trans ((si_an rfl).trans ((si_an rfl).trans (si_at hn31))))), show cR (adX (fiX (fiX X 128 (4 * r + xSz X 29 r) p2) 129 (4 * r + xSz X 29 r) p4) 4 (4 * r + xSz X 29 r) q) (si (si (si (si S 130 (nI (4 * r + xSz X 29 r)) p3) 131 (nI (4 * r + xSz X 29 r)) 0) 132 (nI (4 * r + xSz X 29 r)) 0) 133 (nI (4 * r + xSz X 29 r)) 0) 131 (4 * r + xSz X 29 r) = .int 0 from (congrArg Value.int ((si_an rfl).trans ((si_an rfl).trans (si_at hn31)))), show cR (adX (fiX (fiX X 128 (4 * r + xSz X 29 r) p2) 129 (4 * r + xSz X 29 r) p4) 4 (4 * r + xSz X 29 r) q) (si (si (si (si S 130 (nI (4 * r + xSz X 29 r)) p3) 131 (nI (4 * r + xSz X 29 r)) 0) 132 (nI (4 * r + xSz X 29 r)) 0) 133 (nI (4 * r + xSz X 29 r)) 0) 132 (4 * r + xSz X 29 r) = .int 0 from (congrArg Value.int ((si_an rfl).trans (si_at hn31))), show cR (adX (fiX (fiX X 128 (4 * r + xSz X 29 r) p2) 129 (4 * r + xSz X 29 r) p4) 4 (4 * r + xSz X 29 r) q) (si (si (si (si S 130 (nI (4 * r + xSz X 29 r)) p3) 131 (nI (4 * r + xSz X 29 r)) 0) 132 (nI (4 * r + xSz X 29 r)) 0) 133 (nI (4 * r + xSz X 29 r)) 0) 133 (4 * r + xSz X 29 r) = .int 0 from (congrArg Value.int (si_at hn31))])
  have hK1 := XOK_ob (e := (.inr (4, [.int p2, .int p4, .int p3, .int 0, .int 0, .int 0]))) hX hq hd hD ⟨by decide, by decide⟩ (by omega) HX1 (fun z => absurd z (by decide)) (fun z => absurd z (by decide)) (fun z => absurd z (by decide)) (fun z => absurd z (by decide))
  have hT1 := TS_ob (e := (.inr (4, [.int p2, .int p4, .int p3, .int 0, .int 0, .int 0]))) hT hX hq hd hD (by decide) (by omega) (fun z => absurd z (by decide)) (fun z => absurd z (by decide))
  have hA1 := LA_ob (e := (.inr (4, [.int p2, .int p4, .int p3, .int 0, .int 0, .int 0]))) (LA_of hX hL (by decide) (by decide) ((hL.1 29 r).mpr hr) (by omega)) hq hD (by decide) HX1
  have hme : lv (obX (fiX (fiX X 128 (4 * r + xSz X 29 r) p2) 129 (4 * r + xSz X 29 r) p4) 4 (4 * r + xSz X 29 r) q (.inr (4, [.int p2, .int p4, .int p3, .int 0, .int 0, .int 0]))) 4 (4 * r + xSz X 29 r) := ob_me hX.1 hq hD
  have hlI : lI (obX (fiX (fiX X 128 (4 * r + xSz X 29 r) p2) 129 (4 * r + xSz X 29 r) p4) 4 (4 * r + xSz X 29 r) q (.inr (4, [.int p2, .int p4, .int p3, .int 0, .int 0, .int 0]))) 4 (nI (4 * r + xSz X 29 r)) := ⟨_, by omega, rfl, hme⟩
  refine ⟨_, E1, hK1, hT1, hA1, fun X2 hA2 => ⟨XOK.ad hK1 hA2 hA1.2.2.1 ⟨?_, ?_⟩, LVX_29 hL hX.1 hq hD hr hlt hA2, hA2.2.1.1, hA2.2.1.2, hA2.2.2.2.1⟩, fun t x ht => vr_an ht, ?_, hlI, fun L i h20 => ad_ne (fun z => by omega), ⟨rfl, rfl, rfl⟩, ob_hm hX.1 hq hD⟩
  · show 4 * r + xSz X 29 r < 2 ^ 30
    omega
  · exact hme
  · rw [hlI.vr, nI_clamp hn31]
    exact congrArg Value.ref ad_ad.symm
theorem dX10_line_0 : decode cX10_line 0 = .ok (.aload_n 0, 1) := by decide +kernel
theorem dX10_line_1 : decode cX10_line 1 = .ok (.iload_n 1, 1) := by decide +kernel
theorem dX10_line_2 : decode cX10_line 2 = .ok (.invokevirtual 204, 3) := by decide +kernel
theorem dX10_line_5 : decode cX10_line 5 = .ok (.astore 5, 2) := by decide +kernel
theorem dX10_line_7 : decode cX10_line 7 = .ok (.iload_n 3, 1) := by decide +kernel
theorem dX10_line_8 : decode cX10_line 8 = .ok (.iconst 1, 1) := by decide +kernel
theorem dX10_line_9 : decode cX10_line 9 = .ok (.bipush 99, 2) := by decide +kernel
theorem dX10_line_11 : decode cX10_line 11 = .ok (.invokestatic 92, 3) := by decide +kernel
theorem dX10_line_14 : decode cX10_line 14 = .ok (.iload 4, 2) := by decide +kernel
theorem dX10_line_16 : decode cX10_line 16 = .ok (.iconst 1, 1) := by decide +kernel
theorem dX10_line_17 : decode cX10_line 17 = .ok (.ldc 208, 2) := by decide +kernel
theorem dX10_line_19 : decode cX10_line 19 = .ok (.invokestatic 92, 3) := by decide +kernel
theorem dX10_line_22 : decode cX10_line 22 = .ok (.aload 5, 2) := by decide +kernel
theorem dX10_line_24 : decode cX10_line 24 = .ok (.getfield 209, 3) := by decide +kernel
theorem dX10_line_27 : decode cX10_line 27 = .ok (.ifCond .ne 15, 3) := by decide +kernel
theorem dX10_line_30 : decode cX10_line 30 = .ok (.aload 5, 2) := by decide +kernel
theorem dX10_line_32 : decode cX10_line 32 = .ok (.getfield 212, 3) := by decide +kernel
theorem dX10_line_35 : decode cX10_line 35 = .ok (.invokevirtual 96, 3) := by decide +kernel
theorem dX10_line_38 : decode cX10_line 38 = .ok (.iconst 4, 1) := by decide +kernel
theorem dX10_line_39 : decode cX10_line 39 = .ok (.if_icmp .lt 13, 3) := by decide +kernel
theorem dX10_line_42 : decode cX10_line 42 = .ok (.new 100, 3) := by decide +kernel
theorem dX10_line_45 : decode cX10_line 45 = .ok (.dup, 1) := by decide +kernel
theorem dX10_line_46 : decode cX10_line 46 = .ok (.ldc 215, 2) := by decide +kernel
theorem dX10_line_48 : decode cX10_line 48 = .ok (.invokespecial 104, 3) := by decide +kernel
theorem dX10_line_51 : decode cX10_line 51 = .ok (.athrow, 1) := by decide +kernel
theorem dX10_line_52 : decode cX10_line 52 = .ok (.aload 5, 2) := by decide +kernel
theorem dX10_line_54 : decode cX10_line 54 = .ok (.getfield 212, 3) := by decide +kernel
theorem dX10_line_57 : decode cX10_line 57 = .ok (.new 217, 3) := by decide +kernel
theorem dX10_line_60 : decode cX10_line 60 = .ok (.dup, 1) := by decide +kernel
theorem dX10_line_61 : decode cX10_line 61 = .ok (.iload_n 2, 1) := by decide +kernel
theorem dX10_line_62 : decode cX10_line 62 = .ok (.iload_n 3, 1) := by decide +kernel
theorem dX10_line_63 : decode cX10_line 63 = .ok (.iload 4, 2) := by decide +kernel
theorem dX10_line_65 : decode cX10_line 65 = .ok (.invokespecial 219, 3) := by decide +kernel
theorem dX10_line_68 : decode cX10_line 68 = .ok (.invokevirtual 75, 3) := by decide +kernel
theorem dX10_line_71 : decode cX10_line 71 = .ok (.pop, 1) := by decide +kernel
theorem dX10_line_72 : decode cX10_line 72 = .ok (.aload 5, 2) := by decide +kernel
theorem dX10_line_74 : decode cX10_line 74 = .ok (.getfield 212, 3) := by decide +kernel
theorem dX10_line_77 : decode cX10_line 77 = .ok (.invokevirtual 96, 3) := by decide +kernel
theorem dX10_line_80 : decode cX10_line 80 = .ok (.ireturn, 1) := by decide +kernel
def k_line (p1 : Int32) (p2 : Int32) (p3 : Int32) (p4 : Int32) (X : CX) (S : CT) : (Int32 × CT) ⊕ String :=
    if P_num p1 (nS X 24 0) then
      if P_in p3 1 99 then
        if P_in p4 1 100000 then
          if (ci S 259 p1) = 0 then
            if (nS X 29 p1) < 4 then
              .inl ((nI (xSz X 29 p1.toNatClampNeg + 1)), (s_line X S p1.toNatClampNeg p2 p3 p4))
            else
            .inr "java/lang/IllegalStateException"
          else
          .inr "java/lang/IllegalStateException"
        else
        .inr "java/lang/IllegalArgumentException"
      else
      .inr "java/lang/IllegalArgumentException"
    else
    .inr "java/lang/IndexOutOfBoundsException"
abbrev rma_line : Room := { frames := 8, cells := 2, slots := 79, locals := 240 }
set_option maxRecDepth 100000 in
set_option maxHeartbeats 4000000 in
theorem ck_line {l : Launch} {k : KC} (hl : l.stackTraces = false) {X : CX} {S : CT} (hX : XOK X) (hL : LVX X) (hT : TS X S) {p1 : Int32} {p2 : Int32} {p3 : Int32} {p4 : Int32} (hz : narrow .boolean (.int p2) = .int p2 ∧ fits .boolean (.int p2) = true)  : MC l k yX10_line (.code yX10_line cX10_line 6 (some .int)) rma_line [(vr X 11 0), .int p1, .int p2, .int p3, .int p4] (cW k X S) (pAi k X S (y_line X p1.toNatClampNeg p2 p3 p4) 29 p1.toNatClampNeg (k_line p1 p2 p3 p4 X S)) := by
  refine MC.of 1 hl (by decide) (by simp only [lg_sl_vr, lg_sl_i, lg_sl_l, lg_sl_0]; exact Nat.le_of_ble_eq_true rfl) ?_
  intro p e s m args below meth c A Q G B B2 hout
  simp only [lp_args_vr, lp_args_i, lp_args_l, lp_args_0]
  show Wx p l e rma_line s m args below meth c k A 6 Q 2 79 0 [some ((vr X 11 0)), some (.int p1), some (.int p2), some (.int p3), some (.int p4), none] [] (cW k X S)
  refine z_aload0 (pc := 0) G vr_r dX10_line_0 ?_
  refine x_iload1 (pc := 1) G dX10_line_1 ?_
  rcases Decidable.em (¬ (P_num p1 (nS X 24 0))) with c1 | c1
  · exact z_cVt1 (pc := 2) G kb_11 hX.1 hX.l11 B B2 hout (no_requestAt hl hX  c1) rfl q_ml_X10_204 h_X10_requestAt ⟨Nat.le_of_ble_eq_true rfl, Nat.le_of_ble_eq_true rfl⟩ (Nat.le_of_ble_eq_true rfl) (Nat.le_refl _) (Nat.le_refl _) dX10_line_2 (by rw [k_line, if_neg c1]; exact ⟨rfl, rfl⟩)
  have c1 := Decidable.not_not.mp c1
  refine z_cV1 (pc := 2) G kb_11 hX.1 hX.l11 (ok_requestAt hl hX  c1) rfl q_ml_X10_204 h_X10_requestAt ⟨Nat.le_of_ble_eq_true rfl, Nat.le_of_ble_eq_true rfl⟩ (Nat.le_of_ble_eq_true rfl) (Nat.le_refl _) (Nat.le_refl _) dX10_line_2 ?_
  refine z_astore5 (pc := 5) G vr_r dX10_line_5 (Nat.le_of_ble_eq_true rfl) rfl ?_
  refine x_iload3 (pc := 7) G dX10_line_7 ?_
  refine x_iconst (pc := 8) (v := 1) G dX10_line_8 ic_1 ?_
  refine x_bipush (pc := 9) (v := 99) G dX10_line_9 bp_99 ?_
  rcases Decidable.em (¬ (P_in p3 1 99)) with c2 | c2
  · exact x_cSt3 (pc := 11) G B B2 hout (no_requireRange hl c2) q_ml_X10_92 h_X10_requireRange ⟨Nat.le_of_ble_eq_true rfl, Nat.le_of_ble_eq_true rfl⟩ (Nat.le_of_ble_eq_true rfl) (Nat.le_refl _) (Nat.le_refl _) dX10_line_11 (by rw [k_line, if_pos c1, if_neg c2]; exact ⟨rfl, rfl⟩)
  have c2 := Decidable.not_not.mp c2
  refine x_cSv3 (pc := 11) G (ok_requireRange hl c2) q_ml_X10_92 h_X10_requireRange ⟨Nat.le_of_ble_eq_true rfl, Nat.le_of_ble_eq_true rfl⟩ (Nat.le_of_ble_eq_true rfl) (Nat.le_refl _) (Nat.le_refl _) dX10_line_11 ?_
  refine x_iload4 (pc := 14) G dX10_line_14 ?_
  refine x_iconst (pc := 16) (v := 1) G dX10_line_16 ic_1 ?_
  refine x_ldc (pc := 17) G q_cs_X10_208 dX10_line_17 ?_
  rcases Decidable.em (¬ (P_in p4 1 100000)) with c3 | c3
  · exact x_cSt3 (pc := 19) G B B2 hout (no_requireRange hl c3) q_ml_X10_92 h_X10_requireRange ⟨Nat.le_of_ble_eq_true rfl, Nat.le_of_ble_eq_true rfl⟩ (Nat.le_of_ble_eq_true rfl) (Nat.le_refl _) (Nat.le_refl _) dX10_line_19 (by rw [k_line, if_pos c1, if_pos c2, if_neg c3]; exact ⟨rfl, rfl⟩)
  have c3 := Decidable.not_not.mp c3
  refine x_cSv3 (pc := 19) G (ok_requireRange hl c3) q_ml_X10_92 h_X10_requireRange ⟨Nat.le_of_ble_eq_true rfl, Nat.le_of_ble_eq_true rfl⟩ (Nat.le_of_ble_eq_true rfl) (Nat.le_refl _) (Nat.le_refl _) dX10_line_19 ?_
  refine z_aload5 (pc := 22) G vr_r dX10_line_22 ?_
  refine z_g (pc := 24) (f := 259) (x := p1) (v := (.int (ci S 259 p1))) G kb_8 gb_X10_209 rfl hX.1 (hX.el24 c1) cr_259 dX10_line_24 ?_
  refine x_if_ne (pc := 27) (y := 0) (tgt := 42) G dX10_line_27 rfl (fun c4 => ?_) (fun c4 => ?_)
  · exact z_ISE (pc := 42) G B B2 hout (is := 215) (text := "it is no DRAFT, or has 4 lines") (by decide +kernel) dX10_line_42 dX10_line_45 (Or.inl ⟨dX10_line_46, dX10_line_48, dX10_line_51⟩) ⟨Nat.le_of_ble_eq_true rfl, Nat.le_of_ble_eq_true rfl⟩ (Nat.le_of_ble_eq_true rfl) (Nat.le_of_ble_eq_true rfl) (by rw [k_line, if_pos c1, if_pos c2, if_pos c3, if_neg c4]; exact ⟨rfl, rfl⟩)
  refine z_aload5 (pc := 30) G vr_r dX10_line_30 ?_
  refine z_g (pc := 32) (f := 258) (x := p1) (v := (aR X 29 p1)) G kb_8 gb_X10_212 rfl hX.1 (hX.el24 c1) cr_258 dX10_line_32 ?_
  refine z_size (pc := 35) (Li := 29) (x := p1) G hX.1 (hX.lw29 (hX.el24 c1)) q_ml_X10_96 ⟨Nat.le_of_ble_eq_true rfl, Nat.le_of_ble_eq_true rfl⟩ (Nat.le_of_ble_eq_true rfl) dX10_line_35 ?_
  refine x_iconst (pc := 38) (v := 4) G dX10_line_38 ic_4 ?_
  refine x_icmp_lt (pc := 39) (tgt := 52) G dX10_line_39 rfl (fun c5 => ?_) (fun c5 => ?_)
  · refine z_aload5 (pc := 52) G vr_r dX10_line_52 ?_
    refine z_g (pc := 54) (f := 258) (x := p1) (v := (aR X 29 p1)) G kb_8 gb_X10_212 rfl hX.1 (hX.el24 c1) cr_258 dX10_line_54 ?_
    have hlt : xSz X 29 p1.toNatClampNeg < 4 := (nI_ltI (a := xSz X 29 p1.toNatClampNeg) (b := 4) (by have h9 := hL.2.2.2.2 p1.toNatClampNeg ((hL.1 8 _).mp (hX.el24 c1).lv); omega) (by decide)).mp c5
    have hp0 : lI X 8 p1 := hX.el24 c1
    have hr : p1.toNatClampNeg < xSz X 24 0 := (hL.1 8 _).mp hp0.lv
    have hb9 := hL.2.2.1
    refine  x_new (pc := 57) (ci := 4) (N := 6) (C := RX3) (T := TX3) (fs := [.int 0, .int 0, .int 0, .int 0, .int 0, .int 0]) (bc1 := 1) (bs1 := 73) G i_X3 tyX3 tyX3_ok q_cl_X10_217 q_it_X3 q_in_X3 rfl (by decide) (Nat.le_of_ble_eq_true rfl) (Nat.le_of_ble_eq_true rfl) dX10_line_57 (fun q hq => ?_)
    refine  x_dup (pc := 60) G dX10_line_60 rfl ?_
    refine  x_iload2 (pc := 61) G dX10_line_61 ?_
    refine  x_iload3 (pc := 62) G dX10_line_62 ?_
    refine  x_iload4 (pc := 63) G dX10_line_63 ?_
    refine  x_callI (bc1 := 1) (bs1 := 73) (pc := 65) (n := 3) (As := [.int p2, .int p3, .int p4]) (st := [.ref q, (aR X 29 p1)]) G (in_Line hl (List.mem_append_right _ List.mem_cons_self) hz) q_ml_X10_219 q_im_yX3_init q_in_X3 q_co_yX3_init rfl ⟨by decide +kernel, by decide +kernel, by decide +kernel⟩ ⟨Nat.le_of_ble_eq_true rfl, Nat.le_of_ble_eq_true rfl⟩ (by simp only [List.map_cons, List.map_nil, vr_cat]; exact Nat.le_of_ble_eq_true rfl) (Nat.le_refl _) (Nat.le_refl _) rfl rfl dX10_line_65 (fun v9 h9 hp => ?_)
    obtain ⟨e1, rfl⟩ := hp
    cases e1
    obtain ⟨X1, E1, hK1, hT1, hA1, hN1, hv1, ev, hI1, ha1, hf1, hm1⟩ := al_line (r := p1.toNatClampNeg) (p2 := p2) (p3 := p3) (p4 := p4) hX hL hT hr hlt hq
    rw [E1]
    rw [ev, show aR X 29 p1 = aR X1 29 p1 from congrArg Value.ref (ha1 _ _ (by decide)).symm]
    refine  z_add (pc := 68) (Li := 29) (kd := 4) (x := p1) (z := nI (4 * p1.toNatClampNeg + xSz X 29 p1.toNatClampNeg)) (bc1 := 0) (bs1 := 0) G hA1 hI1 ⟨rfl, by decide⟩ (by rw [nI_clamp (by omega)]; show 4 * _ + xSz X1 29 _ = _; rw [hf1.2.2]) rfl (by decide +kernel) q_ml_X10_75 ⟨Nat.le_of_ble_eq_true rfl, Nat.le_of_ble_eq_true rfl⟩ (Nat.le_of_ble_eq_true rfl) (Nat.le_of_ble_eq_true rfl) (Nat.le_of_ble_eq_true rfl) dX10_line_68 (fun X2 hA2 => ?_)
    refine  x_pop (pc := 71) G dX10_line_71 rfl ?_
    have hN2 := hN1 X2 hA2
    have hX2 := hN2.1
    have hs2 : nS X2 29 p1 = nI (xSz X 29 p1.toNatClampNeg + 1) := nS_AD hA2 rfl (congrFun (congrFun hf1.2.2 29) _)
    rw [show vr X 11 0 = vr X2 11 0 from ((vr_AD hA2 (by decide)).trans (hv1 _ _ (by decide))).symm]
    have hp8 : lI X2 8 p1 := lI_mono (fun _ _ z => (hA2.2.2.2.2.2.2.1 _ _).mpr (Or.inl (hm1 _ _ z))) hp0
    rw [show vr X 8 p1 = vr X2 8 p1 from ((vr_AD hA2 (by decide)).trans (hv1 _ _ (by decide))).symm]
    refine  z_aload5 (pc := 72) G vr_r dX10_line_72 ?_
    refine  z_g (pc := 74) (f := 258) (x := p1) (v := (aR X2 29 p1)) G kb_8 gb_X10_212 rfl hX2.1 hp8 cr_258 dX10_line_74 ?_
    refine  z_size (pc := 77) (Li := 29) (x := p1) G hX2.1 (hX2.lw29 hp8) q_ml_X10_96 ⟨Nat.le_of_ble_eq_true rfl, Nat.le_of_ble_eq_true rfl⟩ (Nat.le_of_ble_eq_true rfl) dX10_line_77 ?_
    exact  x_iret (pc := 80) G B rfl dX10_line_80 (by rw [k_line, if_pos c1, if_pos c2, if_pos c3, if_pos c4, if_pos c5]; exact ⟨by rw [hs2], X2, hN2, rfl⟩)
  exact z_ISE (pc := 42) G B B2 hout (is := 215) (text := "it is no DRAFT, or has 4 lines") (by decide +kernel) dX10_line_42 dX10_line_45 (Or.inl ⟨dX10_line_46, dX10_line_48, dX10_line_51⟩) ⟨Nat.le_of_ble_eq_true rfl, Nat.le_of_ble_eq_true rfl⟩ (Nat.le_of_ble_eq_true rfl) (Nat.le_of_ble_eq_true rfl) (by rw [k_line, if_pos c1, if_pos c2, if_pos c3, if_pos c4, if_neg c5]; exact ⟨rfl, rfl⟩)
