theorem dX10_request_0 : decode cX10_request 0 = .ok (.aload_n 0, 1) := by decide +kernel
theorem dX10_request_1 : decode cX10_request 1 = .ok (.iload_n 1, 1) := by decide +kernel
theorem dX10_request_2 : decode cX10_request 2 = .ok (.invokevirtual 87, 3) := by decide +kernel
theorem dX10_request_5 : decode cX10_request 5 = .ok (.astore_n 3, 1) := by decide +kernel
theorem dX10_request_6 : decode cX10_request 6 = .ok (.aload_n 0, 1) := by decide +kernel
theorem dX10_request_7 : decode cX10_request 7 = .ok (.iload_n 2, 1) := by decide +kernel
theorem dX10_request_8 : decode cX10_request 8 = .ok (.invokevirtual 144, 3) := by decide +kernel
theorem dX10_request_11 : decode cX10_request 11 = .ok (.astore 4, 2) := by decide +kernel
theorem dX10_request_13 : decode cX10_request 13 = .ok (.aload_n 0, 1) := by decide +kernel
theorem dX10_request_14 : decode cX10_request 14 = .ok (.getfield 25, 3) := by decide +kernel
theorem dX10_request_17 : decode cX10_request 17 = .ok (.invokevirtual 96, 3) := by decide +kernel
theorem dX10_request_20 : decode cX10_request 20 = .ok (.bipush 40, 2) := by decide +kernel
theorem dX10_request_22 : decode cX10_request 22 = .ok (.if_icmp .lt 13, 3) := by decide +kernel
theorem dX10_request_25 : decode cX10_request 25 = .ok (.new 100, 3) := by decide +kernel
theorem dX10_request_28 : decode cX10_request 28 = .ok (.dup, 1) := by decide +kernel
theorem dX10_request_29 : decode cX10_request 29 = .ok (.ldc 197, 2) := by decide +kernel
theorem dX10_request_31 : decode cX10_request 31 = .ok (.invokespecial 104, 3) := by decide +kernel
theorem dX10_request_34 : decode cX10_request 34 = .ok (.athrow, 1) := by decide +kernel
theorem dX10_request_35 : decode cX10_request 35 = .ok (.aload_n 0, 1) := by decide +kernel
theorem dX10_request_36 : decode cX10_request 36 = .ok (.getfield 25, 3) := by decide +kernel
theorem dX10_request_39 : decode cX10_request 39 = .ok (.new 199, 3) := by decide +kernel
theorem dX10_request_42 : decode cX10_request 42 = .ok (.dup, 1) := by decide +kernel
theorem dX10_request_43 : decode cX10_request 43 = .ok (.aload_n 3, 1) := by decide +kernel
theorem dX10_request_44 : decode cX10_request 44 = .ok (.aload 4, 2) := by decide +kernel
theorem dX10_request_46 : decode cX10_request 46 = .ok (.invokespecial 201, 3) := by decide +kernel
theorem dX10_request_49 : decode cX10_request 49 = .ok (.invokevirtual 75, 3) := by decide +kernel
theorem dX10_request_52 : decode cX10_request 52 = .ok (.pop, 1) := by decide +kernel
theorem dX10_request_53 : decode cX10_request 53 = .ok (.aload_n 0, 1) := by decide +kernel
theorem dX10_request_54 : decode cX10_request 54 = .ok (.getfield 25, 3) := by decide +kernel
theorem dX10_request_57 : decode cX10_request 57 = .ok (.invokevirtual 96, 3) := by decide +kernel
theorem dX10_request_60 : decode cX10_request 60 = .ok (.iconst 1, 1) := by decide +kernel
theorem dX10_request_61 : decode cX10_request 61 = .ok (.isub, 1) := by decide +kernel
theorem dX10_request_62 : decode cX10_request 62 = .ok (.ireturn, 1) := by decide +kernel
def k_request (p1 : Int32) (p2 : Int32) (X : CX) (S : CT) : (Int32 × CT) ⊕ String :=
    if P_num p1 (nS X 20 0) then
      if P_num p2 (nS X 21 0) then
        if (nS X 24 0) < 40 then
          .inl ((nI (xSz X 24 0 + 1)) - 1, (s_request X S))
        else
        .inr "java/lang/IllegalStateException"
      else
      .inr "java/lang/IndexOutOfBoundsException"
    else
    .inr "java/lang/IndexOutOfBoundsException"
abbrev rma_request : Room := { frames := 8, cells := 3, slots := 86, locals := 240 }
set_option maxRecDepth 100000 in
set_option maxHeartbeats 4000000 in
theorem ck_request {l : Launch} {k : KC} (hl : l.stackTraces = false) {X : CX} {S : CT} (hX : XOK X) (hL : LVX X) (hT : TS X S) {p1 : Int32} {p2 : Int32}  : MC l k yX10_request (.code yX10_request cX10_request 5 (some .int)) rma_request [(vr X 11 0), .int p1, .int p2] (cW k X S) (pAi k X S (y_request X p1 p2) 24 0 (k_request p1 p2 X S)) := by
  refine MC.of 2 hl (by decide) (by simp only [lg_sl_vr, lg_sl_i, lg_sl_l, lg_sl_0]; exact Nat.le_of_ble_eq_true rfl) ?_
  intro p e s m args below meth c A Q G B B2 hout
  simp only [lp_args_vr, lp_args_i, lp_args_l, lp_args_0]
  show Wx p l e rma_request s m args below meth c k A 5 Q 3 86 0 [some ((vr X 11 0)), some (.int p1), some (.int p2), none, none] [] (cW k X S)
  refine z_aload0 (pc := 0) G vr_r dX10_request_0 ?_
  refine x_iload1 (pc := 1) G dX10_request_1 ?_
  rcases Decidable.em (¬ (P_num p1 (nS X 20 0))) with c1 | c1
  · exact z_cVt1 (pc := 2) G kb_11 hX.1 hX.l11 B B2 hout (no_personAt hl hX  c1) rfl q_ml_X10_87 h_X10_personAt ⟨Nat.le_of_ble_eq_true rfl, Nat.le_of_ble_eq_true rfl⟩ (Nat.le_of_ble_eq_true rfl) (Nat.le_refl _) (Nat.le_refl _) dX10_request_2 (by rw [k_request, if_neg c1]; exact ⟨rfl, rfl⟩)
  have c1 := Decidable.not_not.mp c1
  refine z_cV1 (pc := 2) G kb_11 hX.1 hX.l11 (ok_personAt hl hX  c1) rfl q_ml_X10_87 h_X10_personAt ⟨Nat.le_of_ble_eq_true rfl, Nat.le_of_ble_eq_true rfl⟩ (Nat.le_of_ble_eq_true rfl) (Nat.le_refl _) (Nat.le_refl _) dX10_request_2 ?_
  refine z_astore3 (pc := 5) G vr_r dX10_request_5 (Nat.le_of_ble_eq_true rfl) rfl ?_
  refine z_aload0 (pc := 6) G vr_r dX10_request_6 ?_
  refine x_iload2 (pc := 7) G dX10_request_7 ?_
  rcases Decidable.em (¬ (P_num p2 (nS X 21 0))) with c2 | c2
  · exact z_cVt1 (pc := 8) G kb_11 hX.1 hX.l11 B B2 hout (no_centreAt hl hX  c2) rfl q_ml_X10_144 h_X10_centreAt ⟨Nat.le_of_ble_eq_true rfl, Nat.le_of_ble_eq_true rfl⟩ (Nat.le_of_ble_eq_true rfl) (Nat.le_refl _) (Nat.le_refl _) dX10_request_8 (by rw [k_request, if_pos c1, if_neg c2]; exact ⟨rfl, rfl⟩)
  have c2 := Decidable.not_not.mp c2
  refine z_cV1 (pc := 8) G kb_11 hX.1 hX.l11 (ok_centreAt hl hX  c2) rfl q_ml_X10_144 h_X10_centreAt ⟨Nat.le_of_ble_eq_true rfl, Nat.le_of_ble_eq_true rfl⟩ (Nat.le_of_ble_eq_true rfl) (Nat.le_refl _) (Nat.le_refl _) dX10_request_8 ?_
  refine z_astore4 (pc := 11) G vr_r dX10_request_11 (Nat.le_of_ble_eq_true rfl) lp_c2_vr ?_
  refine z_aload0 (pc := 13) G vr_r dX10_request_13 ?_
  refine z_g (pc := 14) (f := 356) (x := 0) (v := (aR X 24 0)) G kb_11 gb_X10_25 rfl hX.1 hX.l11 cr_356 dX10_request_14 ?_
  refine z_size (pc := 17) (Li := 24) (x := 0) G hX.1 hX.lw24 q_ml_X10_96 ⟨Nat.le_of_ble_eq_true rfl, Nat.le_of_ble_eq_true rfl⟩ (Nat.le_of_ble_eq_true rfl) dX10_request_17 ?_
  refine x_bipush (pc := 20) (v := 40) G dX10_request_20 bp_40 ?_
  refine x_icmp_lt (pc := 22) (tgt := 35) G dX10_request_22 rfl (fun c3 => ?_) (fun c3 => ?_)
  · refine z_aload0 (pc := 35) G vr_r dX10_request_35 ?_
    refine z_g (pc := 36) (f := 356) (x := 0) (v := (aR X 24 0)) G kb_11 gb_X10_25 rfl hX.1 hX.l11 cr_356 dX10_request_36 ?_
    have hlt : xSz X 24 0 < 40 := (nI_ltI (a := xSz X 24 0) (b := 40) (by have := hL.2.2.1; omega) (by decide)).mp c3
    refine  x_new (pc := 39) (ci := 8) (N := 10) (C := RX7) (T := TX7) (fs := [.null, .null, .null, .int 0, .int 0, .long 0, .null, .null, .null, .long 0]) (bc1 := 2) (bs1 := 76) G i_X7 tyX7 tyX7_ok q_cl_X10_199 q_it_X7 q_in_X7 rfl (by decide) (Nat.le_of_ble_eq_true rfl) (Nat.le_of_ble_eq_true rfl) dX10_request_39 (fun b hb => ?_)
    refine  x_dup (pc := 42) G dX10_request_42 rfl ?_
    refine  z_aload3 (pc := 43) G vr_r dX10_request_43 ?_
    refine  z_aload4 (pc := 44) G vr_r dX10_request_44 ?_
    refine  x_callI (bc1 := 1) (bs1 := 73) (pc := 46) (n := 2) (As := [(vr X 6 p1), (vr X 1 p2)]) (st := [.ref b, (aR X 24 0)]) G (in_Request hl (List.mem_append_right _ List.mem_cons_self) vr_r vr_r) q_ml_X10_201 q_im_yX7_init q_in_X7 q_co_yX7_init rfl ⟨by decide +kernel, by decide +kernel, by decide +kernel⟩ ⟨Nat.le_of_ble_eq_true rfl, Nat.le_of_ble_eq_true rfl⟩ (by simp only [List.map_cons, List.map_nil, vr_cat]; exact Nat.le_of_ble_eq_true rfl) (Nat.le_refl _) (Nat.le_refl _) rfl rfl dX10_request_46 (fun v9 h9 hp => ?_)
    obtain ⟨q, hq2, e1, rfl⟩ := hp
    cases e1
    obtain ⟨X1, E1, hK1, hT1, hA1, hN1, hv0, ev, hI1, ha0, hs1⟩ := al_request (p1 := p1) (p2 := p2) hX hL hT (hX.el20 c1) (hX.el21 c2) hlt hb hq2
    have hv1 : ∀ t x, (t < 20 ∧ t ≠ 8) → vr X1 t x = vr X t x := fun t x h => hv0 t x h.1 h.2
    have ha1 : ∀ L i, (20 ≤ L ∧ L ≠ 29) → xAd X1 L i = xAd X L i := fun L i h => ha0 L i h.1 h.2
    rw [E1]
    rw [ev, show aR X 24 0 = aR X1 24 0 from congrArg Value.ref (ha1 _ _ (by decide)).symm]
    refine  z_add (pc := 49) (Li := 24) (kd := 8) (x := 0) (z := nI (xSz X 24 0)) (bc1 := 0) (bs1 := 0) G hA1 hI1 ⟨rfl, by decide⟩ ((if_pos (by decide)).trans (by rw [nI_clamp (by omega)]; exact hs1)) rfl (by decide +kernel) q_ml_X10_75 ⟨Nat.le_of_ble_eq_true rfl, Nat.le_of_ble_eq_true rfl⟩ (Nat.le_of_ble_eq_true rfl) (Nat.le_of_ble_eq_true rfl) (Nat.le_of_ble_eq_true rfl) dX10_request_49 (fun X2 hA2 => ?_)
    refine  x_pop (pc := 52) G dX10_request_52 rfl ?_
    have hN2 := hN1 X2 hA2
    have hX2 := hN2.1
    have hs2 : nS X2 24 0 = nI (xSz X 24 0 + 1) := nS_AD hA2 rfl hs1
    rw [show vr X 11 0 = vr X2 11 0 from ((vr_AD hA2 (by decide)).trans (hv1 _ _ (by decide))).symm]
    refine  z_aload0 (pc := 53) G vr_r dX10_request_53 ?_
    refine  z_g (pc := 54) (f := 356) (x := 0) (v := (aR X2 24 0)) G kb_11 gb_X10_25 rfl hX2.1 hX2.l11 cr_356 dX10_request_54 ?_
    refine  z_size (pc := 57) (Li := 24) (x := 0) G hX2.1 hX2.lw24 q_ml_X10_96 ⟨Nat.le_of_ble_eq_true rfl, Nat.le_of_ble_eq_true rfl⟩ (Nat.le_of_ble_eq_true rfl) dX10_request_57 ?_
    refine  x_iconst (pc := 60) (v := 1) G dX10_request_60 ic_1 ?_
    refine  x_isub (pc := 61) G dX10_request_61 ?_
    exact  x_iret (pc := 62) G B rfl dX10_request_62 (by rw [k_request, if_pos c1, if_pos c2, if_pos c3]; exact ⟨by rw [hs2], X2, hN2, rfl⟩)
  exact z_ISE (pc := 25) G B B2 hout (is := 197) (text := "there are 40 requests") (by decide +kernel) dX10_request_25 dX10_request_28 (Or.inl ⟨dX10_request_29, dX10_request_31, dX10_request_34⟩) ⟨Nat.le_of_ble_eq_true rfl, Nat.le_of_ble_eq_true rfl⟩ (Nat.le_of_ble_eq_true rfl) (Nat.le_of_ble_eq_true rfl) (by rw [k_request, if_pos c1, if_pos c2, if_neg c3]; exact ⟨rfl, rfl⟩)
theorem LVX_29 {X Y X2 : CX} {S S1 : CT} {q r : Nat} {e : va_E} (h : LVX X) (hX : HX X) (hq : q ∉ xAs X) (hD : DE X S Y S1 4 (4 * r + xSz X 29 r)) (hr : r < xSz X 24 0) (hs : xSz X 29 r < 4) (hA : AD (obX Y 4 (4 * r + xSz X 29 r) q e) X2 29 r) : LVX X2 := by
  obtain ⟨h1, h2, h3, h4, h5⟩ := h
  obtain ⟨a1, -, a3, a4, a5, ⟨a6, a6'⟩, a7, -⟩ := hA
  have e1 : xSz (obX Y 4 (4 * r + xSz X 29 r) q e) = xSz X := hD.2.1.1
  have e2 : xCp (obX Y 4 (4 * r + xSz X 29 r) q e) = xCp X := hD.2.1.2.1
  rw [e1] at a4 a6
  have hne : ∀ L j, ¬ (L = 29 ∧ j = r) → xSz X2 L j = xSz X L j := fun L j z => by rw [a4]; exact if_neg z
  have hnc : ∀ L j, ¬ (L = 29 ∧ j = r) → xCp X2 L j = xCp X L j := fun L j z => by rw [a5 L j z, e2]
  have hsz : xSz X2 29 r = xSz X 29 r + 1 := by rw [a4]; exact if_pos ⟨rfl, rfl⟩
  have hc0 : xCp X2 29 r ≠ 0 := by omega
  have h24 : xSz X2 24 0 = xSz X 24 0 := hne 24 0 (by omega)
  have hlv : ∀ k i, lv X2 k i ↔ (lvb X k i ∨ (k = 4 ∧ i = 4 * r + xSz X 29 r)) ∨ (k = 39 ∧ i = r) := fun k i => by rw [a7, lv_ob hX hq hD.1, h1]
  refine ⟨fun k i => ?_, fun L i g1 g2 g3 => ?_, ?_, fun i hi => ?_, fun i hi => ?_⟩
  · rw [hlv]
    unfold lvb
    rw [h24]
    split
    · omega
    · rw [hne 27 0 (by omega)]; omega
    · rw [hne 25 0 (by omega)]; omega
    · by_cases z : i / 4 = r
      · rw [z, hsz]; omega
      · rw [hne 29 _ (by omega)]; omega
    · omega
    · rw [hne 20 0 (by omega)]; omega
    · omega
    · omega
    · omega
    · rw [hne 26 0 (by omega)]; omega
    · omega
    · omega
    · omega
    · omega
    · omega
    · omega
    · omega
    · omega
    · omega
    · omega
    · omega
    · rw [hnc 20 i (by omega)]; omega
    · rw [hnc 21 i (by omega)]; omega
    · rw [hnc 22 i (by omega)]; omega
    · rw [hnc 23 i (by omega)]; omega
    · rw [hnc 24 i (by omega)]; omega
    · rw [hnc 25 i (by omega)]; omega
    · rw [hnc 26 i (by omega)]; omega
    · rw [hnc 27 i (by omega)]; omega
    · rw [hnc 28 i (by omega)]; omega
    · by_cases z : i = r
      · rw [z]; constructor
        · exact fun _ => ⟨by omega, hc0⟩
        · exact fun _ => Or.inr ⟨rfl, rfl⟩
      · rw [hnc 29 i (by omega)]; omega
    · omega
    · omega
    · rename_i z1 z2 z3 z4 z5 z6 z7 z8 z9 z10 z11 z12 z13 z14 z15 z16 z17 z18 z19 z20 z21 z22 z23 z24 z25 z26 z27 z28 z29 z30 z31 z32 z33
      constructor
      · rintro ((z | z) | z)
        · exact z
        · exact z4 z.1
        · exact z31 z.1
      · exact fun z => z.elim
  · by_cases z : L = 29 ∧ i = r
    · rw [z.1, z.2]; exact a6'
    · rw [hnc L i z]
      refine h2 L i g1 g2 ((h1 L i).mpr ?_)
      rcases (hlv L i).mp g3 with (q | q) | q
      · exact q
      · omega
      · omega
  · rw [hne 20 0 (by omega), hne 21 0 (by omega), hne 22 0 (by omega), hne 23 0 (by omega), hne 24 0 (by omega), hne 25 0 (by omega), hne 26 0 (by omega), hne 27 0 (by omega)]; omega
  · rw [hne 28 i (by omega)]; exact h4 i hi
  · rw [h24] at hi
    by_cases y : i = r
    · rw [y, hsz]; omega
    · rw [hne 29 i (by omega)]; exact h5 i hi
def y_line (X : CX) (r : Nat) (p2 p3 p4 : Int32) : CX := (fiX (fiX X 128 (4 * r + xSz X 29 r) p2) 129 (4 * r + xSz X 29 r) p4)
def s_line (X : CX) (S : CT) (r : Nat) (p2 p3 p4 : Int32) : CT := (si (si (si (si S 130 (nI (4 * r + xSz X 29 r)) p3) 131 (nI (4 * r + xSz X 29 r)) 0) 132 (nI (4 * r + xSz X 29 r)) 0) 133 (nI (4 * r + xSz X 29 r)) 0)
theorem al_line {k : KC} {X : CX} {S : CT} (hX : XOK X) (hL : LVX X) (hT : TS X S) {r : Nat} {p2 p3 p4 : Int32} (hr : r < xSz X 24 0) (hlt : xSz X 29 r < 4) {q : Nat} (hq : q ∉ (cW k X S).1) : ∃ X1, ((cW k X S).1 ++ [q], va_up (cW k X S).2 q (.inr (4, [.int p2, .int p4, .int p3, .int 0, .int 0, .int 0]))) = cW k X1 (s_line X S r p2 p3 p4) ∧ XOK X1 ∧ TS X1 (s_line X S r p2 p3 p4) ∧ LA X1 29 r ∧ (∀ X2, AD X1 X2 29 r → NX (y_line X r p2 p3 p4) X2 29 r) ∧ (∀ t x, t ≠ 4 → vr X1 t x = vr X t x) ∧ Value.ref q = vr X1 4 (nI (4 * r + xSz X 29 r)) ∧ lI X1 4 (nI (4 * r + xSz X 29 r)) ∧ (∀ L i, 20 ≤ L → xAd X1 L i = xAd X L i) ∧ (xFi X1 = xFi (y_line X r p2 p3 p4) ∧ xFj X1 = xFj (y_line X r p2 p3 p4) ∧ xSz X1 = xSz X) ∧ ∀ k' i, lv X1 k' i ↔ lv X k' i ∨ (k' = 4 ∧ i = (4 * r + xSz X 29 r)) := by
  have hb := hL.2.2.1
  have hn31 : (4 * r + xSz X 29 r) < 2 ^ 31 := by omega
  have hd : dead X 4 (4 * r + xSz X 29 r) := dead.of hX.1 fun z => by
    have h8 : (4 * r + xSz X 29 r) / 4 < xSz X 24 0 ∧ (4 * r + xSz X 29 r) % 4 < xSz X 29 ((4 * r + xSz X 29 r) / 4) := (hL.1 4 _).mp z
    rw [show (4 * r + xSz X 29 r) / 4 = r by omega, show (4 * r + xSz X 29 r) % 4 = xSz X 29 r by omega] at h8
    omega
  have hD : DE X S (fiX (fiX X 128 (4 * r + xSz X 29 r) p2) 129 (4 * r + xSz X 29 r) p4) (si (si (si (si S 130 (nI (4 * r + xSz X 29 r)) p3) 131 (nI (4 * r + xSz X 29 r)) 0) 132 (nI (4 * r + xSz X 29 r)) 0) 133 (nI (4 * r + xSz X 29 r)) 0) 4 (4 * r + xSz X 29 r) := (DE.si (DE.si (DE.si (DE.si (DE.fi (DE.fi DE.refl (by decide)) (by decide)) (by decide) hn31) (by decide) hn31) (by decide) hn31) (by decide) hn31)
  obtain ⟨E1, HX1⟩ := cW_obj (k := k) (e := (.inr (4, [.int p2, .int p4, .int p3, .int 0, .int 0, .int 0]))) hX.1 (RO_of hX hL hT) (EA_of hX hL) (by decide) hq hd hD (by
    show Sum.inr (4, [.int p2, .int p4, .int p3, .int 0, .int 0, .int 0]) = Sum.inr (4, [cR (adX (fiX (fiX X 128 (4 * r + xSz X 29 r) p2) 129 (4 * r + xSz X 29 r) p4) 4 (4 * r + xSz X 29 r) q) (si (si (si (si S 130 (nI (4 * r + xSz X 29 r)) p3) 131 (nI (4 * r + xSz X 29 r)) 0) 132 (nI (4 * r + xSz X 29 r)) 0) 133 (nI (4 * r + xSz X 29 r)) 0) 128 (4 * r + xSz X 29 r), cR (adX (fiX (fiX X 128 (4 * r + xSz X 29 r) p2) 129 (4 * r + xSz X 29 r) p4) 4 (4 * r + xSz X 29 r) q) (si (si (si (si S 130 (nI (4 * r + xSz X 29 r)) p3) 131 (nI (4 * r + xSz X 29 r)) 0) 132 (nI (4 * r + xSz X 29 r)) 0) 133 (nI (4 * r + xSz X 29 r)) 0) 129 (4 * r + xSz X 29 r), cR (adX (fiX (fiX X 128 (4 * r + xSz X 29 r) p2) 129 (4 * r + xSz X 29 r) p4) 4 (4 * r + xSz X 29 r) q) (si (si (si (si S 130 (nI (4 * r + xSz X 29 r)) p3) 131 (nI (4 * r + xSz X 29 r)) 0) 132 (nI (4 * r + xSz X 29 r)) 0) 133 (nI (4 * r + xSz X 29 r)) 0) 130 (4 * r + xSz X 29 r), cR (adX (fiX (fiX X 128 (4 * r + xSz X 29 r) p2) 129 (4 * r + xSz X 29 r) p4) 4 (4 * r + xSz X 29 r) q) (si (si (si (si S 130 (nI (4 * r + xSz X 29 r)) p3) 131 (nI (4 * r + xSz X 29 r)) 0) 132 (nI (4 * r + xSz X 29 r)) 0) 133 (nI (4 * r + xSz X 29 r)) 0) 131 (4 * r + xSz X 29 r), cR (adX (fiX (fiX X 128 (4 * r + xSz X 29 r) p2) 129 (4 * r + xSz X 29 r) p4) 4 (4 * r + xSz X 29 r) q) (si (si (si (si S 130 (nI (4 * r + xSz X 29 r)) p3) 131 (nI (4 * r + xSz X 29 r)) 0) 132 (nI (4 * r + xSz X 29 r)) 0) 133 (nI (4 * r + xSz X 29 r)) 0) 132 (4 * r + xSz X 29 r), cR (adX (fiX (fiX X 128 (4 * r + xSz X 29 r) p2) 129 (4 * r + xSz X 29 r) p4) 4 (4 * r + xSz X 29 r) q) (si (si (si (si S 130 (nI (4 * r + xSz X 29 r)) p3) 131 (nI (4 * r + xSz X 29 r)) 0) 132 (nI (4 * r + xSz X 29 r)) 0) 133 (nI (4 * r + xSz X 29 r)) 0) 133 (4 * r + xSz X 29 r)])
    rw [show cR (adX (fiX (fiX X 128 (4 * r + xSz X 29 r) p2) 129 (4 * r + xSz X 29 r) p4) 4 (4 * r + xSz X 29 r) q) (si (si (si (si S 130 (nI (4 * r + xSz X 29 r)) p3) 131 (nI (4 * r + xSz X 29 r)) 0) 132 (nI (4 * r + xSz X 29 r)) 0) 133 (nI (4 * r + xSz X 29 r)) 0) 128 (4 * r + xSz X 29 r) = .int p2 from (congrArg Value.int (fi_a.trans ((fi_sn rfl).trans fi_ss))), show cR (adX (fiX (fiX X 128 (4 * r + xSz X 29 r) p2) 129 (4 * r + xSz X 29 r) p4) 4 (4 * r + xSz X 29 r) q) (si (si (si (si S 130 (nI (4 * r + xSz X 29 r)) p3) 131 (nI (4 * r + xSz X 29 r)) 0) 132 (nI (4 * r + xSz X 29 r)) 0) 133 (nI (4 * r + xSz X 29 r)) 0) 129 (4 * r + xSz X 29 r) = .int p4 from (congrArg Value.int (fi_a.trans fi_ss)), show cR (adX (fiX (fiX X 128 (4 * r + xSz X 29 r) p2) 129 (4 * r + xSz X 29 r) p4) 4 (4 * r + xSz X 29 r) q) (si (si (si (si S 130 (nI (4 * r + xSz X 29 r)) p3) 131 (nI (4 * r + xSz X 29 r)) 0) 132 (nI (4 * r + xSz X 29 r)) 0) 133 (nI (4 * r + xSz X 29 r)) 0) 130 (4 * r + xSz X 29 r) = .int p3 from (congrArg Value.int ((si_an rfl).trans ((si_an rfl).trans ((si_an rfl).trans (si_at hn31))))), show cR (adX (fiX (fiX X 128 (4 * r + xSz X 29 r) p2) 129 (4 * r + xSz X 29 r) p4) 4 (4 * r + xSz X 29 r) q) (si (si (si (si S 130 (nI (4 * r + xSz X 29 r)) p3) 131 (nI (4 * r + xSz X 29 r)) 0) 132 (nI (4 * r + xSz X 29 r)) 0) 133 (nI (4 * r + xSz X 29 r)) 0) 131 (4 * r + xSz X 29 r) = .int 0 from (congrArg Value.int ((si_an rfl).trans ((si_an rfl).trans (si_at hn31)))), show cR (adX (fiX (fiX X 128 (4 * r + xSz X 29 r) p2) 129 (4 * r + xSz X 29 r) p4) 4 (4 * r + xSz X 29 r) q) (si (si (si (si S 130 (nI (4 * r + xSz X 29 r)) p3) 131 (nI (4 * r + xSz X 29 r)) 0) 132 (nI (4 * r + xSz X 29 r)) 0) 133 (nI (4 * r + xSz X 29 r)) 0) 132 (4 * r + xSz X 29 r) = .int 0 from (congrArg Value.int ((si_an rfl).trans (si_at hn31))), show cR (adX (fiX (fiX X 128 (4 * r + xSz X 29 r) p2) 129 (4 * r + xSz X 29 r) p4) 4 (4 * r + xSz X 29 r) q) (si (si (si (si S 130 (nI (4 * r + xSz X 29 r)) p3) 131 (nI (4 * r + xSz X 29 r)) 0) 132 (nI (4 * r + xSz X 29 r)) 0) 133 (nI (4 * r + xSz X 29 r)) 0) 133 (4 * r + xSz X 29 r) = .int 0 from (congrArg Value.int (si_at hn31))])
  have hK1 := XOK_ob (e := (.inr (4, [.int p2, .int p4, .int p3, .int 0, .int 0, .int 0]))) hX hq hd hD ⟨by decide, by decide⟩ (by omega) HX1 (fun z => absurd z (by decide)) (fun z => absurd z (by decide)) (fun z => absurd z (by decide)) (fun z => absurd z (by decide))
  have hT1 := TS_ob (e := (.inr (4, [.int p2, .int p4, .int p3, .int 0, .int 0, .int 0]))) hT hX hq hd hD (by decide) (by omega) (fun z => absurd z (by decide)) (fun z => absurd z (by decide))
  have hA1 := LA_ob (e := (.inr (4, [.int p2, .int p4, .int p3, .int 0, .int 0, .int 0]))) (LA_of hX hL (by decide) (by decide) ((hL.1 29 r).mpr hr) (by omega)) hq hD (by decide) HX1
  have hme : lv (obX (fiX (fiX X 128 (4 * r + xSz X 29 r) p2) 129 (4 * r + xSz X 29 r) p4) 4 (4 * r + xSz X 29 r) q (.inr (4, [.int p2, .int p4, .int p3, .int 0, .int 0, .int 0]))) 4 (4 * r + xSz X 29 r) := ob_me hX.1 hq hD
  have hlI : lI (obX (fiX (fiX X 128 (4 * r + xSz X 29 r) p2) 129 (4 * r + xSz X 29 r) p4) 4 (4 * r + xSz X 29 r) q (.inr (4, [.int p2, .int p4, .int p3, .int 0, .int 0, .int 0]))) 4 (nI (4 * r + xSz X 29 r)) := ⟨_, by omega, rfl, hme⟩
  refine ⟨_, E1, hK1, hT1, hA1, fun X2 hA2 => ⟨XOK.ad hK1 hA2 hA1.2.2.1 ⟨?_, ?_⟩, LVX_29 hL hX.1 hq hD hr hlt hA2, hA2.2.1.1, hA2.2.1.2, hA2.2.2.2.1, (hA2.2.2.1 11 0 (by omega)).trans (ad_ne (fun z => by omega))⟩, fun t x ht => vr_an ht, ?_, hlI, fun L i h20 => ad_ne (fun z => by omega), ⟨rfl, rfl, rfl⟩, fun k' i => lv_ob hX.1 hq hD.1⟩
  · show 4 * r + xSz X 29 r < 2 ^ 30
    omega
  · exact hme
  · rw [hlI.vr, nI_clamp hn31]
    exact congrArg Value.ref ad_ad.symm
theorem dX10_line_0 : decode cX10_line 0 = .ok (.aload_n 0, 1) := by decide +kernel
theorem dX10_line_1 : decode cX10_line 1 = .ok (.iload_n 1, 1) := by decide +kernel
theorem dX10_line_2 : decode cX10_line 2 = .ok (.invokevirtual 204, 3) := by decide +kernel
theorem dX10_line_5 : decode cX10_line 5 = .ok (.astore 5, 2) := by decide +kernel
theorem dX10_line_7 : decode cX10_line 7 = .ok (.iload_n 3, 1) := by decide +kernel
theorem dX10_line_8 : decode cX10_line 8 = .ok (.iconst 1, 1) := by decide +kernel
theorem dX10_line_9 : decode cX10_line 9 = .ok (.bipush 99, 2) := by decide +kernel
theorem dX10_line_11 : decode cX10_line 11 = .ok (.invokestatic 92, 3) := by decide +kernel
theorem dX10_line_14 : decode cX10_line 14 = .ok (.iload 4, 2) := by decide +kernel
theorem dX10_line_16 : decode cX10_line 16 = .ok (.iconst 1, 1) := by decide +kernel
theorem dX10_line_17 : decode cX10_line 17 = .ok (.ldc 208, 2) := by decide +kernel
theorem dX10_line_19 : decode cX10_line 19 = .ok (.invokestatic 92, 3) := by decide +kernel
theorem dX10_line_22 : decode cX10_line 22 = .ok (.aload 5, 2) := by decide +kernel
theorem dX10_line_24 : decode cX10_line 24 = .ok (.getfield 209, 3) := by decide +kernel
theorem dX10_line_27 : decode cX10_line 27 = .ok (.ifCond .ne 15, 3) := by decide +kernel
theorem dX10_line_30 : decode cX10_line 30 = .ok (.aload 5, 2) := by decide +kernel
theorem dX10_line_32 : decode cX10_line 32 = .ok (.getfield 212, 3) := by decide +kernel
theorem dX10_line_35 : decode cX10_line 35 = .ok (.invokevirtual 96, 3) := by decide +kernel
theorem dX10_line_38 : decode cX10_line 38 = .ok (.iconst 4, 1) := by decide +kernel
theorem dX10_line_39 : decode cX10_line 39 = .ok (.if_icmp .lt 13, 3) := by decide +kernel
theorem dX10_line_42 : decode cX10_line 42 = .ok (.new 100, 3) := by decide +kernel
theorem dX10_line_45 : decode cX10_line 45 = .ok (.dup, 1) := by decide +kernel
theorem dX10_line_46 : decode cX10_line 46 = .ok (.ldc 215, 2) := by decide +kernel
theorem dX10_line_48 : decode cX10_line 48 = .ok (.invokespecial 104, 3) := by decide +kernel
theorem dX10_line_51 : decode cX10_line 51 = .ok (.athrow, 1) := by decide +kernel
theorem dX10_line_52 : decode cX10_line 52 = .ok (.aload 5, 2) := by decide +kernel
theorem dX10_line_54 : decode cX10_line 54 = .ok (.getfield 212, 3) := by decide +kernel
theorem dX10_line_57 : decode cX10_line 57 = .ok (.new 217, 3) := by decide +kernel
theorem dX10_line_60 : decode cX10_line 60 = .ok (.dup, 1) := by decide +kernel
theorem dX10_line_61 : decode cX10_line 61 = .ok (.iload_n 2, 1) := by decide +kernel
theorem dX10_line_62 : decode cX10_line 62 = .ok (.iload_n 3, 1) := by decide +kernel
theorem dX10_line_63 : decode cX10_line 63 = .ok (.iload 4, 2) := by decide +kernel
theorem dX10_line_65 : decode cX10_line 65 = .ok (.invokespecial 219, 3) := by decide +kernel
theorem dX10_line_68 : decode cX10_line 68 = .ok (.invokevirtual 75, 3) := by decide +kernel
theorem dX10_line_71 : decode cX10_line 71 = .ok (.pop, 1) := by decide +kernel
theorem dX10_line_72 : decode cX10_line 72 = .ok (.aload 5, 2) := by decide +kernel
theorem dX10_line_74 : decode cX10_line 74 = .ok (.getfield 212, 3) := by decide +kernel
theorem dX10_line_77 : decode cX10_line 77 = .ok (.invokevirtual 96, 3) := by decide +kernel
theorem dX10_line_80 : decode cX10_line 80 = .ok (.ireturn, 1) := by decide +kernel
def k_line (p1 : Int32) (p2 : Int32) (p3 : Int32) (p4 : Int32) (X : CX) (S : CT) : (Int32 × CT) ⊕ String :=
    if P_num p1 (nS X 24 0) then
      if P_in p3 1 99 then
        if P_in p4 1 100000 then
          if (ci S 259 p1) = 0 then
            if (nS X 29 p1) < 4 then
              .inl ((nI (xSz X 29 p1.toNatClampNeg + 1)), (s_line X S p1.toNatClampNeg p2 p3 p4))
            else
            .inr "java/lang/IllegalStateException"
          else
          .inr "java/lang/IllegalStateException"
        else
        .inr "java/lang/IllegalArgumentException"
      else
      .inr "java/lang/IllegalArgumentException"
    else
    .inr "java/lang/IndexOutOfBoundsException"
abbrev rma_line : Room := { frames := 8, cells := 2, slots := 79, locals := 240 }
set_option maxRecDepth 100000 in
set_option maxHeartbeats 4000000 in
theorem ck_line {l : Launch} {k : KC} (hl : l.stackTraces = false) {X : CX} {S : CT} (hX : XOK X) (hL : LVX X) (hT : TS X S) {p1 : Int32} {p2 : Int32} {p3 : Int32} {p4 : Int32} (hz : narrow .boolean (.int p2) = .int p2 ∧ fits .boolean (.int p2) = true)  : MC l k yX10_line (.code yX10_line cX10_line 6 (some .int)) rma_line [(vr X 11 0), .int p1, .int p2, .int p3, .int p4] (cW k X S) (pAi k X S (y_line X p1.toNatClampNeg p2 p3 p4) 29 p1.toNatClampNeg (k_line p1 p2 p3 p4 X S)) := by
  refine MC.of 1 hl (by decide) (by simp only [lg_sl_vr, lg_sl_i, lg_sl_l, lg_sl_0]; exact Nat.le_of_ble_eq_true rfl) ?_
  intro p e s m args below meth c A Q G B B2 hout
  simp only [lp_args_vr, lp_args_i, lp_args_l, lp_args_0]
  show Wx p l e rma_line s m args below meth c k A 6 Q 2 79 0 [some ((vr X 11 0)), some (.int p1), some (.int p2), some (.int p3), some (.int p4), none] [] (cW k X S)
  refine z_aload0 (pc := 0) G vr_r dX10_line_0 ?_
  refine x_iload1 (pc := 1) G dX10_line_1 ?_
  rcases Decidable.em (¬ (P_num p1 (nS X 24 0))) with c1 | c1
  · exact z_cVt1 (pc := 2) G kb_11 hX.1 hX.l11 B B2 hout (no_requestAt hl hX  c1) rfl q_ml_X10_204 h_X10_requestAt ⟨Nat.le_of_ble_eq_true rfl, Nat.le_of_ble_eq_true rfl⟩ (Nat.le_of_ble_eq_true rfl) (Nat.le_refl _) (Nat.le_refl _) dX10_line_2 (by rw [k_line, if_neg c1]; exact ⟨rfl, rfl⟩)
  have c1 := Decidable.not_not.mp c1
  refine z_cV1 (pc := 2) G kb_11 hX.1 hX.l11 (ok_requestAt hl hX  c1) rfl q_ml_X10_204 h_X10_requestAt ⟨Nat.le_of_ble_eq_true rfl, Nat.le_of_ble_eq_true rfl⟩ (Nat.le_of_ble_eq_true rfl) (Nat.le_refl _) (Nat.le_refl _) dX10_line_2 ?_
  refine z_astore5 (pc := 5) G vr_r dX10_line_5 (Nat.le_of_ble_eq_true rfl) rfl ?_
  refine x_iload3 (pc := 7) G dX10_line_7 ?_
  refine x_iconst (pc := 8) (v := 1) G dX10_line_8 ic_1 ?_
  refine x_bipush (pc := 9) (v := 99) G dX10_line_9 bp_99 ?_
  rcases Decidable.em (¬ (P_in p3 1 99)) with c2 | c2
  · exact x_cSt3 (pc := 11) G B B2 hout (no_requireRange hl c2) q_ml_X10_92 h_X10_requireRange ⟨Nat.le_of_ble_eq_true rfl, Nat.le_of_ble_eq_true rfl⟩ (Nat.le_of_ble_eq_true rfl) (Nat.le_refl _) (Nat.le_refl _) dX10_line_11 (by rw [k_line, if_pos c1, if_neg c2]; exact ⟨rfl, rfl⟩)
  have c2 := Decidable.not_not.mp c2
  refine x_cSv3 (pc := 11) G (ok_requireRange hl c2) q_ml_X10_92 h_X10_requireRange ⟨Nat.le_of_ble_eq_true rfl, Nat.le_of_ble_eq_true rfl⟩ (Nat.le_of_ble_eq_true rfl) (Nat.le_refl _) (Nat.le_refl _) dX10_line_11 ?_
  refine x_iload4 (pc := 14) G dX10_line_14 ?_
  refine x_iconst (pc := 16) (v := 1) G dX10_line_16 ic_1 ?_
  refine x_ldc (pc := 17) G q_cs_X10_208 dX10_line_17 ?_
  rcases Decidable.em (¬ (P_in p4 1 100000)) with c3 | c3
  · exact x_cSt3 (pc := 19) G B B2 hout (no_requireRange hl c3) q_ml_X10_92 h_X10_requireRange ⟨Nat.le_of_ble_eq_true rfl, Nat.le_of_ble_eq_true rfl⟩ (Nat.le_of_ble_eq_true rfl) (Nat.le_refl _) (Nat.le_refl _) dX10_line_19 (by rw [k_line, if_pos c1, if_pos c2, if_neg c3]; exact ⟨rfl, rfl⟩)
  have c3 := Decidable.not_not.mp c3
  refine x_cSv3 (pc := 19) G (ok_requireRange hl c3) q_ml_X10_92 h_X10_requireRange ⟨Nat.le_of_ble_eq_true rfl, Nat.le_of_ble_eq_true rfl⟩ (Nat.le_of_ble_eq_true rfl) (Nat.le_refl _) (Nat.le_refl _) dX10_line_19 ?_
  refine z_aload5 (pc := 22) G vr_r dX10_line_22 ?_
  refine z_g (pc := 24) (f := 259) (x := p1) (v := (.int (ci S 259 p1))) G kb_8 gb_X10_209 rfl hX.1 (hX.el24 c1) cr_259 dX10_line_24 ?_
  refine x_if_ne (pc := 27) (y := 0) (tgt := 42) G dX10_line_27 rfl (fun c4 => ?_) (fun c4 => ?_)
  · exact z_ISE (pc := 42) G B B2 hout (is := 215) (text := "it is no DRAFT, or has 4 lines") (by decide +kernel) dX10_line_42 dX10_line_45 (Or.inl ⟨dX10_line_46, dX10_line_48, dX10_line_51⟩) ⟨Nat.le_of_ble_eq_true rfl, Nat.le_of_ble_eq_true rfl⟩ (Nat.le_of_ble_eq_true rfl) (Nat.le_of_ble_eq_true rfl) (by rw [k_line, if_pos c1, if_pos c2, if_pos c3, if_neg c4]; exact ⟨rfl, rfl⟩)
  refine z_aload5 (pc := 30) G vr_r dX10_line_30 ?_
  refine z_g (pc := 32) (f := 258) (x := p1) (v := (aR X 29 p1)) G kb_8 gb_X10_212 rfl hX.1 (hX.el24 c1) cr_258 dX10_line_32 ?_
  refine z_size (pc := 35) (Li := 29) (x := p1) G hX.1 (hX.lw29 (hX.el24 c1)) q_ml_X10_96 ⟨Nat.le_of_ble_eq_true rfl, Nat.le_of_ble_eq_true rfl⟩ (Nat.le_of_ble_eq_true rfl) dX10_line_35 ?_
  refine x_iconst (pc := 38) (v := 4) G dX10_line_38 ic_4 ?_
  refine x_icmp_lt (pc := 39) (tgt := 52) G dX10_line_39 rfl (fun c5 => ?_) (fun c5 => ?_)
  · refine z_aload5 (pc := 52) G vr_r dX10_line_52 ?_
    refine z_g (pc := 54) (f := 258) (x := p1) (v := (aR X 29 p1)) G kb_8 gb_X10_212 rfl hX.1 (hX.el24 c1) cr_258 dX10_line_54 ?_
    have hlt : xSz X 29 p1.toNatClampNeg < 4 := (nI_ltI (a := xSz X 29 p1.toNatClampNeg) (b := 4) (by have h9 := hL.2.2.2.2 p1.toNatClampNeg ((hL.1 8 _).mp (hX.el24 c1).lv); omega) (by decide)).mp c5
    have hp0 : lI X 8 p1 := hX.el24 c1
    have hr : p1.toNatClampNeg < xSz X 24 0 := (hL.1 8 _).mp hp0.lv
    have hb9 := hL.2.2.1
    refine  x_new (pc := 57) (ci := 4) (N := 6) (C := RX3) (T := TX3) (fs := [.int 0, .int 0, .int 0, .int 0, .int 0, .int 0]) (bc1 := 1) (bs1 := 73) G i_X3 tyX3 tyX3_ok q_cl_X10_217 q_it_X3 q_in_X3 rfl (by decide) (Nat.le_of_ble_eq_true rfl) (Nat.le_of_ble_eq_true rfl) dX10_line_57 (fun q hq => ?_)
    refine  x_dup (pc := 60) G dX10_line_60 rfl ?_
    refine  x_iload2 (pc := 61) G dX10_line_61 ?_
    refine  x_iload3 (pc := 62) G dX10_line_62 ?_
    refine  x_iload4 (pc := 63) G dX10_line_63 ?_
    refine  x_callI (bc1 := 1) (bs1 := 73) (pc := 65) (n := 3) (As := [.int p2, .int p3, .int p4]) (st := [.ref q, (aR X 29 p1)]) G (in_Line hl (List.mem_append_right _ List.mem_cons_self) hz) q_ml_X10_219 q_im_yX3_init q_in_X3 q_co_yX3_init rfl ⟨by decide +kernel, by decide +kernel, by decide +kernel⟩ ⟨Nat.le_of_ble_eq_true rfl, Nat.le_of_ble_eq_true rfl⟩ (by simp only [List.map_cons, List.map_nil, vr_cat]; exact Nat.le_of_ble_eq_true rfl) (Nat.le_refl _) (Nat.le_refl _) rfl rfl dX10_line_65 (fun v9 h9 hp => ?_)
    obtain ⟨e1, rfl⟩ := hp
    cases e1
    obtain ⟨X1, E1, hK1, hT1, hA1, hN1, hv1, ev, hI1, ha1, hf1, hm1⟩ := al_line (r := p1.toNatClampNeg) (p2 := p2) (p3 := p3) (p4 := p4) hX hL hT hr hlt hq
    rw [E1]
    rw [ev, show aR X 29 p1 = aR X1 29 p1 from congrArg Value.ref (ha1 _ _ (by decide)).symm]
    refine  z_add (pc := 68) (Li := 29) (kd := 4) (x := p1) (z := nI (4 * p1.toNatClampNeg + xSz X 29 p1.toNatClampNeg)) (bc1 := 0) (bs1 := 0) G hA1 hI1 ⟨rfl, by decide⟩ (by rw [nI_clamp (by omega)]; show 4 * _ + xSz X1 29 _ = _; rw [hf1.2.2]) rfl (by decide +kernel) q_ml_X10_75 ⟨Nat.le_of_ble_eq_true rfl, Nat.le_of_ble_eq_true rfl⟩ (Nat.le_of_ble_eq_true rfl) (Nat.le_of_ble_eq_true rfl) (Nat.le_of_ble_eq_true rfl) dX10_line_68 (fun X2 hA2 => ?_)
    refine  x_pop (pc := 71) G dX10_line_71 rfl ?_
    have hN2 := hN1 X2 hA2
    have hX2 := hN2.1
    have hs2 : nS X2 29 p1 = nI (xSz X 29 p1.toNatClampNeg + 1) := nS_AD hA2 rfl (congrFun (congrFun hf1.2.2 29) _)
    rw [show vr X 11 0 = vr X2 11 0 from ((vr_AD hA2 (by decide)).trans (hv1 _ _ (by decide))).symm]
    have hp8 : lI X2 8 p1 := lI_mono (fun _ _ z => (hA2.2.2.2.2.2.2.1 _ _).mpr (Or.inl ((hm1 _ _).mpr (Or.inl z)))) hp0
    rw [show vr X 8 p1 = vr X2 8 p1 from ((vr_AD hA2 (by decide)).trans (hv1 _ _ (by decide))).symm]
    refine  z_aload5 (pc := 72) G vr_r dX10_line_72 ?_
    refine  z_g (pc := 74) (f := 258) (x := p1) (v := (aR X2 29 p1)) G kb_8 gb_X10_212 rfl hX2.1 hp8 cr_258 dX10_line_74 ?_
    refine  z_size (pc := 77) (Li := 29) (x := p1) G hX2.1 (hX2.lw29 hp8) q_ml_X10_96 ⟨Nat.le_of_ble_eq_true rfl, Nat.le_of_ble_eq_true rfl⟩ (Nat.le_of_ble_eq_true rfl) dX10_line_77 ?_
    exact  x_iret (pc := 80) G B rfl dX10_line_80 (by rw [k_line, if_pos c1, if_pos c2, if_pos c3, if_pos c4, if_pos c5]; exact ⟨by rw [hs2], X2, hN2, rfl⟩)
  exact z_ISE (pc := 42) G B B2 hout (is := 215) (text := "it is no DRAFT, or has 4 lines") (by decide +kernel) dX10_line_42 dX10_line_45 (Or.inl ⟨dX10_line_46, dX10_line_48, dX10_line_51⟩) ⟨Nat.le_of_ble_eq_true rfl, Nat.le_of_ble_eq_true rfl⟩ (Nat.le_of_ble_eq_true rfl) (Nat.le_of_ble_eq_true rfl) (by rw [k_line, if_pos c1, if_pos c2, if_pos c3, if_pos c4, if_neg c5]; exact ⟨rfl, rfl⟩)
theorem iv_sup {k : KC} {X : CX} {S : CT} (hX : XOK X) (hT : TS X S) {s : Int32} (hs : lI X 9 s) : xAd X 9 s.toNatClampNeg ∈ (cW k X S).1 ∧ (cW k X S).2 (xAd X 9 s.toNatClampNeg) = .inr (9, cF X S 9 s.toNatClampNeg) ∧ (cF X S 9 s.toNatClampNeg)[1]? = some (.ref (xAd X 5 (ci S 289 s).toNatClampNeg)) ∧ xAd X 5 (ci S 289 s).toNatClampNeg ∈ (cW k X S).1 ∧ (cW k X S).2 (xAd X 5 (ci S 289 s).toNatClampNeg) = .inr (5, [.int (ci S 160 (ci S 289 s))]) := by
  have h1 := cW_in (k := k) (S := S) hX.1 hs.lv
  have hm := hT.mon hs
  have h2 := cW_in (k := k) (S := S) hX.1 hm.lv
  refine ⟨h1.1, ?_, ?_, h2.1, ?_⟩
  · rw [h1.2]; unfold cE; rw [if_pos (by decide)]
  · rw [cF_get (by decide)]
    exact congrArg some hm.vr
  · rw [h2.2]; unfold cE; rw [if_pos (by decide)]; rfl
theorem bu_cg {X Y : CX} {S : CT} {v : Int32} (h1 : xFi X = xFi Y) (h2 : xFj X = xFj Y) : k_bookUnlessHeld v X S = k_bookUnlessHeld v Y S := by
  obtain ⟨x1, x2, x3, x4, x5, x6, x7, x8, x9⟩ := X
  obtain ⟨y1, y2, y3, y4, y5, y6, y7, y8, y9⟩ := Y
  have e1 : x5 = y5 := h1
  have e2 : x6 = y6 := h2
  subst e1
  subst e2
  rfl
theorem LC_of {X X2 : CX} {S S2 : CT} (hC : LC X S) (h1 : ∀ x, lI X2 1 x → lI X 1 x) (hn : ∀ x, nS X2 28 x = nS X 28 x) (h8 : ∀ r, lI X2 8 r → lI X 8 r) (hxi : ∀ r, xi X2 257 r = xi X 257 r) (h60 : ∀ r, ci S2 260 r = ci S 260 r) (h61 : ∀ r, cj S2 261 r = cj S 261 r) (hd : ci S2 363 0 = ci S 363 0) : LC X2 S2 := by
  refine ⟨fun x hx => ?_, fun r hr q => ?_⟩
  · rw [hn]
    have h9 := hC.1 x (h1 x hx)
    unfold k_thisYear at h9 ⊢
    rw [hd]
    exact h9
  · rw [h60, hxi, hn]
    rw [h61] at q
    exact hC.2 r (h8 r hr) q
def y_invoice (X : CX) (p1 p2 p3 p4 p5 : Int32) (p6 : Int64) : CX := (fjX (fiX (fiX (fiX (fiX (fiX X 96 (xSz X 25 0) p1) 97 (xSz X 25 0) p2) 98 (xSz X 25 0) p3) 99 (xSz X 25 0) p4) 100 (xSz X 25 0) p5) 101 (xSz X 25 0) p6)
def s_invoice (X : CX) (S : CT) (p1 p2 p3 p4 p5 : Int32) (p6 : Int64) : CT := (sj (sj (si (si (si (sj (sj (sj (si (si (si (si S 102 (nI (xSz X 25 0)) 0) 103 (nI (xSz X 25 0)) 0) 104 (nI (xSz X 25 0)) 1) 105 (nI (xSz X 25 0)) 0) 106 (nI (xSz X 25 0)) 0) 107 (nI (xSz X 25 0)) 0) 108 (nI (xSz X 25 0)) 0) 109 (nI (xSz X 25 0)) (-1)) 110 (nI (xSz X 25 0)) (-1)) 111 (nI (xSz X 25 0)) 0) 112 (nI (xSz X 25 0)) 0) 113 (nI (xSz X 25 0)) 0)
theorem al_invoice {k : KC} {X : CX} {S : CT} (hX : XOK X) (hL : LVX X) (hT : TS X S) {p1 p2 p3 p4 p5 : Int32} {p6 : Int64} (h8 : lI X 8 p1) (h4 : lI X 4 p2) (h9 : lI X 9 p3) (hlt : xSz X 25 0 < 60) {q : Nat} (hq : q ∉ (cW k X S).1) : ∃ X1, ((cW k X S).1 ++ [q], va_up (cW k X S).2 q (.inr (3, [vr X 8 p1, vr X 4 p2, vr X 9 p3, .int p4, .int p5, .long p6, .int 0, .int 0, .int 1, .int 0, .long 0, .long 0, .long 0, .int (-1), .int (-1), .int 0, .long 0, .long 0]))) = cW k X1 (s_invoice X S p1 p2 p3 p4 p5 p6) ∧ XOK X1 ∧ TS X1 (s_invoice X S p1 p2 p3 p4 p5 p6) ∧ LA X1 25 0 ∧ (∀ X2, AD X1 X2 25 0 → NX (y_invoice X p1 p2 p3 p4 p5 p6) X2 25 0) ∧ (∀ t x, t ≠ 3 → vr X1 t x = vr X t x) ∧ Value.ref q = vr X1 3 (nI (xSz X 25 0)) ∧ lI X1 3 (nI (xSz X 25 0)) ∧ (∀ L i, 20 ≤ L → xAd X1 L i = xAd X L i) ∧ (xFi X1 = xFi (y_invoice X p1 p2 p3 p4 p5 p6) ∧ xFj X1 = xFj (y_invoice X p1 p2 p3 p4 p5 p6) ∧ xSz X1 = xSz X) ∧ ∀ k' i, lv X1 k' i ↔ lv X k' i ∨ (k' = 3 ∧ i = (xSz X 25 0)) := by
  have hb := hL.2.2.1
  have hn31 : (xSz X 25 0) < 2 ^ 31 := by omega
  have hd : dead X 3 (xSz X 25 0) := dead.of hX.1 fun z => by
    have h9 : (xSz X 25 0) < (xSz X 25 0) := (hL.1 3 (xSz X 25 0)).mp z
    omega
  have hD : DE X S (fjX (fiX (fiX (fiX (fiX (fiX X 96 (xSz X 25 0) p1) 97 (xSz X 25 0) p2) 98 (xSz X 25 0) p3) 99 (xSz X 25 0) p4) 100 (xSz X 25 0) p5) 101 (xSz X 25 0) p6) (sj (sj (si (si (si (sj (sj (sj (si (si (si (si S 102 (nI (xSz X 25 0)) 0) 103 (nI (xSz X 25 0)) 0) 104 (nI (xSz X 25 0)) 1) 105 (nI (xSz X 25 0)) 0) 106 (nI (xSz X 25 0)) 0) 107 (nI (xSz X 25 0)) 0) 108 (nI (xSz X 25 0)) 0) 109 (nI (xSz X 25 0)) (-1)) 110 (nI (xSz X 25 0)) (-1)) 111 (nI (xSz X 25 0)) 0) 112 (nI (xSz X 25 0)) 0) 113 (nI (xSz X 25 0)) 0) 3 (xSz X 25 0) := (DE.sj (DE.sj (DE.si (DE.si (DE.si (DE.sj (DE.sj (DE.sj (DE.si (DE.si (DE.si (DE.si (DE.fj (DE.fi (DE.fi (DE.fi (DE.fi (DE.fi DE.refl (by decide)) (by decide)) (by decide)) (by decide)) (by decide)) (by decide)) (by decide) hn31) (by decide) hn31) (by decide) hn31) (by decide) hn31) (by decide) hn31) (by decide) hn31) (by decide) hn31) (by decide) hn31) (by decide) hn31) (by decide) hn31) (by decide) hn31) (by decide) hn31)
  obtain ⟨E1, HX1⟩ := cW_obj (k := k) (e := (.inr (3, [vr X 8 p1, vr X 4 p2, vr X 9 p3, .int p4, .int p5, .long p6, .int 0, .int 0, .int 1, .int 0, .long 0, .long 0, .long 0, .int (-1), .int (-1), .int 0, .long 0, .long 0]))) hX.1 (RO_of hX hL hT) (EA_of hX hL) (by decide) hq hd hD (by
    show Sum.inr (3, [vr X 8 p1, vr X 4 p2, vr X 9 p3, .int p4, .int p5, .long p6, .int 0, .int 0, .int 1, .int 0, .long 0, .long 0, .long 0, .int (-1), .int (-1), .int 0, .long 0, .long 0]) = Sum.inr (3, [cR (adX (fjX (fiX (fiX (fiX (fiX (fiX X 96 (xSz X 25 0) p1) 97 (xSz X 25 0) p2) 98 (xSz X 25 0) p3) 99 (xSz X 25 0) p4) 100 (xSz X 25 0) p5) 101 (xSz X 25 0) p6) 3 (xSz X 25 0) q) (sj (sj (si (si (si (sj (sj (sj (si (si (si (si S 102 (nI (xSz X 25 0)) 0) 103 (nI (xSz X 25 0)) 0) 104 (nI (xSz X 25 0)) 1) 105 (nI (xSz X 25 0)) 0) 106 (nI (xSz X 25 0)) 0) 107 (nI (xSz X 25 0)) 0) 108 (nI (xSz X 25 0)) 0) 109 (nI (xSz X 25 0)) (-1)) 110 (nI (xSz X 25 0)) (-1)) 111 (nI (xSz X 25 0)) 0) 112 (nI (xSz X 25 0)) 0) 113 (nI (xSz X 25 0)) 0) 96 (xSz X 25 0), cR (adX (fjX (fiX (fiX (fiX (fiX (fiX X 96 (xSz X 25 0) p1) 97 (xSz X 25 0) p2) 98 (xSz X 25 0) p3) 99 (xSz X 25 0) p4) 100 (xSz X 25 0) p5) 101 (xSz X 25 0) p6) 3 (xSz X 25 0) q) (sj (sj (si (si (si (sj (sj (sj (si (si (si (si S 102 (nI (xSz X 25 0)) 0) 103 (nI (xSz X 25 0)) 0) 104 (nI (xSz X 25 0)) 1) 105 (nI (xSz X 25 0)) 0) 106 (nI (xSz X 25 0)) 0) 107 (nI (xSz X 25 0)) 0) 108 (nI (xSz X 25 0)) 0) 109 (nI (xSz X 25 0)) (-1)) 110 (nI (xSz X 25 0)) (-1)) 111 (nI (xSz X 25 0)) 0) 112 (nI (xSz X 25 0)) 0) 113 (nI (xSz X 25 0)) 0) 97 (xSz X 25 0), cR (adX (fjX (fiX (fiX (fiX (fiX (fiX X 96 (xSz X 25 0) p1) 97 (xSz X 25 0) p2) 98 (xSz X 25 0) p3) 99 (xSz X 25 0) p4) 100 (xSz X 25 0) p5) 101 (xSz X 25 0) p6) 3 (xSz X 25 0) q) (sj (sj (si (si (si (sj (sj (sj (si (si (si (si S 102 (nI (xSz X 25 0)) 0) 103 (nI (xSz X 25 0)) 0) 104 (nI (xSz X 25 0)) 1) 105 (nI (xSz X 25 0)) 0) 106 (nI (xSz X 25 0)) 0) 107 (nI (xSz X 25 0)) 0) 108 (nI (xSz X 25 0)) 0) 109 (nI (xSz X 25 0)) (-1)) 110 (nI (xSz X 25 0)) (-1)) 111 (nI (xSz X 25 0)) 0) 112 (nI (xSz X 25 0)) 0) 113 (nI (xSz X 25 0)) 0) 98 (xSz X 25 0), cR (adX (fjX (fiX (fiX (fiX (fiX (fiX X 96 (xSz X 25 0) p1) 97 (xSz X 25 0) p2) 98 (xSz X 25 0) p3) 99 (xSz X 25 0) p4) 100 (xSz X 25 0) p5) 101 (xSz X 25 0) p6) 3 (xSz X 25 0) q) (sj (sj (si (si (si (sj (sj (sj (si (si (si (si S 102 (nI (xSz X 25 0)) 0) 103 (nI (xSz X 25 0)) 0) 104 (nI (xSz X 25 0)) 1) 105 (nI (xSz X 25 0)) 0) 106 (nI (xSz X 25 0)) 0) 107 (nI (xSz X 25 0)) 0) 108 (nI (xSz X 25 0)) 0) 109 (nI (xSz X 25 0)) (-1)) 110 (nI (xSz X 25 0)) (-1)) 111 (nI (xSz X 25 0)) 0) 112 (nI (xSz X 25 0)) 0) 113 (nI (xSz X 25 0)) 0) 99 (xSz X 25 0), cR (adX (fjX (fiX (fiX (fiX (fiX (fiX X 96 (xSz X 25 0) p1) 97 (xSz X 25 0) p2) 98 (xSz X 25 0) p3) 99 (xSz X 25 0) p4) 100 (xSz X 25 0) p5) 101 (xSz X 25 0) p6) 3 (xSz X 25 0) q) (sj (sj (si (si (si (sj (sj (sj (si (si (si (si S 102 (nI (xSz X 25 0)) 0) 103 (nI (xSz X 25 0)) 0) 104 (nI (xSz X 25 0)) 1) 105 (nI (xSz X 25 0)) 0) 106 (nI (xSz X 25 0)) 0) 107 (nI (xSz X 25 0)) 0) 108 (nI (xSz X 25 0)) 0) 109 (nI (xSz X 25 0)) (-1)) 110 (nI (xSz X 25 0)) (-1)) 111 (nI (xSz X 25 0)) 0) 112 (nI (xSz X 25 0)) 0) 113 (nI (xSz X 25 0)) 0) 100 (xSz X 25 0), cR (adX (fjX (fiX (fiX (fiX (fiX (fiX X 96 (xSz X 25 0) p1) 97 (xSz X 25 0) p2) 98 (xSz X 25 0) p3) 99 (xSz X 25 0) p4) 100 (xSz X 25 0) p5) 101 (xSz X 25 0) p6) 3 (xSz X 25 0) q) (sj (sj (si (si (si (sj (sj (sj (si (si (si (si S 102 (nI (xSz X 25 0)) 0) 103 (nI (xSz X 25 0)) 0) 104 (nI (xSz X 25 0)) 1) 105 (nI (xSz X 25 0)) 0) 106 (nI (xSz X 25 0)) 0) 107 (nI (xSz X 25 0)) 0) 108 (nI (xSz X 25 0)) 0) 109 (nI (xSz X 25 0)) (-1)) 110 (nI (xSz X 25 0)) (-1)) 111 (nI (xSz X 25 0)) 0) 112 (nI (xSz X 25 0)) 0) 113 (nI (xSz X 25 0)) 0) 101 (xSz X 25 0), cR (adX (fjX (fiX (fiX (fiX (fiX (fiX X 96 (xSz X 25 0) p1) 97 (xSz X 25 0) p2) 98 (xSz X 25 0) p3) 99 (xSz X 25 0) p4) 100 (xSz X 25 0) p5) 101 (xSz X 25 0) p6) 3 (xSz X 25 0) q) (sj (sj (si (si (si (sj (sj (sj (si (si (si (si S 102 (nI (xSz X 25 0)) 0) 103 (nI (xSz X 25 0)) 0) 104 (nI (xSz X 25 0)) 1) 105 (nI (xSz X 25 0)) 0) 106 (nI (xSz X 25 0)) 0) 107 (nI (xSz X 25 0)) 0) 108 (nI (xSz X 25 0)) 0) 109 (nI (xSz X 25 0)) (-1)) 110 (nI (xSz X 25 0)) (-1)) 111 (nI (xSz X 25 0)) 0) 112 (nI (xSz X 25 0)) 0) 113 (nI (xSz X 25 0)) 0) 102 (xSz X 25 0), cR (adX (fjX (fiX (fiX (fiX (fiX (fiX X 96 (xSz X 25 0) p1) 97 (xSz X 25 0) p2) 98 (xSz X 25 0) p3) 99 (xSz X 25 0) p4) 100 (xSz X 25 0) p5) 101 (xSz X 25 0) p6) 3 (xSz X 25 0) q) (sj (sj (si (si (si (sj (sj (sj (si (si (si (si S 102 (nI (xSz X 25 0)) 0) 103 (nI (xSz X 25 0)) 0) 104 (nI (xSz X 25 0)) 1) 105 (nI (xSz X 25 0)) 0) 106 (nI (xSz X 25 0)) 0) 107 (nI (xSz X 25 0)) 0) 108 (nI (xSz X 25 0)) 0) 109 (nI (xSz X 25 0)) (-1)) 110 (nI (xSz X 25 0)) (-1)) 111 (nI (xSz X 25 0)) 0) 112 (nI (xSz X 25 0)) 0) 113 (nI (xSz X 25 0)) 0) 103 (xSz X 25 0), cR (adX (fjX (fiX (fiX (fiX (fiX (fiX X 96 (xSz X 25 0) p1) 97 (xSz X 25 0) p2) 98 (xSz X 25 0) p3) 99 (xSz X 25 0) p4) 100 (xSz X 25 0) p5) 101 (xSz X 25 0) p6) 3 (xSz X 25 0) q) (sj (sj (si (si (si (sj (sj (sj (si (si (si (si S 102 (nI (xSz X 25 0)) 0) 103 (nI (xSz X 25 0)) 0) 104 (nI (xSz X 25 0)) 1) 105 (nI (xSz X 25 0)) 0) 106 (nI (xSz X 25 0)) 0) 107 (nI (xSz X 25 0)) 0) 108 (nI (xSz X 25 0)) 0) 109 (nI (xSz X 25 0)) (-1)) 110 (nI (xSz X 25 0)) (-1)) 111 (nI (xSz X 25 0)) 0) 112 (nI (xSz X 25 0)) 0) 113 (nI (xSz X 25 0)) 0) 104 (xSz X 25 0), cR (adX (fjX (fiX (fiX (fiX (fiX (fiX X 96 (xSz X 25 0) p1) 97 (xSz X 25 0) p2) 98 (xSz X 25 0) p3) 99 (xSz X 25 0) p4) 100 (xSz X 25 0) p5) 101 (xSz X 25 0) p6) 3 (xSz X 25 0) q) (sj (sj (si (si (si (sj (sj (sj (si (si (si (si S 102 (nI (xSz X 25 0)) 0) 103 (nI (xSz X 25 0)) 0) 104 (nI (xSz X 25 0)) 1) 105 (nI (xSz X 25 0)) 0) 106 (nI (xSz X 25 0)) 0) 107 (nI (xSz X 25 0)) 0) 108 (nI (xSz X 25 0)) 0) 109 (nI (xSz X 25 0)) (-1)) 110 (nI (xSz X 25 0)) (-1)) 111 (nI (xSz X 25 0)) 0) 112 (nI (xSz X 25 0)) 0) 113 (nI (xSz X 25 0)) 0) 105 (xSz X 25 0), cR (adX (fjX (fiX (fiX (fiX (fiX (fiX X 96 (xSz X 25 0) p1) 97 (xSz X 25 0) p2) 98 (xSz X 25 0) p3) 99 (xSz X 25 0) p4) 100 (xSz X 25 0) p5) 101 (xSz X 25 0) p6) 3 (xSz X 25 0) q) (sj (sj (si (si (si (sj (sj (sj (si (si (si (si S 102 (nI (xSz X 25 0)) 0) 103 (nI (xSz X 25 0)) 0) 104 (nI (xSz X 25 0)) 1) 105 (nI (xSz X 25 0)) 0) 106 (nI (xSz X 25 0)) 0) 107 (nI (xSz X 25 0)) 0) 108 (nI (xSz X 25 0)) 0) 109 (nI (xSz X 25 0)) (-1)) 110 (nI (xSz X 25 0)) (-1)) 111 (nI (xSz X 25 0)) 0) 112 (nI (xSz X 25 0)) 0) 113 (nI (xSz X 25 0)) 0) 106 (xSz X 25 0), cR (adX (fjX (fiX (fiX (fiX (fiX (fiX X 96 (xSz X 25 0) p1) 97 (xSz X 25 0) p2) 98 (xSz X 25 0) p3) 99 (xSz X 25 0) p4) 100 (xSz X 25 0) p5) 101 (xSz X 25 0) p6) 3 (xSz X 25 0) q) (sj (sj (si (si (si (sj (sj (sj (si (si (si (si S 102 (nI (xSz X 25 0)) 0) 103 (nI (xSz X 25 0)) 0) 104 (nI (xSz X 25 0)) 1) 105 (nI (xSz X 25 0)) 0) 106 (nI (xSz X 25 0)) 0) 107 (nI (xSz X 25 0)) 0) 108 (nI (xSz X 25 0)) 0) 109 (nI (xSz X 25 0)) (-1)) 110 (nI (xSz X 25 0)) (-1)) 111 (nI (xSz X 25 0)) 0) 112 (nI (xSz X 25 0)) 0) 113 (nI (xSz X 25 0)) 0) 107 (xSz X 25 0), cR (adX (fjX (fiX (fiX (fiX (fiX (fiX X 96 (xSz X 25 0) p1) 97 (xSz X 25 0) p2) 98 (xSz X 25 0) p3) 99 (xSz X 25 0) p4) 100 (xSz X 25 0) p5) 101 (xSz X 25 0) p6) 3 (xSz X 25 0) q) (sj (sj (si (si (si (sj (sj (sj (si (si (si (si S 102 (nI (xSz X 25 0)) 0) 103 (nI (xSz X 25 0)) 0) 104 (nI (xSz X 25 0)) 1) 105 (nI (xSz X 25 0)) 0) 106 (nI (xSz X 25 0)) 0) 107 (nI (xSz X 25 0)) 0) 108 (nI (xSz X 25 0)) 0) 109 (nI (xSz X 25 0)) (-1)) 110 (nI (xSz X 25 0)) (-1)) 111 (nI (xSz X 25 0)) 0) 112 (nI (xSz X 25 0)) 0) 113 (nI (xSz X 25 0)) 0) 108 (xSz X 25 0), cR (adX (fjX (fiX (fiX (fiX (fiX (fiX X 96 (xSz X 25 0) p1) 97 (xSz X 25 0) p2) 98 (xSz X 25 0) p3) 99 (xSz X 25 0) p4) 100 (xSz X 25 0) p5) 101 (xSz X 25 0) p6) 3 (xSz X 25 0) q) (sj (sj (si (si (si (sj (sj (sj (si (si (si (si S 102 (nI (xSz X 25 0)) 0) 103 (nI (xSz X 25 0)) 0) 104 (nI (xSz X 25 0)) 1) 105 (nI (xSz X 25 0)) 0) 106 (nI (xSz X 25 0)) 0) 107 (nI (xSz X 25 0)) 0) 108 (nI (xSz X 25 0)) 0) 109 (nI (xSz X 25 0)) (-1)) 110 (nI (xSz X 25 0)) (-1)) 111 (nI (xSz X 25 0)) 0) 112 (nI (xSz X 25 0)) 0) 113 (nI (xSz X 25 0)) 0) 109 (xSz X 25 0), cR (adX (fjX (fiX (fiX (fiX (fiX (fiX X 96 (xSz X 25 0) p1) 97 (xSz X 25 0) p2) 98 (xSz X 25 0) p3) 99 (xSz X 25 0) p4) 100 (xSz X 25 0) p5) 101 (xSz X 25 0) p6) 3 (xSz X 25 0) q) (sj (sj (si (si (si (sj (sj (sj (si (si (si (si S 102 (nI (xSz X 25 0)) 0) 103 (nI (xSz X 25 0)) 0) 104 (nI (xSz X 25 0)) 1) 105 (nI (xSz X 25 0)) 0) 106 (nI (xSz X 25 0)) 0) 107 (nI (xSz X 25 0)) 0) 108 (nI (xSz X 25 0)) 0) 109 (nI (xSz X 25 0)) (-1)) 110 (nI (xSz X 25 0)) (-1)) 111 (nI (xSz X 25 0)) 0) 112 (nI (xSz X 25 0)) 0) 113 (nI (xSz X 25 0)) 0) 110 (xSz X 25 0), cR (adX (fjX (fiX (fiX (fiX (fiX (fiX X 96 (xSz X 25 0) p1) 97 (xSz X 25 0) p2) 98 (xSz X 25 0) p3) 99 (xSz X 25 0) p4) 100 (xSz X 25 0) p5) 101 (xSz X 25 0) p6) 3 (xSz X 25 0) q) (sj (sj (si (si (si (sj (sj (sj (si (si (si (si S 102 (nI (xSz X 25 0)) 0) 103 (nI (xSz X 25 0)) 0) 104 (nI (xSz X 25 0)) 1) 105 (nI (xSz X 25 0)) 0) 106 (nI (xSz X 25 0)) 0) 107 (nI (xSz X 25 0)) 0) 108 (nI (xSz X 25 0)) 0) 109 (nI (xSz X 25 0)) (-1)) 110 (nI (xSz X 25 0)) (-1)) 111 (nI (xSz X 25 0)) 0) 112 (nI (xSz X 25 0)) 0) 113 (nI (xSz X 25 0)) 0) 111 (xSz X 25 0), cR (adX (fjX (fiX (fiX (fiX (fiX (fiX X 96 (xSz X 25 0) p1) 97 (xSz X 25 0) p2) 98 (xSz X 25 0) p3) 99 (xSz X 25 0) p4) 100 (xSz X 25 0) p5) 101 (xSz X 25 0) p6) 3 (xSz X 25 0) q) (sj (sj (si (si (si (sj (sj (sj (si (si (si (si S 102 (nI (xSz X 25 0)) 0) 103 (nI (xSz X 25 0)) 0) 104 (nI (xSz X 25 0)) 1) 105 (nI (xSz X 25 0)) 0) 106 (nI (xSz X 25 0)) 0) 107 (nI (xSz X 25 0)) 0) 108 (nI (xSz X 25 0)) 0) 109 (nI (xSz X 25 0)) (-1)) 110 (nI (xSz X 25 0)) (-1)) 111 (nI (xSz X 25 0)) 0) 112 (nI (xSz X 25 0)) 0) 113 (nI (xSz X 25 0)) 0) 112 (xSz X 25 0), cR (adX (fjX (fiX (fiX (fiX (fiX (fiX X 96 (xSz X 25 0) p1) 97 (xSz X 25 0) p2) 98 (xSz X 25 0) p3) 99 (xSz X 25 0) p4) 100 (xSz X 25 0) p5) 101 (xSz X 25 0) p6) 3 (xSz X 25 0) q) (sj (sj (si (si (si (sj (sj (sj (si (si (si (si S 102 (nI (xSz X 25 0)) 0) 103 (nI (xSz X 25 0)) 0) 104 (nI (xSz X 25 0)) 1) 105 (nI (xSz X 25 0)) 0) 106 (nI (xSz X 25 0)) 0) 107 (nI (xSz X 25 0)) 0) 108 (nI (xSz X 25 0)) 0) 109 (nI (xSz X 25 0)) (-1)) 110 (nI (xSz X 25 0)) (-1)) 111 (nI (xSz X 25 0)) 0) 112 (nI (xSz X 25 0)) 0) 113 (nI (xSz X 25 0)) 0) 113 (xSz X 25 0)])
    rw [show cR (adX (fjX (fiX (fiX (fiX (fiX (fiX X 96 (xSz X 25 0) p1) 97 (xSz X 25 0) p2) 98 (xSz X 25 0) p3) 99 (xSz X 25 0) p4) 100 (xSz X 25 0) p5) 101 (xSz X 25 0) p6) 3 (xSz X 25 0) q) (sj (sj (si (si (si (sj (sj (sj (si (si (si (si S 102 (nI (xSz X 25 0)) 0) 103 (nI (xSz X 25 0)) 0) 104 (nI (xSz X 25 0)) 1) 105 (nI (xSz X 25 0)) 0) 106 (nI (xSz X 25 0)) 0) 107 (nI (xSz X 25 0)) 0) 108 (nI (xSz X 25 0)) 0) 109 (nI (xSz X 25 0)) (-1)) 110 (nI (xSz X 25 0)) (-1)) 111 (nI (xSz X 25 0)) 0) 112 (nI (xSz X 25 0)) 0) 113 (nI (xSz X 25 0)) 0) 96 (xSz X 25 0) = vr X 8 p1 from ((congrArg (vr _ 8) (fi_a.trans (fi_j.trans ((fi_sn rfl).trans ((fi_sn rfl).trans ((fi_sn rfl).trans ((fi_sn rfl).trans fi_ss))))))).trans (vr_an (by decide))), show cR (adX (fjX (fiX (fiX (fiX (fiX (fiX X 96 (xSz X 25 0) p1) 97 (xSz X 25 0) p2) 98 (xSz X 25 0) p3) 99 (xSz X 25 0) p4) 100 (xSz X 25 0) p5) 101 (xSz X 25 0) p6) 3 (xSz X 25 0) q) (sj (sj (si (si (si (sj (sj (sj (si (si (si (si S 102 (nI (xSz X 25 0)) 0) 103 (nI (xSz X 25 0)) 0) 104 (nI (xSz X 25 0)) 1) 105 (nI (xSz X 25 0)) 0) 106 (nI (xSz X 25 0)) 0) 107 (nI (xSz X 25 0)) 0) 108 (nI (xSz X 25 0)) 0) 109 (nI (xSz X 25 0)) (-1)) 110 (nI (xSz X 25 0)) (-1)) 111 (nI (xSz X 25 0)) 0) 112 (nI (xSz X 25 0)) 0) 113 (nI (xSz X 25 0)) 0) 97 (xSz X 25 0) = vr X 4 p2 from ((congrArg (vr _ 4) (fi_a.trans (fi_j.trans ((fi_sn rfl).trans ((fi_sn rfl).trans ((fi_sn rfl).trans fi_ss)))))).trans (vr_an (by decide))), show cR (adX (fjX (fiX (fiX (fiX (fiX (fiX X 96 (xSz X 25 0) p1) 97 (xSz X 25 0) p2) 98 (xSz X 25 0) p3) 99 (xSz X 25 0) p4) 100 (xSz X 25 0) p5) 101 (xSz X 25 0) p6) 3 (xSz X 25 0) q) (sj (sj (si (si (si (sj (sj (sj (si (si (si (si S 102 (nI (xSz X 25 0)) 0) 103 (nI (xSz X 25 0)) 0) 104 (nI (xSz X 25 0)) 1) 105 (nI (xSz X 25 0)) 0) 106 (nI (xSz X 25 0)) 0) 107 (nI (xSz X 25 0)) 0) 108 (nI (xSz X 25 0)) 0) 109 (nI (xSz X 25 0)) (-1)) 110 (nI (xSz X 25 0)) (-1)) 111 (nI (xSz X 25 0)) 0) 112 (nI (xSz X 25 0)) 0) 113 (nI (xSz X 25 0)) 0) 98 (xSz X 25 0) = vr X 9 p3 from ((congrArg (vr _ 9) (fi_a.trans (fi_j.trans ((fi_sn rfl).trans ((fi_sn rfl).trans fi_ss))))).trans (vr_an (by decide))), show cR (adX (fjX (fiX (fiX (fiX (fiX (fiX X 96 (xSz X 25 0) p1) 97 (xSz X 25 0) p2) 98 (xSz X 25 0) p3) 99 (xSz X 25 0) p4) 100 (xSz X 25 0) p5) 101 (xSz X 25 0) p6) 3 (xSz X 25 0) q) (sj (sj (si (si (si (sj (sj (sj (si (si (si (si S 102 (nI (xSz X 25 0)) 0) 103 (nI (xSz X 25 0)) 0) 104 (nI (xSz X 25 0)) 1) 105 (nI (xSz X 25 0)) 0) 106 (nI (xSz X 25 0)) 0) 107 (nI (xSz X 25 0)) 0) 108 (nI (xSz X 25 0)) 0) 109 (nI (xSz X 25 0)) (-1)) 110 (nI (xSz X 25 0)) (-1)) 111 (nI (xSz X 25 0)) 0) 112 (nI (xSz X 25 0)) 0) 113 (nI (xSz X 25 0)) 0) 99 (xSz X 25 0) = .int p4 from (congrArg Value.int (fi_a.trans (fi_j.trans ((fi_sn rfl).trans fi_ss)))), show cR (adX (fjX (fiX (fiX (fiX (fiX (fiX X 96 (xSz X 25 0) p1) 97 (xSz X 25 0) p2) 98 (xSz X 25 0) p3) 99 (xSz X 25 0) p4) 100 (xSz X 25 0) p5) 101 (xSz X 25 0) p6) 3 (xSz X 25 0) q) (sj (sj (si (si (si (sj (sj (sj (si (si (si (si S 102 (nI (xSz X 25 0)) 0) 103 (nI (xSz X 25 0)) 0) 104 (nI (xSz X 25 0)) 1) 105 (nI (xSz X 25 0)) 0) 106 (nI (xSz X 25 0)) 0) 107 (nI (xSz X 25 0)) 0) 108 (nI (xSz X 25 0)) 0) 109 (nI (xSz X 25 0)) (-1)) 110 (nI (xSz X 25 0)) (-1)) 111 (nI (xSz X 25 0)) 0) 112 (nI (xSz X 25 0)) 0) 113 (nI (xSz X 25 0)) 0) 100 (xSz X 25 0) = .int p5 from (congrArg Value.int (fi_a.trans (fi_j.trans fi_ss))), show cR (adX (fjX (fiX (fiX (fiX (fiX (fiX X 96 (xSz X 25 0) p1) 97 (xSz X 25 0) p2) 98 (xSz X 25 0) p3) 99 (xSz X 25 0) p4) 100 (xSz X 25 0) p5) 101 (xSz X 25 0) p6) 3 (xSz X 25 0) q) (sj (sj (si (si (si (sj (sj (sj (si (si (si (si S 102 (nI (xSz X 25 0)) 0) 103 (nI (xSz X 25 0)) 0) 104 (nI (xSz X 25 0)) 1) 105 (nI (xSz X 25 0)) 0) 106 (nI (xSz X 25 0)) 0) 107 (nI (xSz X 25 0)) 0) 108 (nI (xSz X 25 0)) 0) 109 (nI (xSz X 25 0)) (-1)) 110 (nI (xSz X 25 0)) (-1)) 111 (nI (xSz X 25 0)) 0) 112 (nI (xSz X 25 0)) 0) 113 (nI (xSz X 25 0)) 0) 101 (xSz X 25 0) = .long p6 from (congrArg Value.long (fj_a.trans fj_ss)), show cR (adX (fjX (fiX (fiX (fiX (fiX (fiX X 96 (xSz X 25 0) p1) 97 (xSz X 25 0) p2) 98 (xSz X 25 0) p3) 99 (xSz X 25 0) p4) 100 (xSz X 25 0) p5) 101 (xSz X 25 0) p6) 3 (xSz X 25 0) q) (sj (sj (si (si (si (sj (sj (sj (si (si (si (si S 102 (nI (xSz X 25 0)) 0) 103 (nI (xSz X 25 0)) 0) 104 (nI (xSz X 25 0)) 1) 105 (nI (xSz X 25 0)) 0) 106 (nI (xSz X 25 0)) 0) 107 (nI (xSz X 25 0)) 0) 108 (nI (xSz X 25 0)) 0) 109 (nI (xSz X 25 0)) (-1)) 110 (nI (xSz X 25 0)) (-1)) 111 (nI (xSz X 25 0)) 0) 112 (nI (xSz X 25 0)) 0) 113 (nI (xSz X 25 0)) 0) 102 (xSz X 25 0) = .int 0 from (congrArg Value.int (sj_i.trans (sj_i.trans ((si_an rfl).trans ((si_an rfl).trans ((si_an rfl).trans (sj_i.trans (sj_i.trans (sj_i.trans ((si_an rfl).trans ((si_an rfl).trans ((si_an rfl).trans (si_at hn31))))))))))))), show cR (adX (fjX (fiX (fiX (fiX (fiX (fiX X 96 (xSz X 25 0) p1) 97 (xSz X 25 0) p2) 98 (xSz X 25 0) p3) 99 (xSz X 25 0) p4) 100 (xSz X 25 0) p5) 101 (xSz X 25 0) p6) 3 (xSz X 25 0) q) (sj (sj (si (si (si (sj (sj (sj (si (si (si (si S 102 (nI (xSz X 25 0)) 0) 103 (nI (xSz X 25 0)) 0) 104 (nI (xSz X 25 0)) 1) 105 (nI (xSz X 25 0)) 0) 106 (nI (xSz X 25 0)) 0) 107 (nI (xSz X 25 0)) 0) 108 (nI (xSz X 25 0)) 0) 109 (nI (xSz X 25 0)) (-1)) 110 (nI (xSz X 25 0)) (-1)) 111 (nI (xSz X 25 0)) 0) 112 (nI (xSz X 25 0)) 0) 113 (nI (xSz X 25 0)) 0) 103 (xSz X 25 0) = .int 0 from (congrArg Value.int (sj_i.trans (sj_i.trans ((si_an rfl).trans ((si_an rfl).trans ((si_an rfl).trans (sj_i.trans (sj_i.trans (sj_i.trans ((si_an rfl).trans ((si_an rfl).trans (si_at hn31)))))))))))), show cR (adX (fjX (fiX (fiX (fiX (fiX (fiX X 96 (xSz X 25 0) p1) 97 (xSz X 25 0) p2) 98 (xSz X 25 0) p3) 99 (xSz X 25 0) p4) 100 (xSz X 25 0) p5) 101 (xSz X 25 0) p6) 3 (xSz X 25 0) q) (sj (sj (si (si (si (sj (sj (sj (si (si (si (si S 102 (nI (xSz X 25 0)) 0) 103 (nI (xSz X 25 0)) 0) 104 (nI (xSz X 25 0)) 1) 105 (nI (xSz X 25 0)) 0) 106 (nI (xSz X 25 0)) 0) 107 (nI (xSz X 25 0)) 0) 108 (nI (xSz X 25 0)) 0) 109 (nI (xSz X 25 0)) (-1)) 110 (nI (xSz X 25 0)) (-1)) 111 (nI (xSz X 25 0)) 0) 112 (nI (xSz X 25 0)) 0) 113 (nI (xSz X 25 0)) 0) 104 (xSz X 25 0) = .int 1 from (congrArg Value.int (sj_i.trans (sj_i.trans ((si_an rfl).trans ((si_an rfl).trans ((si_an rfl).trans (sj_i.trans (sj_i.trans (sj_i.trans ((si_an rfl).trans (si_at hn31))))))))))), show cR (adX (fjX (fiX (fiX (fiX (fiX (fiX X 96 (xSz X 25 0) p1) 97 (xSz X 25 0) p2) 98 (xSz X 25 0) p3) 99 (xSz X 25 0) p4) 100 (xSz X 25 0) p5) 101 (xSz X 25 0) p6) 3 (xSz X 25 0) q) (sj (sj (si (si (si (sj (sj (sj (si (si (si (si S 102 (nI (xSz X 25 0)) 0) 103 (nI (xSz X 25 0)) 0) 104 (nI (xSz X 25 0)) 1) 105 (nI (xSz X 25 0)) 0) 106 (nI (xSz X 25 0)) 0) 107 (nI (xSz X 25 0)) 0) 108 (nI (xSz X 25 0)) 0) 109 (nI (xSz X 25 0)) (-1)) 110 (nI (xSz X 25 0)) (-1)) 111 (nI (xSz X 25 0)) 0) 112 (nI (xSz X 25 0)) 0) 113 (nI (xSz X 25 0)) 0) 105 (xSz X 25 0) = .int 0 from (congrArg Value.int (sj_i.trans (sj_i.trans ((si_an rfl).trans ((si_an rfl).trans ((si_an rfl).trans (sj_i.trans (sj_i.trans (sj_i.trans (si_at hn31)))))))))), show cR (adX (fjX (fiX (fiX (fiX (fiX (fiX X 96 (xSz X 25 0) p1) 97 (xSz X 25 0) p2) 98 (xSz X 25 0) p3) 99 (xSz X 25 0) p4) 100 (xSz X 25 0) p5) 101 (xSz X 25 0) p6) 3 (xSz X 25 0) q) (sj (sj (si (si (si (sj (sj (sj (si (si (si (si S 102 (nI (xSz X 25 0)) 0) 103 (nI (xSz X 25 0)) 0) 104 (nI (xSz X 25 0)) 1) 105 (nI (xSz X 25 0)) 0) 106 (nI (xSz X 25 0)) 0) 107 (nI (xSz X 25 0)) 0) 108 (nI (xSz X 25 0)) 0) 109 (nI (xSz X 25 0)) (-1)) 110 (nI (xSz X 25 0)) (-1)) 111 (nI (xSz X 25 0)) 0) 112 (nI (xSz X 25 0)) 0) 113 (nI (xSz X 25 0)) 0) 106 (xSz X 25 0) = .long 0 from (congrArg Value.long ((sj_an rfl).trans ((sj_an rfl).trans (si_j.trans (si_j.trans (si_j.trans ((sj_an rfl).trans ((sj_an rfl).trans (sj_at hn31))))))))), show cR (adX (fjX (fiX (fiX (fiX (fiX (fiX X 96 (xSz X 25 0) p1) 97 (xSz X 25 0) p2) 98 (xSz X 25 0) p3) 99 (xSz X 25 0) p4) 100 (xSz X 25 0) p5) 101 (xSz X 25 0) p6) 3 (xSz X 25 0) q) (sj (sj (si (si (si (sj (sj (sj (si (si (si (si S 102 (nI (xSz X 25 0)) 0) 103 (nI (xSz X 25 0)) 0) 104 (nI (xSz X 25 0)) 1) 105 (nI (xSz X 25 0)) 0) 106 (nI (xSz X 25 0)) 0) 107 (nI (xSz X 25 0)) 0) 108 (nI (xSz X 25 0)) 0) 109 (nI (xSz X 25 0)) (-1)) 110 (nI (xSz X 25 0)) (-1)) 111 (nI (xSz X 25 0)) 0) 112 (nI (xSz X 25 0)) 0) 113 (nI (xSz X 25 0)) 0) 107 (xSz X 25 0) = .long 0 from (congrArg Value.long ((sj_an rfl).trans ((sj_an rfl).trans (si_j.trans (si_j.trans (si_j.trans ((sj_an rfl).trans (sj_at hn31)))))))), show cR (adX (fjX (fiX (fiX (fiX (fiX (fiX X 96 (xSz X 25 0) p1) 97 (xSz X 25 0) p2) 98 (xSz X 25 0) p3) 99 (xSz X 25 0) p4) 100 (xSz X 25 0) p5) 101 (xSz X 25 0) p6) 3 (xSz X 25 0) q) (sj (sj (si (si (si (sj (sj (sj (si (si (si (si S 102 (nI (xSz X 25 0)) 0) 103 (nI (xSz X 25 0)) 0) 104 (nI (xSz X 25 0)) 1) 105 (nI (xSz X 25 0)) 0) 106 (nI (xSz X 25 0)) 0) 107 (nI (xSz X 25 0)) 0) 108 (nI (xSz X 25 0)) 0) 109 (nI (xSz X 25 0)) (-1)) 110 (nI (xSz X 25 0)) (-1)) 111 (nI (xSz X 25 0)) 0) 112 (nI (xSz X 25 0)) 0) 113 (nI (xSz X 25 0)) 0) 108 (xSz X 25 0) = .long 0 from (congrArg Value.long ((sj_an rfl).trans ((sj_an rfl).trans (si_j.trans (si_j.trans (si_j.trans (sj_at hn31))))))), show cR (adX (fjX (fiX (fiX (fiX (fiX (fiX X 96 (xSz X 25 0) p1) 97 (xSz X 25 0) p2) 98 (xSz X 25 0) p3) 99 (xSz X 25 0) p4) 100 (xSz X 25 0) p5) 101 (xSz X 25 0) p6) 3 (xSz X 25 0) q) (sj (sj (si (si (si (sj (sj (sj (si (si (si (si S 102 (nI (xSz X 25 0)) 0) 103 (nI (xSz X 25 0)) 0) 104 (nI (xSz X 25 0)) 1) 105 (nI (xSz X 25 0)) 0) 106 (nI (xSz X 25 0)) 0) 107 (nI (xSz X 25 0)) 0) 108 (nI (xSz X 25 0)) 0) 109 (nI (xSz X 25 0)) (-1)) 110 (nI (xSz X 25 0)) (-1)) 111 (nI (xSz X 25 0)) 0) 112 (nI (xSz X 25 0)) 0) 113 (nI (xSz X 25 0)) 0) 109 (xSz X 25 0) = .int (-1) from (congrArg Value.int (sj_i.trans (sj_i.trans ((si_an rfl).trans ((si_an rfl).trans (si_at hn31)))))), show cR (adX (fjX (fiX (fiX (fiX (fiX (fiX X 96 (xSz X 25 0) p1) 97 (xSz X 25 0) p2) 98 (xSz X 25 0) p3) 99 (xSz X 25 0) p4) 100 (xSz X 25 0) p5) 101 (xSz X 25 0) p6) 3 (xSz X 25 0) q) (sj (sj (si (si (si (sj (sj (sj (si (si (si (si S 102 (nI (xSz X 25 0)) 0) 103 (nI (xSz X 25 0)) 0) 104 (nI (xSz X 25 0)) 1) 105 (nI (xSz X 25 0)) 0) 106 (nI (xSz X 25 0)) 0) 107 (nI (xSz X 25 0)) 0) 108 (nI (xSz X 25 0)) 0) 109 (nI (xSz X 25 0)) (-1)) 110 (nI (xSz X 25 0)) (-1)) 111 (nI (xSz X 25 0)) 0) 112 (nI (xSz X 25 0)) 0) 113 (nI (xSz X 25 0)) 0) 110 (xSz X 25 0) = .int (-1) from (congrArg Value.int (sj_i.trans (sj_i.trans ((si_an rfl).trans (si_at hn31))))), show cR (adX (fjX (fiX (fiX (fiX (fiX (fiX X 96 (xSz X 25 0) p1) 97 (xSz X 25 0) p2) 98 (xSz X 25 0) p3) 99 (xSz X 25 0) p4) 100 (xSz X 25 0) p5) 101 (xSz X 25 0) p6) 3 (xSz X 25 0) q) (sj (sj (si (si (si (sj (sj (sj (si (si (si (si S 102 (nI (xSz X 25 0)) 0) 103 (nI (xSz X 25 0)) 0) 104 (nI (xSz X 25 0)) 1) 105 (nI (xSz X 25 0)) 0) 106 (nI (xSz X 25 0)) 0) 107 (nI (xSz X 25 0)) 0) 108 (nI (xSz X 25 0)) 0) 109 (nI (xSz X 25 0)) (-1)) 110 (nI (xSz X 25 0)) (-1)) 111 (nI (xSz X 25 0)) 0) 112 (nI (xSz X 25 0)) 0) 113 (nI (xSz X 25 0)) 0) 111 (xSz X 25 0) = .int 0 from (congrArg Value.int (sj_i.trans (sj_i.trans (si_at hn31)))), show cR (adX (fjX (fiX (fiX (fiX (fiX (fiX X 96 (xSz X 25 0) p1) 97 (xSz X 25 0) p2) 98 (xSz X 25 0) p3) 99 (xSz X 25 0) p4) 100 (xSz X 25 0) p5) 101 (xSz X 25 0) p6) 3 (xSz X 25 0) q) (sj (sj (si (si (si (sj (sj (sj (si (si (si (si S 102 (nI (xSz X 25 0)) 0) 103 (nI (xSz X 25 0)) 0) 104 (nI (xSz X 25 0)) 1) 105 (nI (xSz X 25 0)) 0) 106 (nI (xSz X 25 0)) 0) 107 (nI (xSz X 25 0)) 0) 108 (nI (xSz X 25 0)) 0) 109 (nI (xSz X 25 0)) (-1)) 110 (nI (xSz X 25 0)) (-1)) 111 (nI (xSz X 25 0)) 0) 112 (nI (xSz X 25 0)) 0) 113 (nI (xSz X 25 0)) 0) 112 (xSz X 25 0) = .long 0 from (congrArg Value.long ((sj_an rfl).trans (sj_at hn31))), show cR (adX (fjX (fiX (fiX (fiX (fiX (fiX X 96 (xSz X 25 0) p1) 97 (xSz X 25 0) p2) 98 (xSz X 25 0) p3) 99 (xSz X 25 0) p4) 100 (xSz X 25 0) p5) 101 (xSz X 25 0) p6) 3 (xSz X 25 0) q) (sj (sj (si (si (si (sj (sj (sj (si (si (si (si S 102 (nI (xSz X 25 0)) 0) 103 (nI (xSz X 25 0)) 0) 104 (nI (xSz X 25 0)) 1) 105 (nI (xSz X 25 0)) 0) 106 (nI (xSz X 25 0)) 0) 107 (nI (xSz X 25 0)) 0) 108 (nI (xSz X 25 0)) 0) 109 (nI (xSz X 25 0)) (-1)) 110 (nI (xSz X 25 0)) (-1)) 111 (nI (xSz X 25 0)) 0) 112 (nI (xSz X 25 0)) 0) 113 (nI (xSz X 25 0)) 0) 113 (xSz X 25 0) = .long 0 from (congrArg Value.long (sj_at hn31))])
  have hK1 := XOK_ob (e := (.inr (3, [vr X 8 p1, vr X 4 p2, vr X 9 p3, .int p4, .int p5, .long p6, .int 0, .int 0, .int 1, .int 0, .long 0, .long 0, .long 0, .int (-1), .int (-1), .int 0, .long 0, .long 0]))) hX hq hd hD ⟨by decide, by decide⟩ (by omega) HX1 (fun z => absurd z (by decide)) (fun _ => ⟨by rw [show xFi (fjX (fiX (fiX (fiX (fiX (fiX X 96 (xSz X 25 0) p1) 97 (xSz X 25 0) p2) 98 (xSz X 25 0) p3) 99 (xSz X 25 0) p4) 100 (xSz X 25 0) p5) 101 (xSz X 25 0) p6) 96 _ = p1 from fi_j.trans ((fi_sn rfl).trans ((fi_sn rfl).trans ((fi_sn rfl).trans ((fi_sn rfl).trans fi_ss))))]; exact h8, by rw [show xFi (fjX (fiX (fiX (fiX (fiX (fiX X 96 (xSz X 25 0) p1) 97 (xSz X 25 0) p2) 98 (xSz X 25 0) p3) 99 (xSz X 25 0) p4) 100 (xSz X 25 0) p5) 101 (xSz X 25 0) p6) 97 _ = p2 from fi_j.trans ((fi_sn rfl).trans ((fi_sn rfl).trans ((fi_sn rfl).trans fi_ss)))]; exact h4, by rw [show xFi (fjX (fiX (fiX (fiX (fiX (fiX X 96 (xSz X 25 0) p1) 97 (xSz X 25 0) p2) 98 (xSz X 25 0) p3) 99 (xSz X 25 0) p4) 100 (xSz X 25 0) p5) 101 (xSz X 25 0) p6) 98 _ = p3 from fi_j.trans ((fi_sn rfl).trans ((fi_sn rfl).trans fi_ss))]; exact h9⟩) (fun z => absurd z (by decide)) (fun z => absurd z (by decide))
  have hT1 := TS_ob (e := (.inr (3, [vr X 8 p1, vr X 4 p2, vr X 9 p3, .int p4, .int p5, .long p6, .int 0, .int 0, .int 1, .int 0, .long 0, .long 0, .long 0, .int (-1), .int (-1), .int 0, .long 0, .long 0]))) hT hX hq hd hD (by decide) (by omega) (fun z => absurd z (by decide)) (fun z => absurd z (by decide))
  have hA1 := LA_ob (e := (.inr (3, [vr X 8 p1, vr X 4 p2, vr X 9 p3, .int p4, .int p5, .long p6, .int 0, .int 0, .int 1, .int 0, .long 0, .long 0, .long 0, .int (-1), .int (-1), .int 0, .long 0, .long 0]))) (LA_of hX hL (by decide) (by decide) ((hL.1 25 0).mpr rfl) (by omega)) hq hD (by decide) HX1
  have hme : lv (obX (fjX (fiX (fiX (fiX (fiX (fiX X 96 (xSz X 25 0) p1) 97 (xSz X 25 0) p2) 98 (xSz X 25 0) p3) 99 (xSz X 25 0) p4) 100 (xSz X 25 0) p5) 101 (xSz X 25 0) p6) 3 (xSz X 25 0) q (.inr (3, [vr X 8 p1, vr X 4 p2, vr X 9 p3, .int p4, .int p5, .long p6, .int 0, .int 0, .int 1, .int 0, .long 0, .long 0, .long 0, .int (-1), .int (-1), .int 0, .long 0, .long 0]))) 3 (xSz X 25 0) := ob_me hX.1 hq hD
  have hlI : lI (obX (fjX (fiX (fiX (fiX (fiX (fiX X 96 (xSz X 25 0) p1) 97 (xSz X 25 0) p2) 98 (xSz X 25 0) p3) 99 (xSz X 25 0) p4) 100 (xSz X 25 0) p5) 101 (xSz X 25 0) p6) 3 (xSz X 25 0) q (.inr (3, [vr X 8 p1, vr X 4 p2, vr X 9 p3, .int p4, .int p5, .long p6, .int 0, .int 0, .int 1, .int 0, .long 0, .long 0, .long 0, .int (-1), .int (-1), .int 0, .long 0, .long 0]))) 3 (nI (xSz X 25 0)) := ⟨_, by omega, rfl, hme⟩
  refine ⟨_, E1, hK1, hT1, hA1, fun X2 hA2 => ⟨XOK.ad hK1 hA2 hA1.2.2.1 ⟨?_, ?_⟩, LVX_25 hL hX.1 hq hD hlt hA2, hA2.2.1.1, hA2.2.1.2, hA2.2.2.2.1, (hA2.2.2.1 11 0 (by omega)).trans (ad_ne (fun z => by omega))⟩, fun t x ht => vr_an ht, ?_, hlI, fun L i h20 => ad_ne (fun z => by omega), ⟨rfl, rfl, rfl⟩, fun k' i => lv_ob hX.1 hq hD.1⟩
  · show xSz X 25 0 < 2 ^ 30
    omega
  · exact hme
  · rw [hlI.vr, nI_clamp hn31]
    exact congrArg Value.ref ad_ad.symm
theorem dX10_invoice_0 : decode cX10_invoice 0 = .ok (.aload_n 0, 1) := by decide +kernel
theorem dX10_invoice_1 : decode cX10_invoice 1 = .ok (.iload_n 1, 1) := by decide +kernel
theorem dX10_invoice_2 : decode cX10_invoice 2 = .ok (.invokevirtual 204, 3) := by decide +kernel
theorem dX10_invoice_5 : decode cX10_invoice 5 = .ok (.astore 5, 2) := by decide +kernel
theorem dX10_invoice_7 : decode cX10_invoice 7 = .ok (.aload 5, 2) := by decide +kernel
theorem dX10_invoice_9 : decode cX10_invoice 9 = .ok (.iload_n 2, 1) := by decide +kernel
theorem dX10_invoice_10 : decode cX10_invoice 10 = .ok (.invokestatic 280, 3) := by decide +kernel
theorem dX10_invoice_13 : decode cX10_invoice 13 = .ok (.astore 6, 2) := by decide +kernel
theorem dX10_invoice_15 : decode cX10_invoice 15 = .ok (.iload_n 3, 1) := by decide +kernel
theorem dX10_invoice_16 : decode cX10_invoice 16 = .ok (.iconst 1, 1) := by decide +kernel
theorem dX10_invoice_17 : decode cX10_invoice 17 = .ok (.bipush 99, 2) := by decide +kernel
theorem dX10_invoice_19 : decode cX10_invoice 19 = .ok (.invokestatic 92, 3) := by decide +kernel
theorem dX10_invoice_22 : decode cX10_invoice 22 = .ok (.iload 4, 2) := by decide +kernel
theorem dX10_invoice_24 : decode cX10_invoice 24 = .ok (.iconst 1, 1) := by decide +kernel
theorem dX10_invoice_25 : decode cX10_invoice 25 = .ok (.ldc 208, 2) := by decide +kernel
theorem dX10_invoice_27 : decode cX10_invoice 27 = .ok (.invokestatic 92, 3) := by decide +kernel
theorem dX10_invoice_30 : decode cX10_invoice 30 = .ok (.aload 5, 2) := by decide +kernel
theorem dX10_invoice_32 : decode cX10_invoice 32 = .ok (.getfield 291, 3) := by decide +kernel
theorem dX10_invoice_35 : decode cX10_invoice 35 = .ok (.astore 7, 2) := by decide +kernel
theorem dX10_invoice_37 : decode cX10_invoice 37 = .ok (.aload 7, 2) := by decide +kernel
theorem dX10_invoice_39 : decode cX10_invoice 39 = .ok (.ifnull 24, 3) := by decide +kernel
theorem dX10_invoice_42 : decode cX10_invoice 42 = .ok (.aload 5, 2) := by decide +kernel
theorem dX10_invoice_44 : decode cX10_invoice 44 = .ok (.getfield 209, 3) := by decide +kernel
theorem dX10_invoice_47 : decode cX10_invoice 47 = .ok (.iconst 4, 1) := by decide +kernel
theorem dX10_invoice_48 : decode cX10_invoice 48 = .ok (.if_icmp .ne 15, 3) := by decide +kernel
theorem dX10_invoice_51 : decode cX10_invoice 51 = .ok (.aload_n 0, 1) := by decide +kernel
theorem dX10_invoice_52 : decode cX10_invoice 52 = .ok (.getfield 28, 3) := by decide +kernel
theorem dX10_invoice_55 : decode cX10_invoice 55 = .ok (.invokevirtual 96, 3) := by decide +kernel
theorem dX10_invoice_58 : decode cX10_invoice 58 = .ok (.bipush 60, 2) := by decide +kernel
theorem dX10_invoice_60 : decode cX10_invoice 60 = .ok (.if_icmp .lt 14, 3) := by decide +kernel
theorem dX10_invoice_63 : decode cX10_invoice 63 = .ok (.new 100, 3) := by decide +kernel
theorem dX10_invoice_66 : decode cX10_invoice 66 = .ok (.dup, 1) := by decide +kernel
theorem dX10_invoice_67 : decode cX10_invoice 67 = .ok (.ldc_w 338, 3) := by decide +kernel
theorem dX10_invoice_70 : decode cX10_invoice 70 = .ok (.invokespecial 104, 3) := by decide +kernel
theorem dX10_invoice_73 : decode cX10_invoice 73 = .ok (.athrow, 1) := by decide +kernel
theorem dX10_invoice_74 : decode cX10_invoice 74 = .ok (.new 340, 3) := by decide +kernel
theorem dX10_invoice_77 : decode cX10_invoice 77 = .ok (.dup, 1) := by decide +kernel
theorem dX10_invoice_78 : decode cX10_invoice 78 = .ok (.aload 5, 2) := by decide +kernel
theorem dX10_invoice_80 : decode cX10_invoice 80 = .ok (.aload 6, 2) := by decide +kernel
theorem dX10_invoice_82 : decode cX10_invoice 82 = .ok (.aload 7, 2) := by decide +kernel
theorem dX10_invoice_84 : decode cX10_invoice 84 = .ok (.iload_n 3, 1) := by decide +kernel
theorem dX10_invoice_85 : decode cX10_invoice 85 = .ok (.iload 4, 2) := by decide +kernel
theorem dX10_invoice_87 : decode cX10_invoice 87 = .ok (.invokespecial 342, 3) := by decide +kernel
theorem dX10_invoice_90 : decode cX10_invoice 90 = .ok (.astore 8, 2) := by decide +kernel
theorem dX10_invoice_92 : decode cX10_invoice 92 = .ok (.aload_n 0, 1) := by decide +kernel
theorem dX10_invoice_93 : decode cX10_invoice 93 = .ok (.getfield 28, 3) := by decide +kernel
theorem dX10_invoice_96 : decode cX10_invoice 96 = .ok (.aload 8, 2) := by decide +kernel
theorem dX10_invoice_98 : decode cX10_invoice 98 = .ok (.invokevirtual 75, 3) := by decide +kernel
theorem dX10_invoice_101 : decode cX10_invoice 101 = .ok (.pop, 1) := by decide +kernel
theorem dX10_invoice_102 : decode cX10_invoice 102 = .ok (.aload 6, 2) := by decide +kernel
theorem dX10_invoice_104 : decode cX10_invoice 104 = .ok (.dup, 1) := by decide +kernel
theorem dX10_invoice_105 : decode cX10_invoice 105 = .ok (.getfield 319, 3) := by decide +kernel
theorem dX10_invoice_108 : decode cX10_invoice 108 = .ok (.iload_n 3, 1) := by decide +kernel
theorem dX10_invoice_109 : decode cX10_invoice 109 = .ok (.iadd, 1) := by decide +kernel
theorem dX10_invoice_110 : decode cX10_invoice 110 = .ok (.putfield 319, 3) := by decide +kernel
theorem dX10_invoice_113 : decode cX10_invoice 113 = .ok (.aload_n 0, 1) := by decide +kernel
theorem dX10_invoice_114 : decode cX10_invoice 114 = .ok (.aload 8, 2) := by decide +kernel
theorem dX10_invoice_116 : decode cX10_invoice 116 = .ok (.invokevirtual 345, 3) := by decide +kernel
theorem dX10_invoice_119 : decode cX10_invoice 119 = .ok (.pop, 1) := by decide +kernel
theorem dX10_invoice_120 : decode cX10_invoice 120 = .ok (.aload_n 0, 1) := by decide +kernel
theorem dX10_invoice_121 : decode cX10_invoice 121 = .ok (.getfield 28, 3) := by decide +kernel
theorem dX10_invoice_124 : decode cX10_invoice 124 = .ok (.invokevirtual 96, 3) := by decide +kernel
theorem dX10_invoice_127 : decode cX10_invoice 127 = .ok (.iconst 1, 1) := by decide +kernel
theorem dX10_invoice_128 : decode cX10_invoice 128 = .ok (.isub, 1) := by decide +kernel
theorem dX10_invoice_129 : decode cX10_invoice 129 = .ok (.ireturn, 1) := by decide +kernel
def k_invoice (p1 : Int32) (p2 : Int32) (p3 : Int32) (p4 : Int32) (X : CX) (S : CT) : (Int32 × CT) ⊕ String :=
    if P_num p1 (nS X 24 0) then
      if P_num p2 (nS X 29 p1) then
        if P_in p3 1 99 then
          if P_in p4 1 100000 then
            if (ci S 264 p1) = -1 then
              .inr "java/lang/IllegalStateException"
            else
            if (ci S 259 p1) = 4 then
              if (nS X 25 0) < 60 then
                .inl ((nI (xSz X 25 0 + 1)) - 1, (k_bookUnlessHeld (nI (xSz X 25 0)) (y_invoice X p1 (4 * p1 + p2) (ci S 264 p1) p3 p4 ((((p3.toInt64) * (p4.toInt64)) * ((ci S 160 (ci S 289 (ci S 264 p1))).toInt64)) / 1000)) (si (s_invoice X S p1 (4 * p1 + p2) (ci S 264 p1) p3 p4 ((((p3.toInt64) * (p4.toInt64)) * ((ci S 160 (ci S 289 (ci S 264 p1))).toInt64)) / 1000)) 133 (4 * p1 + p2) ((ci (s_invoice X S p1 (4 * p1 + p2) (ci S 264 p1) p3 p4 ((((p3.toInt64) * (p4.toInt64)) * ((ci S 160 (ci S 289 (ci S 264 p1))).toInt64)) / 1000)) 133 (4 * p1 + p2)) + p3))).2)
              else
              .inr "java/lang/IllegalStateException"
            else
            .inr "java/lang/IllegalStateException"
          else
          .inr "java/lang/IllegalArgumentException"
        else
        .inr "java/lang/IllegalArgumentException"
      else
      .inr "java/lang/IndexOutOfBoundsException"
    else
    .inr "java/lang/IndexOutOfBoundsException"
abbrev rma_invoice : Room := { frames := 12, cells := 2, slots := 91, locals := 240 }
set_option maxRecDepth 100000 in
set_option maxHeartbeats 4000000 in
theorem ck_invoice {l : Launch} {k : KC} (hl : l.stackTraces = false) {X : CX} {S : CT} (hX : XOK X) (hL : LVX X) (hT : TS X S) {p1 : Int32} {p2 : Int32} {p3 : Int32} {p4 : Int32} (hC : LC X S)  : MC l k yX10_invoice (.code yX10_invoice cX10_invoice 9 (some .int)) rma_invoice [(vr X 11 0), .int p1, .int p2, .int p3, .int p4] (cW k X S) (pAi k X S (y_invoice X p1 (4 * p1 + p2) (ci S 264 p1) p3 p4 ((((p3.toInt64) * (p4.toInt64)) * ((ci S 160 (ci S 289 (ci S 264 p1))).toInt64)) / 1000)) 25 0 (k_invoice p1 p2 p3 p4 X S)) := by
  refine MC.of 4 hl (by decide) (by simp only [lg_sl_vr, lg_sl_i, lg_sl_l, lg_sl_0]; exact Nat.le_of_ble_eq_true rfl) ?_
  intro p e s m args below meth c A Q G B B2 hout
  simp only [lp_args_vr, lp_args_i, lp_args_l, lp_args_0]
  show Wx p l e rma_invoice s m args below meth c k A 9 Q 2 91 0 [some ((vr X 11 0)), some (.int p1), some (.int p2), some (.int p3), some (.int p4), none, none, none, none] [] (cW k X S)
  refine z_aload0 (pc := 0) G vr_r dX10_invoice_0 ?_
  refine x_iload1 (pc := 1) G dX10_invoice_1 ?_
  rcases Decidable.em (¬ (P_num p1 (nS X 24 0))) with c1 | c1
  · exact z_cVt1 (pc := 2) G kb_11 hX.1 hX.l11 B B2 hout (no_requestAt hl hX  c1) rfl q_ml_X10_204 h_X10_requestAt ⟨Nat.le_of_ble_eq_true rfl, Nat.le_of_ble_eq_true rfl⟩ (Nat.le_of_ble_eq_true rfl) (Nat.le_refl _) (Nat.le_refl _) dX10_invoice_2 (by rw [k_invoice, if_neg c1]; exact ⟨rfl, rfl⟩)
  have c1 := Decidable.not_not.mp c1
  refine z_cV1 (pc := 2) G kb_11 hX.1 hX.l11 (ok_requestAt hl hX  c1) rfl q_ml_X10_204 h_X10_requestAt ⟨Nat.le_of_ble_eq_true rfl, Nat.le_of_ble_eq_true rfl⟩ (Nat.le_of_ble_eq_true rfl) (Nat.le_refl _) (Nat.le_refl _) dX10_invoice_2 ?_
  refine z_astore5 (pc := 5) G vr_r dX10_invoice_5 (Nat.le_of_ble_eq_true rfl) rfl ?_
  refine z_aload5 (pc := 7) G vr_r dX10_invoice_7 ?_
  refine x_iload2 (pc := 9) G dX10_invoice_9 ?_
  rcases Decidable.em (¬ (P_num p2 (nS X 29 p1))) with c2 | c2
  · exact x_cSt2 (pc := 10) G B B2 hout (no_lineAt hl hX (hX.el24 c1) c2) q_ml_X10_280 h_X10_lineAt ⟨Nat.le_of_ble_eq_true rfl, Nat.le_of_ble_eq_true rfl⟩ (Nat.le_of_ble_eq_true rfl) (Nat.le_refl _) (Nat.le_refl _) dX10_invoice_10 (by rw [k_invoice, if_pos c1, if_neg c2]; exact ⟨rfl, rfl⟩)
  have c2 := Decidable.not_not.mp c2
  refine x_cS2 (pc := 10) G (ok_lineAt hl hX (hX.el24 c1) c2) q_ml_X10_280 h_X10_lineAt ⟨Nat.le_of_ble_eq_true rfl, Nat.le_of_ble_eq_true rfl⟩ (Nat.le_of_ble_eq_true rfl) (Nat.le_refl _) (Nat.le_refl _) dX10_invoice_10 ?_
  refine z_astore6 (pc := 13) G vr_r dX10_invoice_13 (Nat.le_of_ble_eq_true rfl) lp_c2_vr ?_
  refine x_iload3 (pc := 15) G dX10_invoice_15 ?_
  refine x_iconst (pc := 16) (v := 1) G dX10_invoice_16 ic_1 ?_
  refine x_bipush (pc := 17) (v := 99) G dX10_invoice_17 bp_99 ?_
  rcases Decidable.em (¬ (P_in p3 1 99)) with c3 | c3
  · exact x_cSt3 (pc := 19) G B B2 hout (no_requireRange hl c3) q_ml_X10_92 h_X10_requireRange ⟨Nat.le_of_ble_eq_true rfl, Nat.le_of_ble_eq_true rfl⟩ (Nat.le_of_ble_eq_true rfl) (Nat.le_refl _) (Nat.le_refl _) dX10_invoice_19 (by rw [k_invoice, if_pos c1, if_pos c2, if_neg c3]; exact ⟨rfl, rfl⟩)
  have c3 := Decidable.not_not.mp c3
  refine x_cSv3 (pc := 19) G (ok_requireRange hl c3) q_ml_X10_92 h_X10_requireRange ⟨Nat.le_of_ble_eq_true rfl, Nat.le_of_ble_eq_true rfl⟩ (Nat.le_of_ble_eq_true rfl) (Nat.le_refl _) (Nat.le_refl _) dX10_invoice_19 ?_
  refine x_iload4 (pc := 22) G dX10_invoice_22 ?_
  refine x_iconst (pc := 24) (v := 1) G dX10_invoice_24 ic_1 ?_
  refine x_ldc (pc := 25) G q_cs_X10_208 dX10_invoice_25 ?_
  rcases Decidable.em (¬ (P_in p4 1 100000)) with c4 | c4
  · exact x_cSt3 (pc := 27) G B B2 hout (no_requireRange hl c4) q_ml_X10_92 h_X10_requireRange ⟨Nat.le_of_ble_eq_true rfl, Nat.le_of_ble_eq_true rfl⟩ (Nat.le_of_ble_eq_true rfl) (Nat.le_refl _) (Nat.le_refl _) dX10_invoice_27 (by rw [k_invoice, if_pos c1, if_pos c2, if_pos c3, if_neg c4]; exact ⟨rfl, rfl⟩)
  have c4 := Decidable.not_not.mp c4
  refine x_cSv3 (pc := 27) G (ok_requireRange hl c4) q_ml_X10_92 h_X10_requireRange ⟨Nat.le_of_ble_eq_true rfl, Nat.le_of_ble_eq_true rfl⟩ (Nat.le_of_ble_eq_true rfl) (Nat.le_refl _) (Nat.le_refl _) dX10_invoice_27 ?_
  refine z_aload5 (pc := 30) G vr_r dX10_invoice_30 ?_
  refine z_g (pc := 32) (f := 264) (x := p1) (v := (vr X 9 (ci S 264 p1))) G kb_8 gb_X10_291 rfl hX.1 (hX.el24 c1) cr_264 dX10_invoice_32 ?_
  refine z_astore7 (pc := 35) G vr_r dX10_invoice_35 (Nat.le_of_ble_eq_true rfl) lp_c2_vr ?_
  refine z_aload7 (pc := 37) G vr_r dX10_invoice_37 ?_
  refine z_ifnull (pc := 39) (tgt := 63) (kd := 9) (x := (ci S 264 p1)) G dX10_invoice_39 rfl (fun c5 => ?_) (fun c5 => ?_)
  · exact z_ISE (pc := 63) G B B2 hout (is := 338) (text := "it is not ORDERED, or there are 60 invoices") (by decide +kernel) dX10_invoice_63 dX10_invoice_66 (Or.inr ⟨dX10_invoice_67, dX10_invoice_70, dX10_invoice_73⟩) ⟨Nat.le_of_ble_eq_true rfl, Nat.le_of_ble_eq_true rfl⟩ (Nat.le_of_ble_eq_true rfl) (Nat.le_of_ble_eq_true rfl) (by rw [k_invoice, if_pos c1, if_pos c2, if_pos c3, if_pos c4, if_pos c5]; exact ⟨rfl, rfl⟩)
  refine z_aload5 (pc := 42) G vr_r dX10_invoice_42 ?_
  refine z_g (pc := 44) (f := 259) (x := p1) (v := (.int (ci S 259 p1))) G kb_8 gb_X10_209 rfl hX.1 (hX.el24 c1) cr_259 dX10_invoice_44 ?_
  refine x_iconst (pc := 47) (v := 4) G dX10_invoice_47 ic_4 ?_
  refine x_icmp_ne (pc := 48) (tgt := 63) G dX10_invoice_48 rfl (fun c6 => ?_) (fun c6 => ?_)
  · exact z_ISE (pc := 63) G B B2 hout (is := 338) (text := "it is not ORDERED, or there are 60 invoices") (by decide +kernel) dX10_invoice_63 dX10_invoice_66 (Or.inr ⟨dX10_invoice_67, dX10_invoice_70, dX10_invoice_73⟩) ⟨Nat.le_of_ble_eq_true rfl, Nat.le_of_ble_eq_true rfl⟩ (Nat.le_of_ble_eq_true rfl) (Nat.le_of_ble_eq_true rfl) (by rw [k_invoice, if_pos c1, if_pos c2, if_pos c3, if_pos c4, if_neg c5, if_neg c6]; exact ⟨rfl, rfl⟩)
  refine z_aload0 (pc := 51) G vr_r dX10_invoice_51 ?_
  refine z_g (pc := 52) (f := 357) (x := 0) (v := (aR X 25 0)) G kb_11 gb_X10_28 rfl hX.1 hX.l11 cr_357 dX10_invoice_52 ?_
  refine z_size (pc := 55) (Li := 25) (x := 0) G hX.1 hX.lw25 q_ml_X10_96 ⟨Nat.le_of_ble_eq_true rfl, Nat.le_of_ble_eq_true rfl⟩ (Nat.le_of_ble_eq_true rfl) dX10_invoice_55 ?_
  refine x_bipush (pc := 58) (v := 60) G dX10_invoice_58 bp_60 ?_
  refine x_icmp_lt (pc := 60) (tgt := 74) G dX10_invoice_60 rfl (fun c7 => ?_) (fun c7 => ?_)
  · have hlt : xSz X 25 0 < 60 := (nI_ltI (a := xSz X 25 0) (b := 60) (by have := hL.2.2.1; omega) (by decide)).mp c7
    have hsl : lI X 9 (ci S 264 p1) := (oI.lI (hT.sup (hX.el24 c1)) c5)
    obtain ⟨hi1, hi2, hi3, hi4, hi5⟩ := iv_sup (k := k) hX hT hsl
    refine  x_new (pc := 74) (ci := 3) (N := 18) (C := RX2) (T := TX2) (fs := [.null, .null, .null, .int 0, .int 0, .long 0, .int 0, .int 0, .int 0, .int 0, .long 0, .long 0, .long 0, .int 0, .int 0, .int 0, .long 0, .long 0]) (bc1 := 1) (bs1 := 73) G i_X2 tyX2 tyX2_ok q_cl_X10_340 q_it_X2 q_in_X2 rfl (by decide) (Nat.le_of_ble_eq_true rfl) (Nat.le_of_ble_eq_true rfl) dX10_invoice_74 (fun q hq => ?_)
    refine  x_dup (pc := 77) G dX10_invoice_77 rfl ?_
    refine  z_aload5 (pc := 78) G vr_r dX10_invoice_78 ?_
    refine  z_aload6 (pc := 80) G vr_r dX10_invoice_80 ?_
    refine  z_aload7 (pc := 82) G vr_r dX10_invoice_82 ?_
    refine  x_iload3 (pc := 84) G dX10_invoice_84 ?_
    refine  x_iload4 (pc := 85) G dX10_invoice_85 ?_
    refine  x_callI (bc1 := 1) (bs1 := 73) (pc := 87) (n := 5) (As := [(vr X 8 p1), (vr X 4 (4 * p1 + p2)), (vr X 9 (ci S 264 p1)), .int p3, .int p4]) (st := [.ref q]) G (in_Invoice hl (List.mem_append_right _ List.mem_cons_self) vr_r vr_r vr_r hsl.vr (mem_ap hi1) (ne_of hi1 hq) hi2 hi3 (mem_ap hi4) (ne_of hi4 hq) hi5) q_ml_X10_342 q_im_yX2_init q_in_X2 q_co_yX2_init rfl ⟨by decide +kernel, by decide +kernel, by decide +kernel⟩ ⟨Nat.le_of_ble_eq_true rfl, Nat.le_of_ble_eq_true rfl⟩ (by simp only [List.map_cons, List.map_nil, vr_cat]; exact Nat.le_of_ble_eq_true rfl) (Nat.le_refl _) (Nat.le_refl _) rfl rfl dX10_invoice_87 (fun v9 h9 hp => ?_)
    obtain ⟨e1, rfl⟩ := hp
    cases e1
    obtain ⟨X1, E1, hK1, hT1, hA1, hN1, hv1, ev, hI1, ha1, hf1, hm1⟩ := al_invoice (p1 := p1) (p2 := 4 * p1 + p2) (p3 := ci S 264 p1) (p4 := p3) (p5 := p4) (p6 := ((((p3.toInt64) * (p4.toInt64)) * ((ci S 160 (ci S 289 (ci S 264 p1))).toInt64)) / 1000)) hX hL hT (hX.el24 c1) (hX.el29 (hX.el24 c1) c2) hsl hlt hq
    rw [E1]
    rw [ev]
    rw [show vr X 11 0 = vr X1 11 0 from (hv1 _ _ (by decide)).symm]
    refine  z_astore8 (pc := 90) G vr_r dX10_invoice_90 (Nat.le_of_ble_eq_true rfl) lp_c2_vr ?_
    refine  z_aload0 (pc := 92) G vr_r dX10_invoice_92 ?_
    refine  z_g (pc := 93) (f := 357) (x := 0) (v := (aR X1 25 0)) G kb_11 gb_X10_28 rfl hK1.1 hK1.l11 cr_357 dX10_invoice_93 ?_
    refine  z_aload8 (pc := 96) G vr_r dX10_invoice_96 ?_
    refine  z_add (pc := 98) (Li := 25) (kd := 3) (x := 0) (z := nI (xSz X 25 0)) (bc1 := 0) (bs1 := 0) G hA1 hI1 ⟨rfl, by decide⟩ ((if_pos (by decide)).trans (by rw [nI_clamp (by omega), hf1.2.2]; rfl)) rfl (by decide +kernel) q_ml_X10_75 ⟨Nat.le_of_ble_eq_true rfl, Nat.le_of_ble_eq_true rfl⟩ (Nat.le_of_ble_eq_true rfl) (Nat.le_of_ble_eq_true rfl) (Nat.le_of_ble_eq_true rfl) dX10_invoice_98 (fun X2 hA2 => ?_)
    refine  x_pop (pc := 101) G dX10_invoice_101 rfl ?_
    have hN2 := hN1 X2 hA2
    have hX2 := hN2.1
    have hs2 : nS X2 25 0 = nI (xSz X 25 0 + 1) := nS_AD hA2 rfl (congrFun (congrFun hf1.2.2 25) 0)
    rw [show vr X1 11 0 = vr X2 11 0 from (vr_AD hA2 (by decide)).symm]
    have hm2 : ∀ kd i, lv X kd i → lv X2 kd i := fun _ _ z => (hA2.2.2.2.2.2.2.1 _ _).mpr (Or.inl ((hm1 _ _).mpr (Or.inl z)))
    have hlo : ∀ kd x, kd < 30 → kd ≠ 3 → lI X2 kd x → lI X kd x := fun kd x g1 g2 ⟨m9, e9, e8, z⟩ => ⟨m9, e9, e8, (((hA2.2.2.2.2.2.2.1 _ _).mp z).elim (fun y => ((hm1 _ _).mp y).elim id (fun u => absurd u.1 g2)) (fun y => absurd y.1 (by omega)))⟩
    have hI2 : lI X2 3 (nI (xSz X 25 0)) := lI_mono (fun _ _ z => (hA2.2.2.2.2.2.2.1 _ _).mpr (Or.inl z)) hI1
    have hl2 : lI X2 4 (4 * p1 + p2) := lI_mono hm2 (hX.el29 (hX.el24 c1) c2)
    have hC2 : LC X2 (s_invoice X S p1 (4 * p1 + p2) (ci S 264 p1) p3 p4 ((((p3.toInt64) * (p4.toInt64)) * ((ci S 160 (ci S 289 (ci S 264 p1))).toInt64)) / 1000)) := LC_of hC (fun x hx => hlo 1 x (by decide) (by decide) hx) (fun x => by unfold nS; rw [hN2.2.2.2.2.1]; exact congrArg nI (if_neg (fun z => absurd z.1 (by decide)))) (fun x hx => hlo 8 x (by decide) (by decide) hx) (fun r => by unfold xi; rw [hN2.2.2.1]; rfl) (fun _ => rfl) (fun _ => rfl) rfl
    rw [show vr X1 3 (nI (xSz X 25 0)) = vr X2 3 (nI (xSz X 25 0)) from (vr_AD hA2 (by decide)).symm, show vr X 4 (4 * p1 + p2) = vr X2 4 (4 * p1 + p2) from ((vr_AD hA2 (by decide)).trans (hv1 _ _ (by decide))).symm]
    refine  z_aload6 (pc := 102) G vr_r dX10_invoice_102 ?_
    refine  x_dup (pc := 104) G dX10_invoice_104 vr_cat ?_
    refine  z_g (pc := 105) (f := 133) (x := (4 * p1 + p2)) (v := (.int (ci (s_invoice X S p1 (4 * p1 + p2) (ci S 264 p1) p3 p4 ((((p3.toInt64) * (p4.toInt64)) * ((ci S 160 (ci S 289 (ci S 264 p1))).toInt64)) / 1000)) 133 (4 * p1 + p2)))) G kb_4 gb_X10_319 rfl hX2.1 hl2 cr_133 dX10_invoice_105 ?_
    refine  x_iload3 (pc := 108) G dX10_invoice_108 ?_
    refine  x_iadd (pc := 109) G dX10_invoice_109 ?_
    refine  z_pI (pc := 110) (f := 133) G kb_4 gb_X10_319 rfl hX2.1 hl2 rfl (cr_133.trans (congrArg Value.int ci_ss)) rfl rfl dX10_invoice_110 ?_
    refine  z_aload0 (pc := 113) G vr_r dX10_invoice_113 ?_
    refine  z_aload8 (pc := 114) G vr_r dX10_invoice_114 ?_
    refine  z_cV1 (pc := 116) G kb_11 hX2.1 hX2.l11 (ck_bookUnlessHeld hl hX2 hI2 (hC2.si (f := 133) rfl rfl).1 (hC2.si (f := 133) rfl rfl).2) rfl q_ml_X10_345 h_X10_bookUnlessHeld ⟨Nat.le_of_ble_eq_true rfl, Nat.le_of_ble_eq_true rfl⟩ (Nat.le_of_ble_eq_true rfl) (Nat.le_refl _) (Nat.le_refl _) dX10_invoice_116 ?_
    refine  x_pop (pc := 119) G dX10_invoice_119 rfl ?_
    refine  z_aload0 (pc := 120) G vr_r dX10_invoice_120 ?_
    refine  z_g (pc := 121) (f := 357) (x := 0) (v := (aR X2 25 0)) G kb_11 gb_X10_28 rfl hX2.1 hX2.l11 cr_357 dX10_invoice_121 ?_
    refine  z_size (pc := 124) (Li := 25) (x := 0) G hX2.1 hX2.lw25 q_ml_X10_96 ⟨Nat.le_of_ble_eq_true rfl, Nat.le_of_ble_eq_true rfl⟩ (Nat.le_of_ble_eq_true rfl) dX10_invoice_124 ?_
    refine  x_iconst (pc := 127) (v := 1) G dX10_invoice_127 ic_1 ?_
    refine  x_isub (pc := 128) G dX10_invoice_128 ?_
    exact  x_iret (pc := 129) G B rfl dX10_invoice_129 (by rw [k_invoice, if_pos c1, if_pos c2, if_pos c3, if_pos c4, if_neg c5, if_pos c6, if_pos c7]; exact ⟨by rw [hs2], X2, hN2, by rw [bu_cg hN2.2.2.1 hN2.2.2.2.1]⟩)
  exact z_ISE (pc := 63) G B B2 hout (is := 338) (text := "it is not ORDERED, or there are 60 invoices") (by decide +kernel) dX10_invoice_63 dX10_invoice_66 (Or.inr ⟨dX10_invoice_67, dX10_invoice_70, dX10_invoice_73⟩) ⟨Nat.le_of_ble_eq_true rfl, Nat.le_of_ble_eq_true rfl⟩ (Nat.le_of_ble_eq_true rfl) (Nat.le_of_ble_eq_true rfl) (by rw [k_invoice, if_pos c1, if_pos c2, if_pos c3, if_pos c4, if_neg c5, if_pos c6, if_neg c7]; exact ⟨rfl, rfl⟩)
