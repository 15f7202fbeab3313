/-- how a method that makes a row ends -/
def pAi (k : KC) (X : CX) (S : CT) (Y : CX) (Li i : Nat) (r : (Int32 × CT) ⊕ String) : Out → Wd → Prop := fun o h' => match r with
  | .inl q => o = .inl (some (.int q.1)) ∧ ∃ X2, NX Y X2 Li i ∧ h' = cW k X2 q.2
  | .inr E => o = .inr E ∧ h' = cW k X S
theorem vr_AD {X X2 : CX} {Li i t : Nat} {x : Int32} (h : AD X X2 Li i) (ht : t ≠ Li + 10) : vr X2 t x = vr X t x := by
  unfold vr
  split
  · rfl
  · rw [h.2.2.1 t _ (fun z => ht z.1)]
theorem nS_AD {X X2 : CX} {Li i n : Nat} {x : Int32} (h : AD X X2 Li i) (hx : x.toNatClampNeg = i) (hn : xSz X Li i = n) : nS X2 Li x = nI (n + 1) := by
  unfold nS
  rw [h.2.2.2.1, hx, ← hn]
  exact congrArg nI (if_pos ⟨rfl, rfl⟩)
def y_card (X : CX) (p1 p2 : Int32) : CX := (fiX (fiX X 64 (xSz X 27 0) p1) 65 (xSz X 27 0) p2)
def s_card (X : CX) (S : CT) (p1 p2 : Int32) : CT := (si S 66 (nI (xSz X 27 0)) 0)
theorem al_card {k : KC} {X : CX} {S : CT} (hX : XOK X) (hL : LVX X) (hT : TS X S) {p1 p2 : Int32} (hp1 : lI X 6 p1) (hlt : xSz X 27 0 < 40) {q : Nat} (hq : q ∉ (cW k X S).1) : ∃ X1, ((cW k X S).1 ++ [q], va_up (cW k X S).2 q (.inr (2, [vr X 6 p1, .int p2, .int 0]))) = cW k X1 (s_card X S p1 p2) ∧ XOK X1 ∧ TS X1 (s_card X S p1 p2) ∧ LA X1 27 0 ∧ (∀ X2, AD X1 X2 27 0 → NX (y_card X p1 p2) X2 27 0) ∧ (∀ t x, t ≠ 2 → vr X1 t x = vr X t x) ∧ Value.ref q = vr X1 2 (nI (xSz X 27 0)) ∧ lI X1 2 (nI (xSz X 27 0)) ∧ (∀ L i, 20 ≤ L → xAd X1 L i = xAd X L i) ∧ (xFi X1 = xFi (y_card X p1 p2) ∧ xFj X1 = xFj (y_card X p1 p2) ∧ xSz X1 = xSz X) ∧ ∀ kd i, lv X kd i → lv X1 kd i := by
  have hb := hL.2.2.1
  have hn31 : (xSz X 27 0) < 2 ^ 31 := by omega
  have hd : dead X 2 (xSz X 27 0) := dead.of hX.1 fun z => by
    have h9 : (xSz X 27 0) < (xSz X 27 0) := (hL.1 2 (xSz X 27 0)).mp z
    omega
  have hD : DE X S (fiX (fiX X 64 (xSz X 27 0) p1) 65 (xSz X 27 0) p2) (si S 66 (nI (xSz X 27 0)) 0) 2 (xSz X 27 0) := (DE.si (DE.fi (DE.fi DE.refl (by decide)) (by decide)) (by decide) hn31)
  obtain ⟨E1, HX1⟩ := cW_obj (k := k) (e := (.inr (2, [vr X 6 p1, .int p2, .int 0]))) hX.1 (RO_of hX hL hT) (EA_of hX hL) (by decide) hq hd hD (by
    show Sum.inr (2, [vr X 6 p1, .int p2, .int 0]) = Sum.inr (2, [cR (adX (fiX (fiX X 64 (xSz X 27 0) p1) 65 (xSz X 27 0) p2) 2 (xSz X 27 0) q) (si S 66 (nI (xSz X 27 0)) 0) 64 (xSz X 27 0), cR (adX (fiX (fiX X 64 (xSz X 27 0) p1) 65 (xSz X 27 0) p2) 2 (xSz X 27 0) q) (si S 66 (nI (xSz X 27 0)) 0) 65 (xSz X 27 0), cR (adX (fiX (fiX X 64 (xSz X 27 0) p1) 65 (xSz X 27 0) p2) 2 (xSz X 27 0) q) (si S 66 (nI (xSz X 27 0)) 0) 66 (xSz X 27 0)])
    rw [show cR (adX (fiX (fiX X 64 (xSz X 27 0) p1) 65 (xSz X 27 0) p2) 2 (xSz X 27 0) q) (si S 66 (nI (xSz X 27 0)) 0) 64 (xSz X 27 0) = vr X 6 p1 from ((congrArg (vr _ 6) ((fi_sn rfl).trans fi_ss)).trans (vr_an (by decide))), show cR (adX (fiX (fiX X 64 (xSz X 27 0) p1) 65 (xSz X 27 0) p2) 2 (xSz X 27 0) q) (si S 66 (nI (xSz X 27 0)) 0) 65 (xSz X 27 0) = .int p2 from (congrArg Value.int fi_ss), show cR (adX (fiX (fiX X 64 (xSz X 27 0) p1) 65 (xSz X 27 0) p2) 2 (xSz X 27 0) q) (si S 66 (nI (xSz X 27 0)) 0) 66 (xSz X 27 0) = .int 0 from (congrArg Value.int (si_at hn31))])
  have hK1 := XOK_ob (e := (.inr (2, [vr X 6 p1, .int p2, .int 0]))) hX hq hd hD ⟨by decide, by decide⟩ (by omega) HX1 (fun z => absurd z (by decide)) (fun z => absurd z (by decide)) (fun _ => by rw [show xFi (fiX (fiX X 64 (xSz X 27 0) p1) 65 (xSz X 27 0) p2) 64 _ = p1 from (fi_sn rfl).trans fi_ss]; exact hp1) (fun z => absurd z (by decide))
  have hT1 := TS_ob (e := (.inr (2, [vr X 6 p1, .int p2, .int 0]))) hT hX hq hd hD (by decide) (by omega) (fun z => absurd z (by decide)) (fun z => absurd z (by decide))
  have hA1 := LA_ob (e := (.inr (2, [vr X 6 p1, .int p2, .int 0]))) (LA_of hX hL (by decide) (by decide) ((hL.1 27 0).mpr rfl) (by omega)) hq hD (by decide) HX1
  have hme : lv (obX (fiX (fiX X 64 (xSz X 27 0) p1) 65 (xSz X 27 0) p2) 2 (xSz X 27 0) q (.inr (2, [vr X 6 p1, .int p2, .int 0]))) 2 (xSz X 27 0) := ob_me hX.1 hq hD
  have hlI : lI (obX (fiX (fiX X 64 (xSz X 27 0) p1) 65 (xSz X 27 0) p2) 2 (xSz X 27 0) q (.inr (2, [vr X 6 p1, .int p2, .int 0]))) 2 (nI (xSz X 27 0)) := ⟨_, by omega, rfl, hme⟩
  refine ⟨_, E1, hK1, hT1, hA1, fun X2 hA2 => ⟨XOK.ad hK1 hA2 hA1.2.2.1 ⟨?_, ?_⟩, LVX_27 hL hX.1 hq hD hlt hA2, hA2.2.1.1, hA2.2.1.2, hA2.2.2.2.1⟩, fun t x ht => vr_an ht, ?_, hlI, fun L i h20 => ad_ne (fun z => by omega), ⟨rfl, rfl, rfl⟩, ob_hm hX.1 hq hD⟩
  · show xSz X 27 0 < 2 ^ 30
    omega
  · exact hme
  · rw [hlI.vr, nI_clamp hn31]
    exact congrArg Value.ref ad_ad.symm
theorem dX10_card_0 : decode cX10_card 0 = .ok (.aload_n 0, 1) := by decide +kernel
theorem dX10_card_1 : decode cX10_card 1 = .ok (.iload_n 1, 1) := by decide +kernel
theorem dX10_card_2 : decode cX10_card 2 = .ok (.invokevirtual 87, 3) := by decide +kernel
theorem dX10_card_5 : decode cX10_card 5 = .ok (.astore_n 3, 1) := by decide +kernel
theorem dX10_card_6 : decode cX10_card 6 = .ok (.iload_n 2, 1) := by decide +kernel
theorem dX10_card_7 : decode cX10_card 7 = .ok (.iconst 1, 1) := by decide +kernel
theorem dX10_card_8 : decode cX10_card 8 = .ok (.ldc_w 416, 3) := by decide +kernel
theorem dX10_card_11 : decode cX10_card 11 = .ok (.invokestatic 92, 3) := by decide +kernel
theorem dX10_card_14 : decode cX10_card 14 = .ok (.aload_n 0, 1) := by decide +kernel
theorem dX10_card_15 : decode cX10_card 15 = .ok (.getfield 34, 3) := by decide +kernel
theorem dX10_card_18 : decode cX10_card 18 = .ok (.invokevirtual 96, 3) := by decide +kernel
theorem dX10_card_21 : decode cX10_card 21 = .ok (.bipush 40, 2) := by decide +kernel
theorem dX10_card_23 : decode cX10_card 23 = .ok (.if_icmp .lt 14, 3) := by decide +kernel
theorem dX10_card_26 : decode cX10_card 26 = .ok (.new 100, 3) := by decide +kernel
theorem dX10_card_29 : decode cX10_card 29 = .ok (.dup, 1) := by decide +kernel
theorem dX10_card_30 : decode cX10_card 30 = .ok (.ldc_w 420, 3) := by decide +kernel
theorem dX10_card_33 : decode cX10_card 33 = .ok (.invokespecial 104, 3) := by decide +kernel
theorem dX10_card_36 : decode cX10_card 36 = .ok (.athrow, 1) := by decide +kernel
theorem dX10_card_37 : decode cX10_card 37 = .ok (.aload_n 0, 1) := by decide +kernel
theorem dX10_card_38 : decode cX10_card 38 = .ok (.getfield 34, 3) := by decide +kernel
theorem dX10_card_41 : decode cX10_card 41 = .ok (.new 422, 3) := by decide +kernel
theorem dX10_card_44 : decode cX10_card 44 = .ok (.dup, 1) := by decide +kernel
theorem dX10_card_45 : decode cX10_card 45 = .ok (.aload_n 3, 1) := by decide +kernel
theorem dX10_card_46 : decode cX10_card 46 = .ok (.iload_n 2, 1) := by decide +kernel
theorem dX10_card_47 : decode cX10_card 47 = .ok (.invokespecial 424, 3) := by decide +kernel
theorem dX10_card_50 : decode cX10_card 50 = .ok (.invokevirtual 75, 3) := by decide +kernel
theorem dX10_card_53 : decode cX10_card 53 = .ok (.pop, 1) := by decide +kernel
theorem dX10_card_54 : decode cX10_card 54 = .ok (.aload_n 0, 1) := by decide +kernel
theorem dX10_card_55 : decode cX10_card 55 = .ok (.getfield 34, 3) := by decide +kernel
theorem dX10_card_58 : decode cX10_card 58 = .ok (.invokevirtual 96, 3) := by decide +kernel
theorem dX10_card_61 : decode cX10_card 61 = .ok (.iconst 1, 1) := by decide +kernel
theorem dX10_card_62 : decode cX10_card 62 = .ok (.isub, 1) := by decide +kernel
theorem dX10_card_63 : decode cX10_card 63 = .ok (.ireturn, 1) := by decide +kernel
def k_card (p1 : Int32) (p2 : Int32) (X : CX) (S : CT) : (Int32 × CT) ⊕ String :=
    if P_num p1 (nS X 20 0) then
      if P_in p2 1 1000000 then
        if (nS X 27 0) < 40 then
          .inl ((nI (xSz X 27 0 + 1)) - 1, (s_card X S p1 p2))
        else
        .inr "java/lang/IllegalStateException"
      else
      .inr "java/lang/IllegalArgumentException"
    else
    .inr "java/lang/IndexOutOfBoundsException"
abbrev rma_card : Room := { frames := 8, cells := 2, slots := 76, locals := 240 }
set_option maxRecDepth 100000 in
set_option maxHeartbeats 4000000 in
theorem ck_card {l : Launch} {k : KC} (hl : l.stackTraces = false) {X : CX} {S : CT} (hX : XOK X) (hL : LVX X) (hT : TS X S) {p1 : Int32} {p2 : Int32}  : MC l k yX10_card (.code yX10_card cX10_card 4 (some .int)) rma_card [(vr X 11 0), .int p1, .int p2] (cW k X S) (pAi k X S (y_card X p1 p2) 27 0 (k_card p1 p2 X S)) := by
  refine MC.of 1 hl (by decide) (by simp only [lg_sl_vr, lg_sl_i, lg_sl_l, lg_sl_0]; exact Nat.le_of_ble_eq_true rfl) ?_
  intro p e s m args below meth c A Q G B B2 hout
  simp only [lp_args_vr, lp_args_i, lp_args_l, lp_args_0]
  show Wx p l e rma_card s m args below meth c k A 4 Q 2 76 0 [some ((vr X 11 0)), some (.int p1), some (.int p2), none] [] (cW k X S)
  refine z_aload0 (pc := 0) G vr_r dX10_card_0 ?_
  refine x_iload1 (pc := 1) G dX10_card_1 ?_
  rcases Decidable.em (¬ (P_num p1 (nS X 20 0))) with c1 | c1
  · exact z_cVt1 (pc := 2) G kb_11 hX.1 hX.l11 B B2 hout (no_personAt hl hX  c1) rfl q_ml_X10_87 h_X10_personAt ⟨Nat.le_of_ble_eq_true rfl, Nat.le_of_ble_eq_true rfl⟩ (Nat.le_of_ble_eq_true rfl) (Nat.le_refl _) (Nat.le_refl _) dX10_card_2 (by rw [k_card, if_neg c1]; exact ⟨rfl, rfl⟩)
  have c1 := Decidable.not_not.mp c1
  refine z_cV1 (pc := 2) G kb_11 hX.1 hX.l11 (ok_personAt hl hX  c1) rfl q_ml_X10_87 h_X10_personAt ⟨Nat.le_of_ble_eq_true rfl, Nat.le_of_ble_eq_true rfl⟩ (Nat.le_of_ble_eq_true rfl) (Nat.le_refl _) (Nat.le_refl _) dX10_card_2 ?_
  refine z_astore3 (pc := 5) G vr_r dX10_card_5 (Nat.le_of_ble_eq_true rfl) rfl ?_
  refine x_iload2 (pc := 6) G dX10_card_6 ?_
  refine x_iconst (pc := 7) (v := 1) G dX10_card_7 ic_1 ?_
  refine x_ldcw (pc := 8) G q_cs_X10_416 dX10_card_8 ?_
  rcases Decidable.em (¬ (P_in p2 1 1000000)) with c2 | c2
  · exact x_cSt3 (pc := 11) G B B2 hout (no_requireRange hl c2) q_ml_X10_92 h_X10_requireRange ⟨Nat.le_of_ble_eq_true rfl, Nat.le_of_ble_eq_true rfl⟩ (Nat.le_of_ble_eq_true rfl) (Nat.le_refl _) (Nat.le_refl _) dX10_card_11 (by rw [k_card, if_pos c1, if_neg c2]; exact ⟨rfl, rfl⟩)
  have c2 := Decidable.not_not.mp c2
  refine x_cSv3 (pc := 11) G (ok_requireRange hl c2) q_ml_X10_92 h_X10_requireRange ⟨Nat.le_of_ble_eq_true rfl, Nat.le_of_ble_eq_true rfl⟩ (Nat.le_of_ble_eq_true rfl) (Nat.le_refl _) (Nat.le_refl _) dX10_card_11 ?_
  refine z_aload0 (pc := 14) G vr_r dX10_card_14 ?_
  refine z_g (pc := 15) (f := 359) (x := 0) (v := (aR X 27 0)) G kb_11 gb_X10_34 rfl hX.1 hX.l11 cr_359 dX10_card_15 ?_
  refine z_size (pc := 18) (Li := 27) (x := 0) G hX.1 hX.lw27 q_ml_X10_96 ⟨Nat.le_of_ble_eq_true rfl, Nat.le_of_ble_eq_true rfl⟩ (Nat.le_of_ble_eq_true rfl) dX10_card_18 ?_
  refine x_bipush (pc := 21) (v := 40) G dX10_card_21 bp_40 ?_
  refine x_icmp_lt (pc := 23) (tgt := 37) G dX10_card_23 rfl (fun c3 => ?_) (fun c3 => ?_)
  · refine z_aload0 (pc := 37) G vr_r dX10_card_37 ?_
    refine z_g (pc := 38) (f := 359) (x := 0) (v := (aR X 27 0)) G kb_11 gb_X10_34 rfl hX.1 hX.l11 cr_359 dX10_card_38 ?_
    have hlt : xSz X 27 0 < 40 := (nI_ltI (a := xSz X 27 0) (b := 40) (by have := hL.2.2.1; omega) (by decide)).mp c3
    refine  x_new (pc := 41) (ci := 2) (N := 3) (C := RX1) (T := TX1) (fs := [.null, .int 0, .int 0]) (bc1 := 1) (bs1 := 73) G i_X1 tyX1 tyX1_ok q_cl_X10_422 q_it_X1 q_in_X1 rfl (by decide) (Nat.le_of_ble_eq_true rfl) (Nat.le_of_ble_eq_true rfl) dX10_card_41 (fun q hq => ?_)
    refine  x_dup (pc := 44) G dX10_card_44 rfl ?_
    refine  z_aload3 (pc := 45) G vr_r dX10_card_45 ?_
    refine  x_iload2 (pc := 46) G dX10_card_46 ?_
    refine  x_callI (pc := 47) (n := 2) (As := [(vr X 6 p1), .int p2]) (st := [.ref q, (aR X 27 0)]) G (in_Entry hl (List.mem_append_right _ List.mem_cons_self) vr_r) q_ml_X10_424 q_im_yX1_init q_in_X1 q_co_yX1_init rfl ⟨by decide +kernel, by decide +kernel, by decide +kernel⟩ ⟨Nat.le_of_ble_eq_true rfl, Nat.le_of_ble_eq_true rfl⟩ (by simp only [List.map_cons, List.map_nil, vr_cat]; exact Nat.le_of_ble_eq_true rfl) (Nat.le_refl _) (Nat.le_refl _) rfl rfl dX10_card_47 (fun v9 h9 hp => ?_)
    obtain ⟨e1, rfl⟩ := hp
    cases e1
    obtain ⟨X1, E1, hK1, hT1, hA1, hN1, hv1, ev, hI1, ha1, hf1, hm1⟩ := al_card (p1 := p1) (p2 := p2) hX hL hT (hX.el20 c1) hlt hq
    rw [E1]
    rw [ev, show aR X 27 0 = aR X1 27 0 from congrArg Value.ref (ha1 _ _ (by decide)).symm]
    refine  z_add (pc := 50) (Li := 27) (kd := 2) (x := 0) (z := nI (xSz X 27 0)) (bc1 := 0) (bs1 := 0) G hA1 hI1 ⟨rfl, by decide⟩ ((if_pos (by decide)).trans (by rw [nI_clamp (by omega), hf1.2.2]; rfl)) rfl (by decide +kernel) q_ml_X10_75 ⟨Nat.le_of_ble_eq_true rfl, Nat.le_of_ble_eq_true rfl⟩ (Nat.le_of_ble_eq_true rfl) (Nat.le_of_ble_eq_true rfl) (Nat.le_of_ble_eq_true rfl) dX10_card_50 (fun X2 hA2 => ?_)
    refine  x_pop (pc := 53) G dX10_card_53 rfl ?_
    have hN2 := hN1 X2 hA2
    have hX2 := hN2.1
    have hs2 : nS X2 27 0 = nI ((xSz X 27 0) + 1) := nS_AD hA2 rfl (congrFun (congrFun hf1.2.2 27) 0)
    rw [show vr X 11 0 = vr X2 11 0 from ((vr_AD hA2 (by decide)).trans (hv1 _ _ (by decide))).symm]
    refine  z_aload0 (pc := 54) G vr_r dX10_card_54 ?_
    refine  z_g (pc := 55) (f := 359) (x := 0) (v := (aR X2 27 0)) G kb_11 gb_X10_34 rfl hX2.1 hX2.l11 cr_359 dX10_card_55 ?_
    refine  z_size (pc := 58) (Li := 27) (x := 0) G hX2.1 hX2.lw27 q_ml_X10_96 ⟨Nat.le_of_ble_eq_true rfl, Nat.le_of_ble_eq_true rfl⟩ (Nat.le_of_ble_eq_true rfl) dX10_card_58 ?_
    refine  x_iconst (pc := 61) (v := 1) G dX10_card_61 ic_1 ?_
    refine  x_isub (pc := 62) G dX10_card_62 ?_
    exact  x_iret (pc := 63) G B rfl dX10_card_63 (by rw [k_card, if_pos c1, if_pos c2, if_pos c3]; exact ⟨by rw [hs2], X2, hN2, rfl⟩)
  exact z_ISE (pc := 26) G B B2 hout (is := 420) (text := "there are 40 card entries") (by decide +kernel) dX10_card_26 dX10_card_29 (Or.inr ⟨dX10_card_30, dX10_card_33, dX10_card_36⟩) ⟨Nat.le_of_ble_eq_true rfl, Nat.le_of_ble_eq_true rfl⟩ (Nat.le_of_ble_eq_true rfl) (Nat.le_of_ble_eq_true rfl) (by rw [k_card, if_pos c1, if_pos c2, if_neg c3]; exact ⟨rfl, rfl⟩)
