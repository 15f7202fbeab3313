/-- how a method that makes a row ends -/
def pAi (k : KC) (X : CX) (S : CT) (Y : CX) (Li i : Nat) (r : (Int32 × CT) ⊕ String) : Out → Wd → Prop := fun o h' => match r with
  | .inl q => o = .inl (some (.int q.1)) ∧ ∃ X2, NX Y X2 Li i ∧ h' = cW k X2 q.2
  | .inr E => o = .inr E ∧ h' = cW k X S
theorem vr_AD {X X2 : CX} {Li i t : Nat} {x : Int32} (h : AD X X2 Li i) (ht : t ≠ Li + 10) : vr X2 t x = vr X t x := by
  unfold vr
  split
  · rfl
  · rw [h.2.2.1 t _ (fun z => ht z.1)]
theorem nS_AD {X X2 : CX} {Li i n : Nat} {x : Int32} (h : AD X X2 Li i) (hx : x.toNatClampNeg = i) (hn : xSz X Li i = n) : nS X2 Li x = nI (n + 1) := by
  unfold nS
  rw [h.2.2.2.1, hx, ← hn]
  exact congrArg nI (if_pos ⟨rfl, rfl⟩)
theorem fi_a {X : CX} {kd n a g m : Nat} : xFi (adX X kd n a) g m = xFi X g m := rfl
theorem fj_a {X : CX} {kd n a g m : Nat} : xFj (adX X kd n a) g m = xFj X g m := rfl
theorem fi_j {X : CX} {f n g m : Nat} {v : Int64} : xFi (fjX X f n v) g m = xFi X g m := rfl
theorem fj_i {X : CX} {f n g m : Nat} {v : Int32} : xFj (fiX X f n v) g m = xFj X g m := rfl
theorem XOK.nw {X : CX} {q : Nat} {e : va_E} (h : XOK X) : XOK (nwX X q e) := ⟨h.1.nw, h.2⟩
def y_card (X : CX) (p1 p2 : Int32) : CX := (fiX (fiX X 64 (xSz X 27 0) p1) 65 (xSz X 27 0) p2)
def s_card (X : CX) (S : CT) (p1 p2 : Int32) : CT := (si S 66 (nI (xSz X 27 0)) 0)
theorem al_card {k : KC} {X : CX} {S : CT} (hX : XOK X) (hL : LVX X) (hT : TS X S) {p1 p2 : Int32} (hp1 : lI X 6 p1) (hlt : xSz X 27 0 < 40) {q : Nat} (hq : q ∉ (cW k X S).1) : ∃ X1, ((cW k X S).1 ++ [q], va_up (cW k X S).2 q (.inr (2, [vr X 6 p1, .int p2, .int 0]))) = cW k X1 (s_card X S p1 p2) ∧ XOK X1 ∧ TS X1 (s_card X S p1 p2) ∧ LA X1 27 0 ∧ (∀ X2, AD X1 X2 27 0 → NX (y_card X p1 p2) X2 27 0) ∧ (∀ t x, t ≠ 2 → vr X1 t x = vr X t x) ∧ Value.ref q = vr X1 2 (nI (xSz X 27 0)) ∧ lI X1 2 (nI (xSz X 27 0)) ∧ (∀ L i, 20 ≤ L → xAd X1 L i = xAd X L i) ∧ (xFi X1 = xFi (y_card X p1 p2) ∧ xFj X1 = xFj (y_card X p1 p2) ∧ xSz X1 = xSz X) ∧ ∀ k' i, lv X1 k' i ↔ lv X k' i ∨ (k' = 2 ∧ i = (xSz X 27 0)) := by
  have hb := hL.2.2.1
  have hn31 : (xSz X 27 0) < 2 ^ 31 := by omega
  have hd : dead X 2 (xSz X 27 0) := dead.of hX.1 fun z => by
    have h9 : (xSz X 27 0) < (xSz X 27 0) := (hL.1 2 (xSz X 27 0)).mp z
    omega
  have hD : DE X S (fiX (fiX X 64 (xSz X 27 0) p1) 65 (xSz X 27 0) p2) (si S 66 (nI (xSz X 27 0)) 0) 2 (xSz X 27 0) := (DE.si (DE.fi (DE.fi DE.refl (by decide)) (by decide)) (by decide) hn31)
  obtain ⟨E1, HX1⟩ := cW_obj (k := k) (e := (.inr (2, [vr X 6 p1, .int p2, .int 0]))) hX.1 (RO_of hX hL hT) (EA_of hX hL) (by decide) hq hd hD (by
    show Sum.inr (2, [vr X 6 p1, .int p2, .int 0]) = Sum.inr (2, [cR (adX (fiX (fiX X 64 (xSz X 27 0) p1) 65 (xSz X 27 0) p2) 2 (xSz X 27 0) q) (si S 66 (nI (xSz X 27 0)) 0) 64 (xSz X 27 0), cR (adX (fiX (fiX X 64 (xSz X 27 0) p1) 65 (xSz X 27 0) p2) 2 (xSz X 27 0) q) (si S 66 (nI (xSz X 27 0)) 0) 65 (xSz X 27 0), cR (adX (fiX (fiX X 64 (xSz X 27 0) p1) 65 (xSz X 27 0) p2) 2 (xSz X 27 0) q) (si S 66 (nI (xSz X 27 0)) 0) 66 (xSz X 27 0)])
    rw [show cR (adX (fiX (fiX X 64 (xSz X 27 0) p1) 65 (xSz X 27 0) p2) 2 (xSz X 27 0) q) (si S 66 (nI (xSz X 27 0)) 0) 64 (xSz X 27 0) = vr X 6 p1 from ((congrArg (vr _ 6) (fi_a.trans ((fi_sn rfl).trans fi_ss))).trans (vr_an (by decide))), show cR (adX (fiX (fiX X 64 (xSz X 27 0) p1) 65 (xSz X 27 0) p2) 2 (xSz X 27 0) q) (si S 66 (nI (xSz X 27 0)) 0) 65 (xSz X 27 0) = .int p2 from (congrArg Value.int (fi_a.trans fi_ss)), show cR (adX (fiX (fiX X 64 (xSz X 27 0) p1) 65 (xSz X 27 0) p2) 2 (xSz X 27 0) q) (si S 66 (nI (xSz X 27 0)) 0) 66 (xSz X 27 0) = .int 0 from (congrArg Value.int (si_at hn31))])
  have hK1 := XOK_ob (e := (.inr (2, [vr X 6 p1, .int p2, .int 0]))) hX hq hd hD ⟨by decide, by decide⟩ (by omega) HX1 (fun z => absurd z (by decide)) (fun z => absurd z (by decide)) (fun _ => by rw [show xFi (fiX (fiX X 64 (xSz X 27 0) p1) 65 (xSz X 27 0) p2) 64 _ = p1 from (fi_sn rfl).trans fi_ss]; exact hp1) (fun z => absurd z (by decide))
  have hT1 := TS_ob (e := (.inr (2, [vr X 6 p1, .int p2, .int 0]))) hT hX hq hd hD (by decide) (by omega) (fun z => absurd z (by decide)) (fun z => absurd z (by decide))
  have hA1 := LA_ob (e := (.inr (2, [vr X 6 p1, .int p2, .int 0]))) (LA_of hX hL (by decide) (by decide) ((hL.1 27 0).mpr rfl) (by omega)) hq hD (by decide) HX1
  have hme : lv (obX (fiX (fiX X 64 (xSz X 27 0) p1) 65 (xSz X 27 0) p2) 2 (xSz X 27 0) q (.inr (2, [vr X 6 p1, .int p2, .int 0]))) 2 (xSz X 27 0) := ob_me hX.1 hq hD
  have hlI : lI (obX (fiX (fiX X 64 (xSz X 27 0) p1) 65 (xSz X 27 0) p2) 2 (xSz X 27 0) q (.inr (2, [vr X 6 p1, .int p2, .int 0]))) 2 (nI (xSz X 27 0)) := ⟨_, by omega, rfl, hme⟩
  refine ⟨_, E1, hK1, hT1, hA1, fun X2 hA2 => ⟨XOK.ad hK1 hA2 hA1.2.2.1 ⟨?_, ?_⟩, LVX_27 hL hX.1 hq hD hlt hA2, hA2.2.1.1, hA2.2.1.2, hA2.2.2.2.1, (hA2.2.2.1 11 0 (by omega)).trans (ad_ne (fun z => by omega))⟩, fun t x ht => vr_an ht, ?_, hlI, fun L i h20 => ad_ne (fun z => by omega), ⟨rfl, rfl, rfl⟩, fun k' i => lv_ob hX.1 hq hD.1⟩
  · show xSz X 27 0 < 2 ^ 30
    omega
  · exact hme
  · rw [hlI.vr, nI_clamp hn31]
    exact congrArg Value.ref ad_ad.symm
theorem dX10_card_0 : decode cX10_card 0 = .ok (.aload_n 0, 1) := by decide +kernel
theorem dX10_card_1 : decode cX10_card 1 = .ok (.iload_n 1, 1) := by decide +kernel
theorem dX10_card_2 : decode cX10_card 2 = .ok (.invokevirtual 87, 3) := by decide +kernel
theorem dX10_card_5 : decode cX10_card 5 = .ok (.astore_n 3, 1) := by decide +kernel
theorem dX10_card_6 : decode cX10_card 6 = .ok (.iload_n 2, 1) := by decide +kernel
theorem dX10_card_7 : decode cX10_card 7 = .ok (.iconst 1, 1) := by decide +kernel
theorem dX10_card_8 : decode cX10_card 8 = .ok (.ldc_w 416, 3) := by decide +kernel
theorem dX10_card_11 : decode cX10_card 11 = .ok (.invokestatic 92, 3) := by decide +kernel
theorem dX10_card_14 : decode cX10_card 14 = .ok (.aload_n 0, 1) := by decide +kernel
theorem dX10_card_15 : decode cX10_card 15 = .ok (.getfield 34, 3) := by decide +kernel
theorem dX10_card_18 : decode cX10_card 18 = .ok (.invokevirtual 96, 3) := by decide +kernel
theorem dX10_card_21 : decode cX10_card 21 = .ok (.bipush 40, 2) := by decide +kernel
theorem dX10_card_23 : decode cX10_card 23 = .ok (.if_icmp .lt 14, 3) := by decide +kernel
theorem dX10_card_26 : decode cX10_card 26 = .ok (.new 100, 3) := by decide +kernel
theorem dX10_card_29 : decode cX10_card 29 = .ok (.dup, 1) := by decide +kernel
theorem dX10_card_30 : decode cX10_card 30 = .ok (.ldc_w 420, 3) := by decide +kernel
theorem dX10_card_33 : decode cX10_card 33 = .ok (.invokespecial 104, 3) := by decide +kernel
theorem dX10_card_36 : decode cX10_card 36 = .ok (.athrow, 1) := by decide +kernel
theorem dX10_card_37 : decode cX10_card 37 = .ok (.aload_n 0, 1) := by decide +kernel
theorem dX10_card_38 : decode cX10_card 38 = .ok (.getfield 34, 3) := by decide +kernel
theorem dX10_card_41 : decode cX10_card 41 = .ok (.new 422, 3) := by decide +kernel
theorem dX10_card_44 : decode cX10_card 44 = .ok (.dup, 1) := by decide +kernel
theorem dX10_card_45 : decode cX10_card 45 = .ok (.aload_n 3, 1) := by decide +kernel
theorem dX10_card_46 : decode cX10_card 46 = .ok (.iload_n 2, 1) := by decide +kernel
theorem dX10_card_47 : decode cX10_card 47 = .ok (.invokespecial 424, 3) := by decide +kernel
theorem dX10_card_50 : decode cX10_card 50 = .ok (.invokevirtual 75, 3) := by decide +kernel
theorem dX10_card_53 : decode cX10_card 53 = .ok (.pop, 1) := by decide +kernel
theorem dX10_card_54 : decode cX10_card 54 = .ok (.aload_n 0, 1) := by decide +kernel
theorem dX10_card_55 : decode cX10_card 55 = .ok (.getfield 34, 3) := by decide +kernel
theorem dX10_card_58 : decode cX10_card 58 = .ok (.invokevirtual 96, 3) := by decide +kernel
theorem dX10_card_61 : decode cX10_card 61 = .ok (.iconst 1, 1) := by decide +kernel
theorem dX10_card_62 : decode cX10_card 62 = .ok (.isub, 1) := by decide +kernel
theorem dX10_card_63 : decode cX10_card 63 = .ok (.ireturn, 1) := by decide +kernel
def k_card (p1 : Int32) (p2 : Int32) (X : CX) (S : CT) : (Int32 × CT) ⊕ String :=
    if P_num p1 (nS X 20 0) then
      if P_in p2 1 1000000 then
        if (nS X 27 0) < 40 then
          .inl ((nI (xSz X 27 0 + 1)) - 1, (s_card X S p1 p2))
        else
        .inr "java/lang/IllegalStateException"
      else
      .inr "java/lang/IllegalArgumentException"
    else
    .inr "java/lang/IndexOutOfBoundsException"
abbrev rma_card : Room := { frames := 8, cells := 2, slots := 76, locals := 240 }
set_option maxRecDepth 100000 in
set_option maxHeartbeats 4000000 in
theorem ck_card {l : Launch} {k : KC} (hl : l.stackTraces = false) {X : CX} {S : CT} (hX : XOK X) (hL : LVX X) (hT : TS X S) {p1 : Int32} {p2 : Int32}  : MC l k yX10_card (.code yX10_card cX10_card 4 (some .int)) rma_card [(vr X 11 0), .int p1, .int p2] (cW k X S) (pAi k X S (y_card X p1 p2) 27 0 (k_card p1 p2 X S)) := by
  refine MC.of 1 hl (by decide) (by simp only [lg_sl_vr, lg_sl_i, lg_sl_l, lg_sl_0]; exact Nat.le_of_ble_eq_true rfl) ?_
  intro p e s m args below meth c A Q G B B2 hout
  simp only [lp_args_vr, lp_args_i, lp_args_l, lp_args_0]
  show Wx p l e rma_card s m args below meth c k A 4 Q 2 76 0 [some ((vr X 11 0)), some (.int p1), some (.int p2), none] [] (cW k X S)
  refine z_aload0 (pc := 0) G vr_r dX10_card_0 ?_
  refine x_iload1 (pc := 1) G dX10_card_1 ?_
  rcases Decidable.em (¬ (P_num p1 (nS X 20 0))) with c1 | c1
  · exact z_cVt1 (pc := 2) G kb_11 hX.1 hX.l11 B B2 hout (no_personAt hl hX  c1) rfl q_ml_X10_87 h_X10_personAt ⟨Nat.le_of_ble_eq_true rfl, Nat.le_of_ble_eq_true rfl⟩ (Nat.le_of_ble_eq_true rfl) (Nat.le_refl _) (Nat.le_refl _) dX10_card_2 (by rw [k_card, if_neg c1]; exact ⟨rfl, rfl⟩)
  have c1 := Decidable.not_not.mp c1
  refine z_cV1 (pc := 2) G kb_11 hX.1 hX.l11 (ok_personAt hl hX  c1) rfl q_ml_X10_87 h_X10_personAt ⟨Nat.le_of_ble_eq_true rfl, Nat.le_of_ble_eq_true rfl⟩ (Nat.le_of_ble_eq_true rfl) (Nat.le_refl _) (Nat.le_refl _) dX10_card_2 ?_
  refine z_astore3 (pc := 5) G vr_r dX10_card_5 (Nat.le_of_ble_eq_true rfl) rfl ?_
  refine x_iload2 (pc := 6) G dX10_card_6 ?_
  refine x_iconst (pc := 7) (v := 1) G dX10_card_7 ic_1 ?_
  refine x_ldcw (pc := 8) G q_cs_X10_416 dX10_card_8 ?_
  rcases Decidable.em (¬ (P_in p2 1 1000000)) with c2 | c2
  · exact x_cSt3 (pc := 11) G B B2 hout (no_requireRange hl c2) q_ml_X10_92 h_X10_requireRange ⟨Nat.le_of_ble_eq_true rfl, Nat.le_of_ble_eq_true rfl⟩ (Nat.le_of_ble_eq_true rfl) (Nat.le_refl _) (Nat.le_refl _) dX10_card_11 (by rw [k_card, if_pos c1, if_neg c2]; exact ⟨rfl, rfl⟩)
  have c2 := Decidable.not_not.mp c2
  refine x_cSv3 (pc := 11) G (ok_requireRange hl c2) q_ml_X10_92 h_X10_requireRange ⟨Nat.le_of_ble_eq_true rfl, Nat.le_of_ble_eq_true rfl⟩ (Nat.le_of_ble_eq_true rfl) (Nat.le_refl _) (Nat.le_refl _) dX10_card_11 ?_
  refine z_aload0 (pc := 14) G vr_r dX10_card_14 ?_
  refine z_g (pc := 15) (f := 359) (x := 0) (v := (aR X 27 0)) G kb_11 gb_X10_34 rfl hX.1 hX.l11 cr_359 dX10_card_15 ?_
  refine z_size (pc := 18) (Li := 27) (x := 0) G hX.1 hX.lw27 q_ml_X10_96 ⟨Nat.le_of_ble_eq_true rfl, Nat.le_of_ble_eq_true rfl⟩ (Nat.le_of_ble_eq_true rfl) dX10_card_18 ?_
  refine x_bipush (pc := 21) (v := 40) G dX10_card_21 bp_40 ?_
  refine x_icmp_lt (pc := 23) (tgt := 37) G dX10_card_23 rfl (fun c3 => ?_) (fun c3 => ?_)
  · refine z_aload0 (pc := 37) G vr_r dX10_card_37 ?_
    refine z_g (pc := 38) (f := 359) (x := 0) (v := (aR X 27 0)) G kb_11 gb_X10_34 rfl hX.1 hX.l11 cr_359 dX10_card_38 ?_
    have hlt : xSz X 27 0 < 40 := (nI_ltI (a := xSz X 27 0) (b := 40) (by have := hL.2.2.1; omega) (by decide)).mp c3
    refine  x_new (pc := 41) (ci := 2) (N := 3) (C := RX1) (T := TX1) (fs := [.null, .int 0, .int 0]) (bc1 := 1) (bs1 := 73) G i_X1 tyX1 tyX1_ok q_cl_X10_422 q_it_X1 q_in_X1 rfl (by decide) (Nat.le_of_ble_eq_true rfl) (Nat.le_of_ble_eq_true rfl) dX10_card_41 (fun q hq => ?_)
    refine  x_dup (pc := 44) G dX10_card_44 rfl ?_
    refine  z_aload3 (pc := 45) G vr_r dX10_card_45 ?_
    refine  x_iload2 (pc := 46) G dX10_card_46 ?_
    refine  x_callI (bc1 := 1) (bs1 := 73) (pc := 47) (n := 2) (As := [(vr X 6 p1), .int p2]) (st := [.ref q, (aR X 27 0)]) G (in_Entry hl (List.mem_append_right _ List.mem_cons_self) vr_r) q_ml_X10_424 q_im_yX1_init q_in_X1 q_co_yX1_init rfl ⟨by decide +kernel, by decide +kernel, by decide +kernel⟩ ⟨Nat.le_of_ble_eq_true rfl, Nat.le_of_ble_eq_true rfl⟩ (by simp only [List.map_cons, List.map_nil, vr_cat]; exact Nat.le_of_ble_eq_true rfl) (Nat.le_refl _) (Nat.le_refl _) rfl rfl dX10_card_47 (fun v9 h9 hp => ?_)
    obtain ⟨e1, rfl⟩ := hp
    cases e1
    obtain ⟨X1, E1, hK1, hT1, hA1, hN1, hv1, ev, hI1, ha1, hf1, hm1⟩ := al_card (p1 := p1) (p2 := p2) hX hL hT (hX.el20 c1) hlt hq
    rw [E1]
    rw [ev, show aR X 27 0 = aR X1 27 0 from congrArg Value.ref (ha1 _ _ (by decide)).symm]
    refine  z_add (pc := 50) (Li := 27) (kd := 2) (x := 0) (z := nI (xSz X 27 0)) (bc1 := 0) (bs1 := 0) G hA1 hI1 ⟨rfl, by decide⟩ ((if_pos (by decide)).trans (by rw [nI_clamp (by omega), hf1.2.2]; rfl)) rfl (by decide +kernel) q_ml_X10_75 ⟨Nat.le_of_ble_eq_true rfl, Nat.le_of_ble_eq_true rfl⟩ (Nat.le_of_ble_eq_true rfl) (Nat.le_of_ble_eq_true rfl) (Nat.le_of_ble_eq_true rfl) dX10_card_50 (fun X2 hA2 => ?_)
    refine  x_pop (pc := 53) G dX10_card_53 rfl ?_
    have hN2 := hN1 X2 hA2
    have hX2 := hN2.1
    have hs2 : nS X2 27 0 = nI (xSz X 27 0 + 1) := nS_AD hA2 rfl (congrFun (congrFun hf1.2.2 27) 0)
    rw [show vr X 11 0 = vr X2 11 0 from ((vr_AD hA2 (by decide)).trans (hv1 _ _ (by decide))).symm]
    refine  z_aload0 (pc := 54) G vr_r dX10_card_54 ?_
    refine  z_g (pc := 55) (f := 359) (x := 0) (v := (aR X2 27 0)) G kb_11 gb_X10_34 rfl hX2.1 hX2.l11 cr_359 dX10_card_55 ?_
    refine  z_size (pc := 58) (Li := 27) (x := 0) G hX2.1 hX2.lw27 q_ml_X10_96 ⟨Nat.le_of_ble_eq_true rfl, Nat.le_of_ble_eq_true rfl⟩ (Nat.le_of_ble_eq_true rfl) dX10_card_58 ?_
    refine  x_iconst (pc := 61) (v := 1) G dX10_card_61 ic_1 ?_
    refine  x_isub (pc := 62) G dX10_card_62 ?_
    exact  x_iret (pc := 63) G B rfl dX10_card_63 (by rw [k_card, if_pos c1, if_pos c2, if_pos c3]; exact ⟨by rw [hs2], X2, hN2, rfl⟩)
  exact z_ISE (pc := 26) G B B2 hout (is := 420) (text := "there are 40 card entries") (by decide +kernel) dX10_card_26 dX10_card_29 (Or.inr ⟨dX10_card_30, dX10_card_33, dX10_card_36⟩) ⟨Nat.le_of_ble_eq_true rfl, Nat.le_of_ble_eq_true rfl⟩ (Nat.le_of_ble_eq_true rfl) (Nat.le_of_ble_eq_true rfl) (by rw [k_card, if_pos c1, if_pos c2, if_neg c3]; exact ⟨rfl, rfl⟩)
def y_trip (X : CX) (p1 : Int64) : CX := (fjX X 320 (xSz X 26 0) p1)
def s_trip (X : CX) (S : CT) (p1 : Int64) : CT := S
theorem al_trip {k : KC} {X : CX} {S : CT} (hX : XOK X) (hL : LVX X) (hT : TS X S) {p1 : Int64} (hlt : xSz X 26 0 < 30) {q : Nat} (hq : q ∉ (cW k X S).1) : ∃ X1, ((cW k X S).1 ++ [q], va_up (cW k X S).2 q (.inr (10, [.long p1]))) = cW k X1 (s_trip X S p1) ∧ XOK X1 ∧ TS X1 (s_trip X S p1) ∧ LA X1 26 0 ∧ (∀ X2, AD X1 X2 26 0 → NX (y_trip X p1) X2 26 0) ∧ (∀ t x, t ≠ 10 → vr X1 t x = vr X t x) ∧ Value.ref q = vr X1 10 (nI (xSz X 26 0)) ∧ lI X1 10 (nI (xSz X 26 0)) ∧ (∀ L i, 20 ≤ L → xAd X1 L i = xAd X L i) ∧ (xFi X1 = xFi (y_trip X p1) ∧ xFj X1 = xFj (y_trip X p1) ∧ xSz X1 = xSz X) ∧ ∀ k' i, lv X1 k' i ↔ lv X k' i ∨ (k' = 10 ∧ i = (xSz X 26 0)) := by
  have hb := hL.2.2.1
  have hn31 : (xSz X 26 0) < 2 ^ 31 := by omega
  have hd : dead X 10 (xSz X 26 0) := dead.of hX.1 fun z => by
    have h9 : (xSz X 26 0) < (xSz X 26 0) := (hL.1 10 (xSz X 26 0)).mp z
    omega
  have hD : DE X S (fjX X 320 (xSz X 26 0) p1) S 10 (xSz X 26 0) := (DE.fj DE.refl (by decide))
  obtain ⟨E1, HX1⟩ := cW_obj (k := k) (e := (.inr (10, [.long p1]))) hX.1 (RO_of hX hL hT) (EA_of hX hL) (by decide) hq hd hD (by
    show Sum.inr (10, [.long p1]) = Sum.inr (10, [cR (adX (fjX X 320 (xSz X 26 0) p1) 10 (xSz X 26 0) q) S 320 (xSz X 26 0)])
    rw [show cR (adX (fjX X 320 (xSz X 26 0) p1) 10 (xSz X 26 0) q) S 320 (xSz X 26 0) = .long p1 from (congrArg Value.long (fj_a.trans fj_ss))])
  have hK1 := XOK_ob (e := (.inr (10, [.long p1]))) hX hq hd hD ⟨by decide, by decide⟩ (by omega) HX1 (fun z => absurd z (by decide)) (fun z => absurd z (by decide)) (fun z => absurd z (by decide)) (fun z => absurd z (by decide))
  have hT1 := TS_ob (e := (.inr (10, [.long p1]))) hT hX hq hd hD (by decide) (by omega) (fun z => absurd z (by decide)) (fun z => absurd z (by decide))
  have hA1 := LA_ob (e := (.inr (10, [.long p1]))) (LA_of hX hL (by decide) (by decide) ((hL.1 26 0).mpr rfl) (by omega)) hq hD (by decide) HX1
  have hme : lv (obX (fjX X 320 (xSz X 26 0) p1) 10 (xSz X 26 0) q (.inr (10, [.long p1]))) 10 (xSz X 26 0) := ob_me hX.1 hq hD
  have hlI : lI (obX (fjX X 320 (xSz X 26 0) p1) 10 (xSz X 26 0) q (.inr (10, [.long p1]))) 10 (nI (xSz X 26 0)) := ⟨_, by omega, rfl, hme⟩
  refine ⟨_, E1, hK1, hT1, hA1, fun X2 hA2 => ⟨XOK.ad hK1 hA2 hA1.2.2.1 ⟨?_, ?_⟩, LVX_26 hL hX.1 hq hD hlt hA2, hA2.2.1.1, hA2.2.1.2, hA2.2.2.2.1, (hA2.2.2.1 11 0 (by omega)).trans (ad_ne (fun z => by omega))⟩, fun t x ht => vr_an ht, ?_, hlI, fun L i h20 => ad_ne (fun z => by omega), ⟨rfl, rfl, rfl⟩, fun k' i => lv_ob hX.1 hq hD.1⟩
  · show xSz X 26 0 < 2 ^ 30
    omega
  · exact hme
  · rw [hlI.vr, nI_clamp hn31]
    exact congrArg Value.ref ad_ad.symm
theorem dX10_trip_0 : decode cX10_trip 0 = .ok (.aload_n 0, 1) := by decide +kernel
theorem dX10_trip_1 : decode cX10_trip 1 = .ok (.iload_n 1, 1) := by decide +kernel
theorem dX10_trip_2 : decode cX10_trip 2 = .ok (.invokevirtual 87, 3) := by decide +kernel
theorem dX10_trip_5 : decode cX10_trip 5 = .ok (.astore 8, 2) := by decide +kernel
theorem dX10_trip_7 : decode cX10_trip 7 = .ok (.aload_n 0, 1) := by decide +kernel
theorem dX10_trip_8 : decode cX10_trip 8 = .ok (.iload_n 2, 1) := by decide +kernel
theorem dX10_trip_9 : decode cX10_trip 9 = .ok (.invokevirtual 144, 3) := by decide +kernel
theorem dX10_trip_12 : decode cX10_trip 12 = .ok (.astore 9, 2) := by decide +kernel
theorem dX10_trip_14 : decode cX10_trip 14 = .ok (.iload_n 3, 1) := by decide +kernel
theorem dX10_trip_15 : decode cX10_trip 15 = .ok (.ifCond .lt 12, 3) := by decide +kernel
theorem dX10_trip_18 : decode cX10_trip 18 = .ok (.iload_n 3, 1) := by decide +kernel
theorem dX10_trip_19 : decode cX10_trip 19 = .ok (.aload_n 0, 1) := by decide +kernel
theorem dX10_trip_20 : decode cX10_trip 20 = .ok (.getfield 37, 3) := by decide +kernel
theorem dX10_trip_23 : decode cX10_trip 23 = .ok (.arraylength, 1) := by decide +kernel
theorem dX10_trip_24 : decode cX10_trip 24 = .ok (.if_icmp .lt 14, 3) := by decide +kernel
theorem dX10_trip_27 : decode cX10_trip 27 = .ok (.new 180, 3) := by decide +kernel
theorem dX10_trip_30 : decode cX10_trip 30 = .ok (.dup, 1) := by decide +kernel
theorem dX10_trip_31 : decode cX10_trip 31 = .ok (.ldc_w 395, 3) := by decide +kernel
theorem dX10_trip_34 : decode cX10_trip 34 = .ok (.invokespecial 184, 3) := by decide +kernel
theorem dX10_trip_37 : decode cX10_trip 37 = .ok (.athrow, 1) := by decide +kernel
theorem dX10_trip_38 : decode cX10_trip 38 = .ok (.iload 4, 2) := by decide +kernel
theorem dX10_trip_40 : decode cX10_trip 40 = .ok (.iconst 1, 1) := by decide +kernel
theorem dX10_trip_41 : decode cX10_trip 41 = .ok (.bipush 30, 2) := by decide +kernel
theorem dX10_trip_43 : decode cX10_trip 43 = .ok (.invokestatic 92, 3) := by decide +kernel
theorem dX10_trip_46 : decode cX10_trip 46 = .ok (.iload 5, 2) := by decide +kernel
theorem dX10_trip_48 : decode cX10_trip 48 = .ok (.iconst 0, 1) := by decide +kernel
theorem dX10_trip_49 : decode cX10_trip 49 = .ok (.iload 4, 2) := by decide +kernel
theorem dX10_trip_51 : decode cX10_trip 51 = .ok (.invokestatic 92, 3) := by decide +kernel
theorem dX10_trip_54 : decode cX10_trip 54 = .ok (.iload 6, 2) := by decide +kernel
theorem dX10_trip_56 : decode cX10_trip 56 = .ok (.iconst 0, 1) := by decide +kernel
theorem dX10_trip_57 : decode cX10_trip 57 = .ok (.iconst 2, 1) := by decide +kernel
theorem dX10_trip_58 : decode cX10_trip 58 = .ok (.iload 4, 2) := by decide +kernel
theorem dX10_trip_60 : decode cX10_trip 60 = .ok (.imul, 1) := by decide +kernel
theorem dX10_trip_61 : decode cX10_trip 61 = .ok (.invokestatic 92, 3) := by decide +kernel
theorem dX10_trip_64 : decode cX10_trip 64 = .ok (.iload 7, 2) := by decide +kernel
theorem dX10_trip_66 : decode cX10_trip 66 = .ok (.iconst 0, 1) := by decide +kernel
theorem dX10_trip_67 : decode cX10_trip 67 = .ok (.sipush 5000, 3) := by decide +kernel
theorem dX10_trip_70 : decode cX10_trip 70 = .ok (.invokestatic 92, 3) := by decide +kernel
theorem dX10_trip_73 : decode cX10_trip 73 = .ok (.aload_n 0, 1) := by decide +kernel
theorem dX10_trip_74 : decode cX10_trip 74 = .ok (.getfield 31, 3) := by decide +kernel
theorem dX10_trip_77 : decode cX10_trip 77 = .ok (.invokevirtual 96, 3) := by decide +kernel
theorem dX10_trip_80 : decode cX10_trip 80 = .ok (.bipush 30, 2) := by decide +kernel
theorem dX10_trip_82 : decode cX10_trip 82 = .ok (.if_icmp .lt 14, 3) := by decide +kernel
theorem dX10_trip_85 : decode cX10_trip 85 = .ok (.new 100, 3) := by decide +kernel
theorem dX10_trip_88 : decode cX10_trip 88 = .ok (.dup, 1) := by decide +kernel
theorem dX10_trip_89 : decode cX10_trip 89 = .ok (.ldc_w 398, 3) := by decide +kernel
theorem dX10_trip_92 : decode cX10_trip 92 = .ok (.invokespecial 104, 3) := by decide +kernel
theorem dX10_trip_95 : decode cX10_trip 95 = .ok (.athrow, 1) := by decide +kernel
theorem dX10_trip_96 : decode cX10_trip 96 = .ok (.aload_n 0, 1) := by decide +kernel
theorem dX10_trip_97 : decode cX10_trip 97 = .ok (.getfield 37, 3) := by decide +kernel
theorem dX10_trip_100 : decode cX10_trip 100 = .ok (.iload_n 3, 1) := by decide +kernel
theorem dX10_trip_101 : decode cX10_trip 101 = .ok (.iaload, 1) := by decide +kernel
theorem dX10_trip_102 : decode cX10_trip 102 = .ok (.iload 4, 2) := by decide +kernel
theorem dX10_trip_104 : decode cX10_trip 104 = .ok (.iload 5, 2) := by decide +kernel
theorem dX10_trip_106 : decode cX10_trip 106 = .ok (.iload 6, 2) := by decide +kernel
theorem dX10_trip_108 : decode cX10_trip 108 = .ok (.invokestatic 400, 3) := by decide +kernel
theorem dX10_trip_111 : decode cX10_trip 111 = .ok (.iload 7, 2) := by decide +kernel
theorem dX10_trip_113 : decode cX10_trip 113 = .ok (.i2l, 1) := by decide +kernel
theorem dX10_trip_114 : decode cX10_trip 114 = .ok (.ldc2_w 404, 3) := by decide +kernel
theorem dX10_trip_117 : decode cX10_trip 117 = .ok (.lmul, 1) := by decide +kernel
theorem dX10_trip_118 : decode cX10_trip 118 = .ok (.ladd, 1) := by decide +kernel
theorem dX10_trip_119 : decode cX10_trip 119 = .ok (.lstore 10, 2) := by decide +kernel
theorem dX10_trip_121 : decode cX10_trip 121 = .ok (.aload 9, 2) := by decide +kernel
theorem dX10_trip_123 : decode cX10_trip 123 = .ok (.aload_n 0, 1) := by decide +kernel
theorem dX10_trip_124 : decode cX10_trip 124 = .ok (.invokevirtual 190, 3) := by decide +kernel
theorem dX10_trip_127 : decode cX10_trip 127 = .ok (.lload 10, 2) := by decide +kernel
theorem dX10_trip_129 : decode cX10_trip 129 = .ok (.invokestatic 235, 3) := by decide +kernel
theorem dX10_trip_132 : decode cX10_trip 132 = .ok (.aload_n 0, 1) := by decide +kernel
theorem dX10_trip_133 : decode cX10_trip 133 = .ok (.aload 9, 2) := by decide +kernel
theorem dX10_trip_135 : decode cX10_trip 135 = .ok (.lload 10, 2) := by decide +kernel
theorem dX10_trip_137 : decode cX10_trip 137 = .ok (.invokevirtual 406, 3) := by decide +kernel
theorem dX10_trip_140 : decode cX10_trip 140 = .ok (.aload 8, 2) := by decide +kernel
theorem dX10_trip_142 : decode cX10_trip 142 = .ok (.dup, 1) := by decide +kernel
theorem dX10_trip_143 : decode cX10_trip 143 = .ok (.getfield 410, 3) := by decide +kernel
theorem dX10_trip_146 : decode cX10_trip 146 = .ok (.lload 10, 2) := by decide +kernel
theorem dX10_trip_148 : decode cX10_trip 148 = .ok (.ladd, 1) := by decide +kernel
theorem dX10_trip_149 : decode cX10_trip 149 = .ok (.putfield 410, 3) := by decide +kernel
theorem dX10_trip_152 : decode cX10_trip 152 = .ok (.aload_n 0, 1) := by decide +kernel
theorem dX10_trip_153 : decode cX10_trip 153 = .ok (.iconst 0, 1) := by decide +kernel
theorem dX10_trip_154 : decode cX10_trip 154 = .ok (.lload 10, 2) := by decide +kernel
theorem dX10_trip_156 : decode cX10_trip 156 = .ok (.invokevirtual 389, 3) := by decide +kernel
theorem dX10_trip_159 : decode cX10_trip 159 = .ok (.aload_n 0, 1) := by decide +kernel
theorem dX10_trip_160 : decode cX10_trip 160 = .ok (.bipush 8, 2) := by decide +kernel
theorem dX10_trip_162 : decode cX10_trip 162 = .ok (.lload 10, 2) := by decide +kernel
theorem dX10_trip_164 : decode cX10_trip 164 = .ok (.lneg, 1) := by decide +kernel
theorem dX10_trip_165 : decode cX10_trip 165 = .ok (.invokevirtual 389, 3) := by decide +kernel
theorem dX10_trip_168 : decode cX10_trip 168 = .ok (.aload_n 0, 1) := by decide +kernel
theorem dX10_trip_169 : decode cX10_trip 169 = .ok (.getfield 31, 3) := by decide +kernel
theorem dX10_trip_172 : decode cX10_trip 172 = .ok (.new 411, 3) := by decide +kernel
theorem dX10_trip_175 : decode cX10_trip 175 = .ok (.dup, 1) := by decide +kernel
theorem dX10_trip_176 : decode cX10_trip 176 = .ok (.lload 10, 2) := by decide +kernel
theorem dX10_trip_178 : decode cX10_trip 178 = .ok (.invokespecial 413, 3) := by decide +kernel
theorem dX10_trip_181 : decode cX10_trip 181 = .ok (.invokevirtual 75, 3) := by decide +kernel
theorem dX10_trip_184 : decode cX10_trip 184 = .ok (.pop, 1) := by decide +kernel
theorem dX10_trip_185 : decode cX10_trip 185 = .ok (.aload_n 0, 1) := by decide +kernel
theorem dX10_trip_186 : decode cX10_trip 186 = .ok (.getfield 31, 3) := by decide +kernel
theorem dX10_trip_189 : decode cX10_trip 189 = .ok (.invokevirtual 96, 3) := by decide +kernel
theorem dX10_trip_192 : decode cX10_trip 192 = .ok (.iconst 1, 1) := by decide +kernel
theorem dX10_trip_193 : decode cX10_trip 193 = .ok (.isub, 1) := by decide +kernel
theorem dX10_trip_194 : decode cX10_trip 194 = .ok (.ireturn, 1) := by decide +kernel
def k_trip (p1 : Int32) (p2 : Int32) (p3 : Int32) (p4 : Int32) (p5 : Int32) (p6 : Int32) (p7 : Int32) (X : CX) (S : CT) : (Int32 × CT) ⊕ String :=
    if P_num p1 (nS X 20 0) then
      if P_num p2 (nS X 21 0) then
        if p3 < 0 then
          .inr "java/lang/IndexOutOfBoundsException"
        else
        if p3 < 4 then
          if P_in p4 1 30 then
            if P_in p5 0 p4 then
              if P_in p6 0 (2 * p4) then
                if P_in p7 0 5000 then
                  if (nS X 26 0) < 30 then
                    if ¬ ci S 33 p2 = 0 ∨ ((k_allowance (ci S 1280 p3) p4 p5 p6 X S) + ((p7.toInt64) * 30)) ≤ k_free (3 * p2 + (k_thisYear X S)) X S then
                      .inl ((nI (xSz X 26 0 + 1)) - 1, (s_trip X (k_post 8 (-((k_allowance (ci S 1280 p3) p4 p5 p6 X S) + ((p7.toInt64) * 30))) X (k_post 0 ((k_allowance (ci S 1280 p3) p4 p5 p6 X S) + ((p7.toInt64) * 30)) X (sj (k_spend p2 ((k_allowance (ci S 1280 p3) p4 p5 p6 X S) + ((p7.toInt64) * 30)) X S) 197 p1 ((cj S 197 p1) + ((k_allowance (ci S 1280 p3) p4 p5 p6 X S) + ((p7.toInt64) * 30)))))) ((k_allowance (ci S 1280 p3) p4 p5 p6 X S) + ((p7.toInt64) * 30))))
                    else
                    .inr "java/lang/IllegalStateException"
                  else
                  .inr "java/lang/IllegalStateException"
                else
                .inr "java/lang/IllegalArgumentException"
              else
              .inr "java/lang/IllegalArgumentException"
            else
            .inr "java/lang/IllegalArgumentException"
          else
          .inr "java/lang/IllegalArgumentException"
        else
        .inr "java/lang/IndexOutOfBoundsException"
      else
      .inr "java/lang/IndexOutOfBoundsException"
    else
    .inr "java/lang/IndexOutOfBoundsException"
abbrev rma_trip : Room := { frames := 9, cells := 2, slots := 74, locals := 240 }
set_option maxRecDepth 100000 in
set_option maxHeartbeats 4000000 in
theorem ck_trip {l : Launch} {k : KC} (hl : l.stackTraces = false) {X : CX} {S : CT} (hX : XOK X) (hL : LVX X) (hT : TS X S) {p1 : Int32} {p2 : Int32} {p3 : Int32} {p4 : Int32} {p5 : Int32} {p6 : Int32} {p7 : Int32} (hC : LC X S)  : MC l k yX10_trip (.code yX10_trip cX10_trip 12 (some .int)) rma_trip [(vr X 11 0), .int p1, .int p2, .int p3, .int p4, .int p5, .int p6, .int p7] (cW k X S) (pAi k X S (y_trip X ((k_allowance (ci S 1280 p3) p4 p5 p6 X S) + ((p7.toInt64) * 30))) 26 0 (k_trip p1 p2 p3 p4 p5 p6 p7 X S)) := by
  refine MC.of 4 hl (by decide) (by simp only [lg_sl_vr, lg_sl_i, lg_sl_l, lg_sl_0]; exact Nat.le_of_ble_eq_true rfl) ?_
  intro p e s m args below meth c A Q G B B2 hout
  simp only [lp_args_vr, lp_args_i, lp_args_l, lp_args_0]
  show Wx p l e rma_trip s m args below meth c k A 12 Q 2 74 0 [some ((vr X 11 0)), some (.int p1), some (.int p2), some (.int p3), some (.int p4), some (.int p5), some (.int p6), some (.int p7), none, none, none, none] [] (cW k X S)
  refine z_aload0 (pc := 0) G vr_r dX10_trip_0 ?_
  refine x_iload1 (pc := 1) G dX10_trip_1 ?_
  rcases Decidable.em (¬ (P_num p1 (nS X 20 0))) with c1 | c1
  · exact z_cVt1 (pc := 2) G kb_11 hX.1 hX.l11 B B2 hout (no_personAt hl hX  c1) rfl q_ml_X10_87 h_X10_personAt ⟨Nat.le_of_ble_eq_true rfl, Nat.le_of_ble_eq_true rfl⟩ (Nat.le_of_ble_eq_true rfl) (Nat.le_refl _) (Nat.le_refl _) dX10_trip_2 (by rw [k_trip, if_neg c1]; exact ⟨rfl, rfl⟩)
  have c1 := Decidable.not_not.mp c1
  refine z_cV1 (pc := 2) G kb_11 hX.1 hX.l11 (ok_personAt hl hX  c1) rfl q_ml_X10_87 h_X10_personAt ⟨Nat.le_of_ble_eq_true rfl, Nat.le_of_ble_eq_true rfl⟩ (Nat.le_of_ble_eq_true rfl) (Nat.le_refl _) (Nat.le_refl _) dX10_trip_2 ?_
  refine z_astore8 (pc := 5) G vr_r dX10_trip_5 (Nat.le_of_ble_eq_true rfl) rfl ?_
  refine z_aload0 (pc := 7) G vr_r dX10_trip_7 ?_
  refine x_iload2 (pc := 8) G dX10_trip_8 ?_
  rcases Decidable.em (¬ (P_num p2 (nS X 21 0))) with c2 | c2
  · exact z_cVt1 (pc := 9) G kb_11 hX.1 hX.l11 B B2 hout (no_centreAt hl hX  c2) rfl q_ml_X10_144 h_X10_centreAt ⟨Nat.le_of_ble_eq_true rfl, Nat.le_of_ble_eq_true rfl⟩ (Nat.le_of_ble_eq_true rfl) (Nat.le_refl _) (Nat.le_refl _) dX10_trip_9 (by rw [k_trip, if_pos c1, if_neg c2]; exact ⟨rfl, rfl⟩)
  have c2 := Decidable.not_not.mp c2
  refine z_cV1 (pc := 9) G kb_11 hX.1 hX.l11 (ok_centreAt hl hX  c2) rfl q_ml_X10_144 h_X10_centreAt ⟨Nat.le_of_ble_eq_true rfl, Nat.le_of_ble_eq_true rfl⟩ (Nat.le_of_ble_eq_true rfl) (Nat.le_refl _) (Nat.le_refl _) dX10_trip_9 ?_
  refine z_astore9 (pc := 12) G vr_r dX10_trip_12 (Nat.le_of_ble_eq_true rfl) lp_c2_vr ?_
  refine x_iload3 (pc := 14) G dX10_trip_14 ?_
  refine x_if_lt (pc := 15) (y := 0) (tgt := 27) G dX10_trip_15 rfl (fun c3 => ?_) (fun c3 => ?_)
  · exact z_IOOBE (pc := 27) G B B2 hout (is := 395) (text := "no such place") (by decide +kernel) dX10_trip_27 dX10_trip_30 (Or.inr ⟨dX10_trip_31, dX10_trip_34, dX10_trip_37⟩) ⟨Nat.le_of_ble_eq_true rfl, Nat.le_of_ble_eq_true rfl⟩ (Nat.le_of_ble_eq_true rfl) (Nat.le_of_ble_eq_true rfl) (by rw [k_trip, if_pos c1, if_pos c2, if_pos c3]; exact ⟨rfl, rfl⟩)
  refine x_iload3 (pc := 18) G dX10_trip_18 ?_
  refine z_aload0 (pc := 19) G vr_r dX10_trip_19 ?_
  refine z_g (pc := 20) (f := 360) (x := 0) (v := (aR X 40 0)) G kb_11 gb_X10_37 rfl hX.1 hX.l11 cr_360 dX10_trip_20 ?_
  refine z_ilen (pc := 23) G hX.1 hX.l40 dX10_trip_23 ?_
  refine x_icmp_lt (pc := 24) (tgt := 38) G dX10_trip_24 rfl (fun c4 => ?_) (fun c4 => ?_)
  · refine x_iload4 (pc := 38) G dX10_trip_38 ?_
    refine x_iconst (pc := 40) (v := 1) G dX10_trip_40 ic_1 ?_
    refine x_bipush (pc := 41) (v := 30) G dX10_trip_41 bp_30 ?_
    rcases Decidable.em (¬ (P_in p4 1 30)) with c5 | c5
    · exact x_cSt3 (pc := 43) G B B2 hout (no_requireRange hl c5) q_ml_X10_92 h_X10_requireRange ⟨Nat.le_of_ble_eq_true rfl, Nat.le_of_ble_eq_true rfl⟩ (Nat.le_of_ble_eq_true rfl) (Nat.le_refl _) (Nat.le_refl _) dX10_trip_43 (by rw [k_trip, if_pos c1, if_pos c2, if_neg c3, if_pos c4, if_neg c5]; exact ⟨rfl, rfl⟩)
    have c5 := Decidable.not_not.mp c5
    refine x_cSv3 (pc := 43) G (ok_requireRange hl c5) q_ml_X10_92 h_X10_requireRange ⟨Nat.le_of_ble_eq_true rfl, Nat.le_of_ble_eq_true rfl⟩ (Nat.le_of_ble_eq_true rfl) (Nat.le_refl _) (Nat.le_refl _) dX10_trip_43 ?_
    refine x_iload5 (pc := 46) G dX10_trip_46 ?_
    refine x_iconst (pc := 48) (v := 0) G dX10_trip_48 ic_0 ?_
    refine x_iload4 (pc := 49) G dX10_trip_49 ?_
    rcases Decidable.em (¬ (P_in p5 0 p4)) with c6 | c6
    · exact x_cSt3 (pc := 51) G B B2 hout (no_requireRange hl c6) q_ml_X10_92 h_X10_requireRange ⟨Nat.le_of_ble_eq_true rfl, Nat.le_of_ble_eq_true rfl⟩ (Nat.le_of_ble_eq_true rfl) (Nat.le_refl _) (Nat.le_refl _) dX10_trip_51 (by rw [k_trip, if_pos c1, if_pos c2, if_neg c3, if_pos c4, if_pos c5, if_neg c6]; exact ⟨rfl, rfl⟩)
    have c6 := Decidable.not_not.mp c6
    refine x_cSv3 (pc := 51) G (ok_requireRange hl c6) q_ml_X10_92 h_X10_requireRange ⟨Nat.le_of_ble_eq_true rfl, Nat.le_of_ble_eq_true rfl⟩ (Nat.le_of_ble_eq_true rfl) (Nat.le_refl _) (Nat.le_refl _) dX10_trip_51 ?_
    refine x_iload6 (pc := 54) G dX10_trip_54 ?_
    refine x_iconst (pc := 56) (v := 0) G dX10_trip_56 ic_0 ?_
    refine x_iconst (pc := 57) (v := 2) G dX10_trip_57 ic_2 ?_
    refine x_iload4 (pc := 58) G dX10_trip_58 ?_
    refine x_imul (pc := 60) G dX10_trip_60 ?_
    rcases Decidable.em (¬ (P_in p6 0 (2 * p4))) with c7 | c7
    · exact x_cSt3 (pc := 61) G B B2 hout (no_requireRange hl c7) q_ml_X10_92 h_X10_requireRange ⟨Nat.le_of_ble_eq_true rfl, Nat.le_of_ble_eq_true rfl⟩ (Nat.le_of_ble_eq_true rfl) (Nat.le_refl _) (Nat.le_refl _) dX10_trip_61 (by rw [k_trip, if_pos c1, if_pos c2, if_neg c3, if_pos c4, if_pos c5, if_pos c6, if_neg c7]; exact ⟨rfl, rfl⟩)
    have c7 := Decidable.not_not.mp c7
    refine x_cSv3 (pc := 61) G (ok_requireRange hl c7) q_ml_X10_92 h_X10_requireRange ⟨Nat.le_of_ble_eq_true rfl, Nat.le_of_ble_eq_true rfl⟩ (Nat.le_of_ble_eq_true rfl) (Nat.le_refl _) (Nat.le_refl _) dX10_trip_61 ?_
    refine x_iload7 (pc := 64) G dX10_trip_64 ?_
    refine x_iconst (pc := 66) (v := 0) G dX10_trip_66 ic_0 ?_
    refine x_sipush (pc := 67) (v := 5000) G dX10_trip_67 sp_5000 ?_
    rcases Decidable.em (¬ (P_in p7 0 5000)) with c8 | c8
    · exact x_cSt3 (pc := 70) G B B2 hout (no_requireRange hl c8) q_ml_X10_92 h_X10_requireRange ⟨Nat.le_of_ble_eq_true rfl, Nat.le_of_ble_eq_true rfl⟩ (Nat.le_of_ble_eq_true rfl) (Nat.le_refl _) (Nat.le_refl _) dX10_trip_70 (by rw [k_trip, if_pos c1, if_pos c2, if_neg c3, if_pos c4, if_pos c5, if_pos c6, if_pos c7, if_neg c8]; exact ⟨rfl, rfl⟩)
    have c8 := Decidable.not_not.mp c8
    refine x_cSv3 (pc := 70) G (ok_requireRange hl c8) q_ml_X10_92 h_X10_requireRange ⟨Nat.le_of_ble_eq_true rfl, Nat.le_of_ble_eq_true rfl⟩ (Nat.le_of_ble_eq_true rfl) (Nat.le_refl _) (Nat.le_refl _) dX10_trip_70 ?_
    refine z_aload0 (pc := 73) G vr_r dX10_trip_73 ?_
    refine z_g (pc := 74) (f := 358) (x := 0) (v := (aR X 26 0)) G kb_11 gb_X10_31 rfl hX.1 hX.l11 cr_358 dX10_trip_74 ?_
    refine z_size (pc := 77) (Li := 26) (x := 0) G hX.1 hX.lw26 q_ml_X10_96 ⟨Nat.le_of_ble_eq_true rfl, Nat.le_of_ble_eq_true rfl⟩ (Nat.le_of_ble_eq_true rfl) dX10_trip_77 ?_
    refine x_bipush (pc := 80) (v := 30) G dX10_trip_80 bp_30 ?_
    refine x_icmp_lt (pc := 82) (tgt := 96) G dX10_trip_82 rfl (fun c9 => ?_) (fun c9 => ?_)
    · refine z_aload0 (pc := 96) G vr_r dX10_trip_96 ?_
      refine z_g (pc := 97) (f := 360) (x := 0) (v := (aR X 40 0)) G kb_11 gb_X10_37 rfl hX.1 hX.l11 cr_360 dX10_trip_97 ?_
      refine x_iload3 (pc := 100) G dX10_trip_100 ?_
      refine z_iald (pc := 101) (v := (ci S 1280 p3)) G hX.1 hX.l40 (lOK (n := 4) (by decide) c3 c4) rfl dX10_trip_101 ?_
      refine x_iload4 (pc := 102) G dX10_trip_102 ?_
      refine x_iload5 (pc := 104) G dX10_trip_104 ?_
      refine x_iload6 (pc := 106) G dX10_trip_106 ?_
      refine x_cS4 (pc := 108) G (ck_allowance hl hX  ) q_ml_X10_400 h_X10_allowance ⟨Nat.le_of_ble_eq_true rfl, Nat.le_of_ble_eq_true rfl⟩ (Nat.le_of_ble_eq_true rfl) (Nat.le_refl _) (Nat.le_refl _) dX10_trip_108 ?_
      refine x_iload7 (pc := 111) G dX10_trip_111 ?_
      refine x_i2l (pc := 113) G dX10_trip_113 ?_
      refine x_ldc2 (pc := 114) G q_cL_X10_404 dX10_trip_114 ?_
      refine x_lmul (pc := 117) G dX10_trip_117 ?_
      refine x_ladd (pc := 118) G dX10_trip_118 ?_
      refine x_lstore10 (pc := 119) G dX10_trip_119 (Nat.le_of_ble_eq_true rfl) lp_c2_vr ?_
      refine z_aload9 (pc := 121) G vr_r dX10_trip_121 ?_
      refine z_aload0 (pc := 123) G vr_r dX10_trip_123 ?_
      refine z_cV0 (pc := 124) G kb_11 hX.1 hX.l11 (ck_thisYear hl hX  ) rfl q_ml_X10_190 h_X10_thisYear ⟨Nat.le_of_ble_eq_true rfl, Nat.le_of_ble_eq_true rfl⟩ (by simp only [List.map_cons, List.map_nil, vr_cat]; exact Nat.le_of_ble_eq_true rfl) (Nat.le_refl _) (Nat.le_refl _) dX10_trip_124 ?_
      refine x_lload10 (pc := 127) G dX10_trip_127 ?_
      rcases Decidable.em (¬ (¬ ci S 33 p2 = 0 ∨ ((k_allowance (ci S 1280 p3) p4 p5 p6 X S) + ((p7.toInt64) * 30)) ≤ k_free (3 * p2 + (k_thisYear X S)) X S)) with c10 | c10
      · exact x_cSt3 (pc := 129) G B B2 hout (no_requireFree hl hX (hX.el21 c2) (hC.1 _ (hX.el21 c2)) c10) q_ml_X10_235 h_X10_requireFree ⟨Nat.le_of_ble_eq_true rfl, Nat.le_of_ble_eq_true rfl⟩ (Nat.le_of_ble_eq_true rfl) (Nat.le_refl _) (Nat.le_refl _) dX10_trip_129 (by rw [k_trip, if_pos c1, if_pos c2, if_neg c3, if_pos c4, if_pos c5, if_pos c6, if_pos c7, if_pos c8, if_pos c9, if_neg c10]; exact ⟨rfl, rfl⟩)
      have c10 := Decidable.not_not.mp c10
      refine x_cSv3 (pc := 129) G (ok_requireFree hl hX (hX.el21 c2) (hC.1 _ (hX.el21 c2)) c10) q_ml_X10_235 h_X10_requireFree ⟨Nat.le_of_ble_eq_true rfl, Nat.le_of_ble_eq_true rfl⟩ (Nat.le_of_ble_eq_true rfl) (Nat.le_refl _) (Nat.le_refl _) dX10_trip_129 ?_
      refine z_aload0 (pc := 132) G vr_r dX10_trip_132 ?_
      refine z_aload9 (pc := 133) G vr_r dX10_trip_133 ?_
      refine x_lload10 (pc := 135) G dX10_trip_135 ?_
      refine z_cVv2 (pc := 137) G kb_11 hX.1 hX.l11 (ck_spend hl hX (hX.el21 c2) (ty_of rfl (hC.1 _ (hX.el21 c2)))) rfl q_ml_X10_406 h_X10_spend ⟨Nat.le_of_ble_eq_true rfl, Nat.le_of_ble_eq_true rfl⟩ (Nat.le_of_ble_eq_true rfl) (Nat.le_refl _) (Nat.le_refl _) dX10_trip_137 ?_
      refine z_aload8 (pc := 140) G vr_r dX10_trip_140 ?_
      refine x_dup (pc := 142) G dX10_trip_142 vr_cat ?_
      refine z_g (pc := 143) (f := 197) (x := p1) (v := (.long (cj S 197 p1))) G kb_6 gb_X10_410 rfl hX.1 (hX.el20 c1) (cr_197.trans (congrArg Value.long (cj_spend rfl))) dX10_trip_143 ?_
      refine x_lload10 (pc := 146) G dX10_trip_146 ?_
      refine x_ladd (pc := 148) G dX10_trip_148 ?_
      refine z_pJ (pc := 149) (f := 197) G kb_6 gb_X10_410 rfl hX.1 (hX.el20 c1) rfl (cr_197.trans (congrArg Value.long cj_ss)) rfl rfl dX10_trip_149 ?_
      refine z_aload0 (pc := 152) G vr_r dX10_trip_152 ?_
      refine x_iconst (pc := 153) (v := 0) G dX10_trip_153 ic_0 ?_
      refine x_lload10 (pc := 154) G dX10_trip_154 ?_
      refine z_cVv2 (pc := 156) G kb_11 hX.1 hX.l11 (ck_post hl hX  (by decide)) rfl q_ml_X10_389 h_X10_post ⟨Nat.le_of_ble_eq_true rfl, Nat.le_of_ble_eq_true rfl⟩ (Nat.le_of_ble_eq_true rfl) (Nat.le_refl _) (Nat.le_refl _) dX10_trip_156 ?_
      refine z_aload0 (pc := 159) G vr_r dX10_trip_159 ?_
      refine x_bipush (pc := 160) (v := 8) G dX10_trip_160 bp_8 ?_
      refine x_lload10 (pc := 162) G dX10_trip_162 ?_
      refine x_lneg (pc := 164) G dX10_trip_164 ?_
      refine z_cVv2 (pc := 165) G kb_11 hX.1 hX.l11 (ck_post hl hX  (by decide)) rfl q_ml_X10_389 h_X10_post ⟨Nat.le_of_ble_eq_true rfl, Nat.le_of_ble_eq_true rfl⟩ (Nat.le_of_ble_eq_true rfl) (Nat.le_refl _) (Nat.le_refl _) dX10_trip_165 ?_
      refine z_aload0 (pc := 168) G vr_r dX10_trip_168 ?_
      refine z_g (pc := 169) (f := 358) (x := 0) (v := (aR X 26 0)) G kb_11 gb_X10_31 rfl hX.1 hX.l11 cr_358 dX10_trip_169 ?_
      have hlt : xSz X 26 0 < 30 := (nI_ltI (a := xSz X 26 0) (b := 30) (by have := hL.2.2.1; omega) (by decide)).mp c9
      have hTM : TS X (k_post 8 (-((k_allowance (ci S 1280 p3) p4 p5 p6 X S) + ((p7.toInt64) * 30))) X (k_post 0 ((k_allowance (ci S 1280 p3) p4 p5 p6 X S) + ((p7.toInt64) * 30)) X (sj (k_spend p2 ((k_allowance (ci S 1280 p3) p4 p5 p6 X S) + ((p7.toInt64) * 30)) X S) 197 p1 ((cj S 197 p1) + ((k_allowance (ci S 1280 p3) p4 p5 p6 X S) + ((p7.toInt64) * 30)))))) := hT.of (fun f x hf => by rcases hf with rfl | rfl | rfl | rfl | rfl | rfl <;> first | exact ((ci_post).trans ((ci_post).trans (ci_j.trans (ci_spend)))) | exact ((ci_post).trans ((ci_post).trans (ci_j.trans (ci_spend)))) | exact ((ci_post).trans ((ci_post).trans (ci_j.trans (ci_spend)))) | exact ((ci_post).trans ((ci_post).trans (ci_j.trans (ci_spend)))) | exact ((ci_post).trans ((ci_post).trans (ci_j.trans (ci_spend)))) | exact ((ci_post).trans ((ci_post).trans (ci_j.trans (ci_spend)))))
      refine  x_new (pc := 172) (ci := 10) (N := 1) (C := RX9) (T := TX9) (fs := [.long 0]) (bc1 := 1) (bs1 := 73) G i_X9 tyX9 tyX9_ok q_cl_X10_411 q_it_X9 q_in_X9 rfl (by decide) (Nat.le_of_ble_eq_true rfl) (Nat.le_of_ble_eq_true rfl) dX10_trip_172 (fun q hq => ?_)
      refine  x_dup (pc := 175) G dX10_trip_175 rfl ?_
      refine  x_lload10 (pc := 176) G dX10_trip_176 ?_
      refine  x_callI (bc1 := 1) (bs1 := 73) (pc := 178) (n := 1) (As := [.long ((k_allowance (ci S 1280 p3) p4 p5 p6 X S) + ((p7.toInt64) * 30))]) (st := [.ref q, (aR X 26 0)]) G (in_Trip hl (List.mem_append_right _ List.mem_cons_self) ) q_ml_X10_413 q_im_yX9_init q_in_X9 q_co_yX9_init rfl ⟨by decide +kernel, by decide +kernel, by decide +kernel⟩ ⟨Nat.le_of_ble_eq_true rfl, Nat.le_of_ble_eq_true rfl⟩ (by simp only [List.map_cons, List.map_nil, vr_cat]; exact Nat.le_of_ble_eq_true rfl) (Nat.le_refl _) (Nat.le_refl _) rfl rfl dX10_trip_178 (fun v9 h9 hp => ?_)
      obtain ⟨e1, rfl⟩ := hp
      cases e1
      obtain ⟨X1, E1, hK1, hT1, hA1, hN1, hv1, ev, hI1, ha1, hf1, hm1⟩ := al_trip (p1 := ((k_allowance (ci S 1280 p3) p4 p5 p6 X S) + ((p7.toInt64) * 30))) hX hL hTM hlt hq
      rw [E1]
      rw [ev, show aR X 26 0 = aR X1 26 0 from congrArg Value.ref (ha1 _ _ (by decide)).symm]
      refine  z_add (pc := 181) (Li := 26) (kd := 10) (x := 0) (z := nI (xSz X 26 0)) (bc1 := 0) (bs1 := 0) G hA1 hI1 ⟨rfl, by decide⟩ ((if_pos (by decide)).trans (by rw [nI_clamp (by omega), hf1.2.2]; rfl)) rfl (by decide +kernel) q_ml_X10_75 ⟨Nat.le_of_ble_eq_true rfl, Nat.le_of_ble_eq_true rfl⟩ (Nat.le_of_ble_eq_true rfl) (Nat.le_of_ble_eq_true rfl) (Nat.le_of_ble_eq_true rfl) dX10_trip_181 (fun X2 hA2 => ?_)
      refine  x_pop (pc := 184) G dX10_trip_184 rfl ?_
      have hN2 := hN1 X2 hA2
      have hX2 := hN2.1
      have hs2 : nS X2 26 0 = nI (xSz X 26 0 + 1) := nS_AD hA2 rfl (congrFun (congrFun hf1.2.2 26) 0)
      rw [show vr X 11 0 = vr X2 11 0 from ((vr_AD hA2 (by decide)).trans (hv1 _ _ (by decide))).symm]
      refine  z_aload0 (pc := 185) G vr_r dX10_trip_185 ?_
      refine  z_g (pc := 186) (f := 358) (x := 0) (v := (aR X2 26 0)) G kb_11 gb_X10_31 rfl hX2.1 hX2.l11 cr_358 dX10_trip_186 ?_
      refine  z_size (pc := 189) (Li := 26) (x := 0) G hX2.1 hX2.lw26 q_ml_X10_96 ⟨Nat.le_of_ble_eq_true rfl, Nat.le_of_ble_eq_true rfl⟩ (Nat.le_of_ble_eq_true rfl) dX10_trip_189 ?_
      refine  x_iconst (pc := 192) (v := 1) G dX10_trip_192 ic_1 ?_
      refine  x_isub (pc := 193) G dX10_trip_193 ?_
      exact  x_iret (pc := 194) G B rfl dX10_trip_194 (by rw [k_trip, if_pos c1, if_pos c2, if_neg c3, if_pos c4, if_pos c5, if_pos c6, if_pos c7, if_pos c8, if_pos c9, if_pos c10]; exact ⟨by rw [hs2], X2, hN2, rfl⟩)
    exact z_ISE (pc := 85) G B B2 hout (is := 398) (text := "there are 30 trips") (by decide +kernel) dX10_trip_85 dX10_trip_88 (Or.inr ⟨dX10_trip_89, dX10_trip_92, dX10_trip_95⟩) ⟨Nat.le_of_ble_eq_true rfl, Nat.le_of_ble_eq_true rfl⟩ (Nat.le_of_ble_eq_true rfl) (Nat.le_of_ble_eq_true rfl) (by rw [k_trip, if_pos c1, if_pos c2, if_neg c3, if_pos c4, if_pos c5, if_pos c6, if_pos c7, if_pos c8, if_neg c9]; exact ⟨rfl, rfl⟩)
  exact z_IOOBE (pc := 27) G B B2 hout (is := 395) (text := "no such place") (by decide +kernel) dX10_trip_27 dX10_trip_30 (Or.inr ⟨dX10_trip_31, dX10_trip_34, dX10_trip_37⟩) ⟨Nat.le_of_ble_eq_true rfl, Nat.le_of_ble_eq_true rfl⟩ (Nat.le_of_ble_eq_true rfl) (Nat.le_of_ble_eq_true rfl) (by rw [k_trip, if_pos c1, if_pos c2, if_neg c3, if_neg c4]; exact ⟨rfl, rfl⟩)
def y_person (X : CX) (p1 p2 : Int32) : CX := (fiX (fiX (fiX X 192 (xSz X 20 0) (nI (xSz X 20 0))) 193 (xSz X 20 0) p1) 194 (xSz X 20 0) p2)
def s_person (X : CX) (S : CT) (p1 p2 : Int32) : CT := (sj (sj (si (si S 195 (nI (xSz X 20 0)) 0) 196 (nI (xSz X 20 0)) (-1)) 197 (nI (xSz X 20 0)) 0) 198 (nI (xSz X 20 0)) 0)
theorem al_person {k : KC} {X : CX} {S : CT} (hX : XOK X) (hL : LVX X) (hT : TS X S) {p1 p2 : Int32} (ho : oI X 6 p1) (hlt : xSz X 20 0 < 12) {q : Nat} (hq : q ∉ (cW k X S).1) : ∃ X1, ((cW k X S).1 ++ [q], va_up (cW k X S).2 q (.inr (6, [.int (nI (xSz X 20 0)), vr X 6 p1, .int p2, .int 0, .null, .long 0, .long 0]))) = cW k X1 (s_person X S p1 p2) ∧ XOK X1 ∧ TS X1 (s_person X S p1 p2) ∧ LA X1 20 0 ∧ (∀ X2, AD X1 X2 20 0 → NX (y_person X p1 p2) X2 20 0) ∧ (∀ t x, t ≠ 6 → vr X1 t x = vr X t x) ∧ Value.ref q = vr X1 6 (nI (xSz X 20 0)) ∧ lI X1 6 (nI (xSz X 20 0)) ∧ (∀ L i, 20 ≤ L → xAd X1 L i = xAd X L i) ∧ (xFi X1 = xFi (y_person X p1 p2) ∧ xFj X1 = xFj (y_person X p1 p2) ∧ xSz X1 = xSz X) ∧ ∀ k' i, lv X1 k' i ↔ lv X k' i ∨ (k' = 6 ∧ i = (xSz X 20 0)) := by
  have hb := hL.2.2.1
  have hn31 : (xSz X 20 0) < 2 ^ 31 := by omega
  have hd : dead X 6 (xSz X 20 0) := dead.of hX.1 fun z => by
    have h9 : (xSz X 20 0) < (xSz X 20 0) := (hL.1 6 (xSz X 20 0)).mp z
    omega
  have hD : DE X S (fiX (fiX (fiX X 192 (xSz X 20 0) (nI (xSz X 20 0))) 193 (xSz X 20 0) p1) 194 (xSz X 20 0) p2) (sj (sj (si (si S 195 (nI (xSz X 20 0)) 0) 196 (nI (xSz X 20 0)) (-1)) 197 (nI (xSz X 20 0)) 0) 198 (nI (xSz X 20 0)) 0) 6 (xSz X 20 0) := (DE.sj (DE.sj (DE.si (DE.si (DE.fi (DE.fi (DE.fi DE.refl (by decide)) (by decide)) (by decide)) (by decide) hn31) (by decide) hn31) (by decide) hn31) (by decide) hn31)
  obtain ⟨E1, HX1⟩ := cW_obj (k := k) (e := (.inr (6, [.int (nI (xSz X 20 0)), vr X 6 p1, .int p2, .int 0, .null, .long 0, .long 0]))) hX.1 (RO_of hX hL hT) (EA_of hX hL) (by decide) hq hd hD (by
    show Sum.inr (6, [.int (nI (xSz X 20 0)), vr X 6 p1, .int p2, .int 0, .null, .long 0, .long 0]) = Sum.inr (6, [cR (adX (fiX (fiX (fiX X 192 (xSz X 20 0) (nI (xSz X 20 0))) 193 (xSz X 20 0) p1) 194 (xSz X 20 0) p2) 6 (xSz X 20 0) q) (sj (sj (si (si S 195 (nI (xSz X 20 0)) 0) 196 (nI (xSz X 20 0)) (-1)) 197 (nI (xSz X 20 0)) 0) 198 (nI (xSz X 20 0)) 0) 192 (xSz X 20 0), cR (adX (fiX (fiX (fiX X 192 (xSz X 20 0) (nI (xSz X 20 0))) 193 (xSz X 20 0) p1) 194 (xSz X 20 0) p2) 6 (xSz X 20 0) q) (sj (sj (si (si S 195 (nI (xSz X 20 0)) 0) 196 (nI (xSz X 20 0)) (-1)) 197 (nI (xSz X 20 0)) 0) 198 (nI (xSz X 20 0)) 0) 193 (xSz X 20 0), cR (adX (fiX (fiX (fiX X 192 (xSz X 20 0) (nI (xSz X 20 0))) 193 (xSz X 20 0) p1) 194 (xSz X 20 0) p2) 6 (xSz X 20 0) q) (sj (sj (si (si S 195 (nI (xSz X 20 0)) 0) 196 (nI (xSz X 20 0)) (-1)) 197 (nI (xSz X 20 0)) 0) 198 (nI (xSz X 20 0)) 0) 194 (xSz X 20 0), cR (adX (fiX (fiX (fiX X 192 (xSz X 20 0) (nI (xSz X 20 0))) 193 (xSz X 20 0) p1) 194 (xSz X 20 0) p2) 6 (xSz X 20 0) q) (sj (sj (si (si S 195 (nI (xSz X 20 0)) 0) 196 (nI (xSz X 20 0)) (-1)) 197 (nI (xSz X 20 0)) 0) 198 (nI (xSz X 20 0)) 0) 195 (xSz X 20 0), cR (adX (fiX (fiX (fiX X 192 (xSz X 20 0) (nI (xSz X 20 0))) 193 (xSz X 20 0) p1) 194 (xSz X 20 0) p2) 6 (xSz X 20 0) q) (sj (sj (si (si S 195 (nI (xSz X 20 0)) 0) 196 (nI (xSz X 20 0)) (-1)) 197 (nI (xSz X 20 0)) 0) 198 (nI (xSz X 20 0)) 0) 196 (xSz X 20 0), cR (adX (fiX (fiX (fiX X 192 (xSz X 20 0) (nI (xSz X 20 0))) 193 (xSz X 20 0) p1) 194 (xSz X 20 0) p2) 6 (xSz X 20 0) q) (sj (sj (si (si S 195 (nI (xSz X 20 0)) 0) 196 (nI (xSz X 20 0)) (-1)) 197 (nI (xSz X 20 0)) 0) 198 (nI (xSz X 20 0)) 0) 197 (xSz X 20 0), cR (adX (fiX (fiX (fiX X 192 (xSz X 20 0) (nI (xSz X 20 0))) 193 (xSz X 20 0) p1) 194 (xSz X 20 0) p2) 6 (xSz X 20 0) q) (sj (sj (si (si S 195 (nI (xSz X 20 0)) 0) 196 (nI (xSz X 20 0)) (-1)) 197 (nI (xSz X 20 0)) 0) 198 (nI (xSz X 20 0)) 0) 198 (xSz X 20 0)])
    rw [show cR (adX (fiX (fiX (fiX X 192 (xSz X 20 0) (nI (xSz X 20 0))) 193 (xSz X 20 0) p1) 194 (xSz X 20 0) p2) 6 (xSz X 20 0) q) (sj (sj (si (si S 195 (nI (xSz X 20 0)) 0) 196 (nI (xSz X 20 0)) (-1)) 197 (nI (xSz X 20 0)) 0) 198 (nI (xSz X 20 0)) 0) 192 (xSz X 20 0) = .int (nI (xSz X 20 0)) from (congrArg Value.int (fi_a.trans ((fi_sn rfl).trans ((fi_sn rfl).trans fi_ss)))), show cR (adX (fiX (fiX (fiX X 192 (xSz X 20 0) (nI (xSz X 20 0))) 193 (xSz X 20 0) p1) 194 (xSz X 20 0) p2) 6 (xSz X 20 0) q) (sj (sj (si (si S 195 (nI (xSz X 20 0)) 0) 196 (nI (xSz X 20 0)) (-1)) 197 (nI (xSz X 20 0)) 0) 198 (nI (xSz X 20 0)) 0) 193 (xSz X 20 0) = vr X 6 p1 from ((congrArg (vr _ 6) (fi_a.trans ((fi_sn rfl).trans fi_ss))).trans (vr_ad hd ho)), show cR (adX (fiX (fiX (fiX X 192 (xSz X 20 0) (nI (xSz X 20 0))) 193 (xSz X 20 0) p1) 194 (xSz X 20 0) p2) 6 (xSz X 20 0) q) (sj (sj (si (si S 195 (nI (xSz X 20 0)) 0) 196 (nI (xSz X 20 0)) (-1)) 197 (nI (xSz X 20 0)) 0) 198 (nI (xSz X 20 0)) 0) 194 (xSz X 20 0) = .int p2 from (congrArg Value.int (fi_a.trans fi_ss)), show cR (adX (fiX (fiX (fiX X 192 (xSz X 20 0) (nI (xSz X 20 0))) 193 (xSz X 20 0) p1) 194 (xSz X 20 0) p2) 6 (xSz X 20 0) q) (sj (sj (si (si S 195 (nI (xSz X 20 0)) 0) 196 (nI (xSz X 20 0)) (-1)) 197 (nI (xSz X 20 0)) 0) 198 (nI (xSz X 20 0)) 0) 195 (xSz X 20 0) = .int 0 from (congrArg Value.int (sj_i.trans (sj_i.trans ((si_an rfl).trans (si_at hn31))))), show cR (adX (fiX (fiX (fiX X 192 (xSz X 20 0) (nI (xSz X 20 0))) 193 (xSz X 20 0) p1) 194 (xSz X 20 0) p2) 6 (xSz X 20 0) q) (sj (sj (si (si S 195 (nI (xSz X 20 0)) 0) 196 (nI (xSz X 20 0)) (-1)) 197 (nI (xSz X 20 0)) 0) 198 (nI (xSz X 20 0)) 0) 196 (xSz X 20 0) = .null from ((congrArg (vr _ 6) (sj_i.trans (sj_i.trans (si_at hn31)))).trans (if_pos rfl)), show cR (adX (fiX (fiX (fiX X 192 (xSz X 20 0) (nI (xSz X 20 0))) 193 (xSz X 20 0) p1) 194 (xSz X 20 0) p2) 6 (xSz X 20 0) q) (sj (sj (si (si S 195 (nI (xSz X 20 0)) 0) 196 (nI (xSz X 20 0)) (-1)) 197 (nI (xSz X 20 0)) 0) 198 (nI (xSz X 20 0)) 0) 197 (xSz X 20 0) = .long 0 from (congrArg Value.long ((sj_an rfl).trans (sj_at hn31))), show cR (adX (fiX (fiX (fiX X 192 (xSz X 20 0) (nI (xSz X 20 0))) 193 (xSz X 20 0) p1) 194 (xSz X 20 0) p2) 6 (xSz X 20 0) q) (sj (sj (si (si S 195 (nI (xSz X 20 0)) 0) 196 (nI (xSz X 20 0)) (-1)) 197 (nI (xSz X 20 0)) 0) 198 (nI (xSz X 20 0)) 0) 198 (xSz X 20 0) = .long 0 from (congrArg Value.long (sj_at hn31))])
  have hK1 := XOK_ob (e := (.inr (6, [.int (nI (xSz X 20 0)), vr X 6 p1, .int p2, .int 0, .null, .long 0, .long 0]))) hX hq hd hD ⟨by decide, by decide⟩ (by omega) HX1 (fun z => absurd z (by decide)) (fun z => absurd z (by decide)) (fun z => absurd z (by decide)) (fun _ => by rw [show xFi (fiX (fiX (fiX X 192 (xSz X 20 0) (nI (xSz X 20 0))) 193 (xSz X 20 0) p1) 194 (xSz X 20 0) p2) 193 _ = p1 from (fi_sn rfl).trans fi_ss]; exact ho)
  have hT1 := TS_ob (e := (.inr (6, [.int (nI (xSz X 20 0)), vr X 6 p1, .int p2, .int 0, .null, .long 0, .long 0]))) hT hX hq hd hD (by decide) (by omega) (fun _ => by rw [show (sj (sj (si (si S 195 (nI (xSz X 20 0)) 0) 196 (nI (xSz X 20 0)) (-1)) 197 (nI (xSz X 20 0)) 0) 198 (nI (xSz X 20 0)) 0).1 196 _ = -1 from sj_i.trans (sj_i.trans (si_at hn31))]; exact Or.inl rfl) (fun z => absurd z (by decide))
  have hA1 := LA_ob (e := (.inr (6, [.int (nI (xSz X 20 0)), vr X 6 p1, .int p2, .int 0, .null, .long 0, .long 0]))) (LA_of hX hL (by decide) (by decide) ((hL.1 20 0).mpr rfl) (by omega)) hq hD (by decide) HX1
  have hme : lv (obX (fiX (fiX (fiX X 192 (xSz X 20 0) (nI (xSz X 20 0))) 193 (xSz X 20 0) p1) 194 (xSz X 20 0) p2) 6 (xSz X 20 0) q (.inr (6, [.int (nI (xSz X 20 0)), vr X 6 p1, .int p2, .int 0, .null, .long 0, .long 0]))) 6 (xSz X 20 0) := ob_me hX.1 hq hD
  have hlI : lI (obX (fiX (fiX (fiX X 192 (xSz X 20 0) (nI (xSz X 20 0))) 193 (xSz X 20 0) p1) 194 (xSz X 20 0) p2) 6 (xSz X 20 0) q (.inr (6, [.int (nI (xSz X 20 0)), vr X 6 p1, .int p2, .int 0, .null, .long 0, .long 0]))) 6 (nI (xSz X 20 0)) := ⟨_, by omega, rfl, hme⟩
  refine ⟨_, E1, hK1, hT1, hA1, fun X2 hA2 => ⟨XOK.ad hK1 hA2 hA1.2.2.1 ⟨?_, ?_⟩, LVX_20 hL hX.1 hq hD hlt hA2, hA2.2.1.1, hA2.2.1.2, hA2.2.2.2.1, (hA2.2.2.1 11 0 (by omega)).trans (ad_ne (fun z => by omega))⟩, fun t x ht => vr_an ht, ?_, hlI, fun L i h20 => ad_ne (fun z => by omega), ⟨rfl, rfl, rfl⟩, fun k' i => lv_ob hX.1 hq hD.1⟩
  · show xSz X 20 0 < 2 ^ 30
    omega
  · exact hme
  · rw [hlI.vr, nI_clamp hn31]
    exact congrArg Value.ref ad_ad.symm
theorem dX10_person_0 : decode cX10_person 0 = .ok (.iload_n 1, 1) := by decide +kernel
theorem dX10_person_1 : decode cX10_person 1 = .ok (.iconst (-1), 1) := by decide +kernel
theorem dX10_person_2 : decode cX10_person 2 = .ok (.if_icmp .ne 7, 3) := by decide +kernel
theorem dX10_person_5 : decode cX10_person 5 = .ok (.aconst_null, 1) := by decide +kernel
theorem dX10_person_6 : decode cX10_person 6 = .ok (.goto 8, 3) := by decide +kernel
theorem dX10_person_9 : decode cX10_person 9 = .ok (.aload_n 0, 1) := by decide +kernel
theorem dX10_person_10 : decode cX10_person 10 = .ok (.iload_n 1, 1) := by decide +kernel
theorem dX10_person_11 : decode cX10_person 11 = .ok (.invokevirtual 87, 3) := by decide +kernel
theorem dX10_person_14 : decode cX10_person 14 = .ok (.astore_n 3, 1) := by decide +kernel
theorem dX10_person_15 : decode cX10_person 15 = .ok (.iload_n 2, 1) := by decide +kernel
theorem dX10_person_16 : decode cX10_person 16 = .ok (.iconst 0, 1) := by decide +kernel
theorem dX10_person_17 : decode cX10_person 17 = .ok (.ldc 91, 2) := by decide +kernel
theorem dX10_person_19 : decode cX10_person 19 = .ok (.invokestatic 92, 3) := by decide +kernel
theorem dX10_person_22 : decode cX10_person 22 = .ok (.aload_n 0, 1) := by decide +kernel
theorem dX10_person_23 : decode cX10_person 23 = .ok (.getfield 10, 3) := by decide +kernel
theorem dX10_person_26 : decode cX10_person 26 = .ok (.invokevirtual 96, 3) := by decide +kernel
theorem dX10_person_29 : decode cX10_person 29 = .ok (.bipush 12, 2) := by decide +kernel
theorem dX10_person_31 : decode cX10_person 31 = .ok (.if_icmp .lt 13, 3) := by decide +kernel
theorem dX10_person_34 : decode cX10_person 34 = .ok (.new 100, 3) := by decide +kernel
theorem dX10_person_37 : decode cX10_person 37 = .ok (.dup, 1) := by decide +kernel
theorem dX10_person_38 : decode cX10_person 38 = .ok (.ldc 102, 2) := by decide +kernel
theorem dX10_person_40 : decode cX10_person 40 = .ok (.invokespecial 104, 3) := by decide +kernel
theorem dX10_person_43 : decode cX10_person 43 = .ok (.athrow, 1) := by decide +kernel
theorem dX10_person_44 : decode cX10_person 44 = .ok (.new 107, 3) := by decide +kernel
theorem dX10_person_47 : decode cX10_person 47 = .ok (.dup, 1) := by decide +kernel
theorem dX10_person_48 : decode cX10_person 48 = .ok (.aload_n 0, 1) := by decide +kernel
theorem dX10_person_49 : decode cX10_person 49 = .ok (.getfield 10, 3) := by decide +kernel
theorem dX10_person_52 : decode cX10_person 52 = .ok (.invokevirtual 96, 3) := by decide +kernel
theorem dX10_person_55 : decode cX10_person 55 = .ok (.aload_n 3, 1) := by decide +kernel
theorem dX10_person_56 : decode cX10_person 56 = .ok (.iload_n 2, 1) := by decide +kernel
theorem dX10_person_57 : decode cX10_person 57 = .ok (.invokespecial 109, 3) := by decide +kernel
theorem dX10_person_60 : decode cX10_person 60 = .ok (.astore 4, 2) := by decide +kernel
theorem dX10_person_62 : decode cX10_person 62 = .ok (.aload_n 0, 1) := by decide +kernel
theorem dX10_person_63 : decode cX10_person 63 = .ok (.getfield 45, 3) := by decide +kernel
theorem dX10_person_66 : decode cX10_person 66 = .ok (.ifnonnull 9, 3) := by decide +kernel
theorem dX10_person_69 : decode cX10_person 69 = .ok (.aload_n 0, 1) := by decide +kernel
theorem dX10_person_70 : decode cX10_person 70 = .ok (.aload 4, 2) := by decide +kernel
theorem dX10_person_72 : decode cX10_person 72 = .ok (.putfield 45, 3) := by decide +kernel
theorem dX10_person_75 : decode cX10_person 75 = .ok (.aload_n 0, 1) := by decide +kernel
theorem dX10_person_76 : decode cX10_person 76 = .ok (.getfield 10, 3) := by decide +kernel
theorem dX10_person_79 : decode cX10_person 79 = .ok (.aload 4, 2) := by decide +kernel
theorem dX10_person_81 : decode cX10_person 81 = .ok (.invokevirtual 75, 3) := by decide +kernel
theorem dX10_person_84 : decode cX10_person 84 = .ok (.pop, 1) := by decide +kernel
theorem dX10_person_85 : decode cX10_person 85 = .ok (.aload 4, 2) := by decide +kernel
theorem dX10_person_87 : decode cX10_person 87 = .ok (.getfield 112, 3) := by decide +kernel
theorem dX10_person_90 : decode cX10_person 90 = .ok (.ireturn, 1) := by decide +kernel
def k_person (p1 : Int32) (p2 : Int32) (X : CX) (S : CT) : (Int32 × CT) ⊕ String :=
    if p1 = (-1) then
      if P_in p2 0 10000000 then
        if (nS X 20 0) < 12 then
          if (ci (s_person X S (-1) p2) 362 0) = -1 then
            .inl ((nI (xSz X 20 0)), (si (s_person X S (-1) p2) 362 0 (nI (xSz X 20 0))))
          else
          .inl ((nI (xSz X 20 0)), (s_person X S (-1) p2))
        else
        .inr "java/lang/IllegalStateException"
      else
      .inr "java/lang/IllegalArgumentException"
    else
    if P_num p1 (nS X 20 0) then
      if P_in p2 0 10000000 then
        if (nS X 20 0) < 12 then
          if (ci (s_person X S p1 p2) 362 0) = -1 then
            .inl ((nI (xSz X 20 0)), (si (s_person X S p1 p2) 362 0 (nI (xSz X 20 0))))
          else
          .inl ((nI (xSz X 20 0)), (s_person X S p1 p2))
        else
        .inr "java/lang/IllegalStateException"
      else
      .inr "java/lang/IllegalArgumentException"
    else
    .inr "java/lang/IndexOutOfBoundsException"
abbrev rma_person : Room := { frames := 8, cells := 2, slots := 80, locals := 240 }
set_option maxRecDepth 100000 in
set_option maxHeartbeats 4000000 in
theorem ck_person {l : Launch} {k : KC} (hl : l.stackTraces = false) {X : CX} {S : CT} (hX : XOK X) (hL : LVX X) (hT : TS X S) {p1 : Int32} {p2 : Int32}  : MC l k yX10_person (.code yX10_person cX10_person 5 (some .int)) rma_person [(vr X 11 0), .int p1, .int p2] (cW k X S) (pAi k X S (y_person X p1 p2) 20 0 (k_person p1 p2 X S)) := by
  refine MC.of 2 hl (by decide) (by simp only [lg_sl_vr, lg_sl_i, lg_sl_l, lg_sl_0]; exact Nat.le_of_ble_eq_true rfl) ?_
  intro p e s m args below meth c A Q G B B2 hout
  simp only [lp_args_vr, lp_args_i, lp_args_l, lp_args_0]
  show Wx p l e rma_person s m args below meth c k A 5 Q 2 80 0 [some ((vr X 11 0)), some (.int p1), some (.int p2), none, none] [] (cW k X S)
  refine x_iload1 (pc := 0) G dX10_person_0 ?_
  refine x_iconst (pc := 1) (v := (-1)) G dX10_person_1 ic_m1 ?_
  refine x_icmp_ne (pc := 2) (tgt := 9) G dX10_person_2 rfl (fun c1 => ?_) (fun c1 => ?_)
  · refine z_aload0 (pc := 9) G vr_r dX10_person_9 ?_
    refine x_iload1 (pc := 10) G dX10_person_10 ?_
    rcases Decidable.em (¬ (P_num p1 (nS X 20 0))) with c2 | c2
    · exact z_cVt1 (pc := 11) G kb_11 hX.1 hX.l11 B B2 hout (no_personAt hl hX  c2) rfl q_ml_X10_87 h_X10_personAt ⟨Nat.le_of_ble_eq_true rfl, Nat.le_of_ble_eq_true rfl⟩ (Nat.le_of_ble_eq_true rfl) (Nat.le_refl _) (Nat.le_refl _) dX10_person_11 (by rw [k_person, if_neg c1, if_neg c2]; exact ⟨rfl, rfl⟩)
    have c2 := Decidable.not_not.mp c2
    refine z_cV1 (pc := 11) G kb_11 hX.1 hX.l11 (ok_personAt hl hX  c2) rfl q_ml_X10_87 h_X10_personAt ⟨Nat.le_of_ble_eq_true rfl, Nat.le_of_ble_eq_true rfl⟩ (Nat.le_of_ble_eq_true rfl) (Nat.le_refl _) (Nat.le_refl _) dX10_person_11 ?_
    refine z_astore3 (pc := 14) G vr_r dX10_person_14 (Nat.le_of_ble_eq_true rfl) rfl ?_
    refine x_iload2 (pc := 15) G dX10_person_15 ?_
    refine x_iconst (pc := 16) (v := 0) G dX10_person_16 ic_0 ?_
    refine x_ldc (pc := 17) G q_cs_X10_91 dX10_person_17 ?_
    rcases Decidable.em (¬ (P_in p2 0 10000000)) with c3 | c3
    · exact x_cSt3 (pc := 19) G B B2 hout (no_requireRange hl c3) q_ml_X10_92 h_X10_requireRange ⟨Nat.le_of_ble_eq_true rfl, Nat.le_of_ble_eq_true rfl⟩ (Nat.le_of_ble_eq_true rfl) (Nat.le_refl _) (Nat.le_refl _) dX10_person_19 (by rw [k_person, if_neg c1, if_pos c2, if_neg c3]; exact ⟨rfl, rfl⟩)
    have c3 := Decidable.not_not.mp c3
    refine x_cSv3 (pc := 19) G (ok_requireRange hl c3) q_ml_X10_92 h_X10_requireRange ⟨Nat.le_of_ble_eq_true rfl, Nat.le_of_ble_eq_true rfl⟩ (Nat.le_of_ble_eq_true rfl) (Nat.le_refl _) (Nat.le_refl _) dX10_person_19 ?_
    refine z_aload0 (pc := 22) G vr_r dX10_person_22 ?_
    refine z_g (pc := 23) (f := 352) (x := 0) (v := (aR X 20 0)) G kb_11 gb_X10_10 rfl hX.1 hX.l11 cr_352 dX10_person_23 ?_
    refine z_size (pc := 26) (Li := 20) (x := 0) G hX.1 hX.lw20 q_ml_X10_96 ⟨Nat.le_of_ble_eq_true rfl, Nat.le_of_ble_eq_true rfl⟩ (Nat.le_of_ble_eq_true rfl) dX10_person_26 ?_
    refine x_bipush (pc := 29) (v := 12) G dX10_person_29 bp_12 ?_
    refine x_icmp_lt (pc := 31) (tgt := 44) G dX10_person_31 rfl (fun c4 => ?_) (fun c4 => ?_)
    · have hlt : xSz X 20 0 < 12 := (nI_ltI (a := xSz X 20 0) (b := 12) (by have := hL.2.2.1; omega) (by decide)).mp c4
      refine  x_new (pc := 44) (ci := 6) (N := 7) (C := RX5) (T := TX5) (fs := [.int 0, .null, .int 0, .int 0, .null, .long 0, .long 0]) (bc1 := 1) (bs1 := 73) G i_X5 tyX5 tyX5_ok q_cl_X10_107 q_it_X5 q_in_X5 rfl (by decide) (Nat.le_of_ble_eq_true rfl) (Nat.le_of_ble_eq_true rfl) dX10_person_44 (fun q hq => ?_)
      refine  x_dup (pc := 47) G dX10_person_47 rfl ?_
      rw [cW_nw hX.1 hq]
      refine  z_aload0 (pc := 48) G vr_r dX10_person_48 ?_
      refine  z_g (pc := 49) (X := nwX X q (.inr (6, [.int 0, .null, .int 0, .int 0, .null, .long 0, .long 0]))) (f := 352) (x := 0) (v := aR X 20 0) G kb_11 gb_X10_10 rfl hX.nw.1 hX.nw.l11 cr_352 dX10_person_49 ?_
      refine  z_size (pc := 52) (X := nwX X q (.inr (6, [.int 0, .null, .int 0, .int 0, .null, .long 0, .long 0]))) (Li := 20) (x := 0) G hX.nw.1 hX.nw.lw20 q_ml_X10_96 ⟨Nat.le_of_ble_eq_true rfl, Nat.le_of_ble_eq_true rfl⟩ (Nat.le_of_ble_eq_true rfl) dX10_person_52 ?_
      rw [← cW_nw hX.1 hq]
      refine  z_aload3 (pc := 55) G vr_r dX10_person_55 ?_
      refine  x_iload2 (pc := 56) G dX10_person_56 ?_
      refine  x_callI (bc1 := 1) (bs1 := 73) (pc := 57) (n := 3) (As := [.int (nI (xSz X 20 0)), (vr X 6 p1), .int p2]) (st := [.ref q]) G (in_Person hl (List.mem_append_right _ List.mem_cons_self) vr_r) q_ml_X10_109 q_im_yX5_init q_in_X5 q_co_yX5_init rfl ⟨by decide +kernel, by decide +kernel, by decide +kernel⟩ ⟨Nat.le_of_ble_eq_true rfl, Nat.le_of_ble_eq_true rfl⟩ (by simp only [List.map_cons, List.map_nil, vr_cat]; exact Nat.le_of_ble_eq_true rfl) (Nat.le_refl _) (Nat.le_refl _) rfl rfl dX10_person_57 (fun v9 h9 hp => ?_)
      obtain ⟨e1, rfl⟩ := hp
      cases e1
      obtain ⟨X1, E1, hK1, hT1, hA1, hN1, hv1, ev, hI1, ha1, hf1, hm1⟩ := al_person (p1 := p1) (p2 := p2) hX hL hT (Or.inr (hX.el20 c2)) hlt hq
      rw [E1]
      rw [ev]
      rw [show vr X 11 0 = vr X1 11 0 from (hv1 _ _ (by decide)).symm]
      refine  z_astore4 (pc := 60) G vr_r dX10_person_60 (Nat.le_of_ble_eq_true rfl) lp_c2_vr ?_
      refine  z_aload0 (pc := 62) G vr_r dX10_person_62 ?_
      refine  z_g (pc := 63) (f := 362) (x := 0) (v := (vr X1 6 (ci (s_person X S p1 p2) 362 0))) G kb_11 gb_X10_45 rfl hK1.1 hK1.l11 cr_362 dX10_person_63 ?_
      refine  z_ifnonnull (pc := 66) (tgt := 75) (kd := 6) (x := (ci (s_person X S p1 p2) 362 0)) G dX10_person_66 rfl (fun c5 => ?_) (fun c5 => ?_)
      · refine z_aload0 (pc := 75) G vr_r dX10_person_75 ?_
        refine z_g (pc := 76) (f := 352) (x := 0) (v := (aR X1 20 0)) G kb_11 gb_X10_10 rfl hK1.1 hK1.l11 cr_352 dX10_person_76 ?_
        refine z_aload4 (pc := 79) G vr_r dX10_person_79 ?_
        refine z_add (pc := 81) (Li := 20) (kd := 6) (x := 0) (z := nI (xSz X 20 0)) (bc1 := 0) (bs1 := 0) G hA1 hI1 ⟨rfl, by decide⟩ ((if_pos (by decide)).trans (by rw [nI_clamp (by omega), hf1.2.2]; rfl)) rfl (by decide +kernel) q_ml_X10_75 ⟨Nat.le_of_ble_eq_true rfl, Nat.le_of_ble_eq_true rfl⟩ (Nat.le_of_ble_eq_true rfl) (Nat.le_of_ble_eq_true rfl) (Nat.le_of_ble_eq_true rfl) dX10_person_81 (fun X2 hA2 => ?_)
        refine x_pop (pc := 84) G dX10_person_84 rfl ?_
        have hN2 := hN1 X2 hA2
        have hX2 := hN2.1
        have hs2 : nS X2 20 0 = nI (xSz X 20 0 + 1) := nS_AD hA2 rfl (congrFun (congrFun hf1.2.2 20) 0)
        rw [show vr X1 11 0 = vr X2 11 0 from (vr_AD hA2 (by decide)).symm]
        have hI2 : lI X2 6 (nI (xSz X 20 0)) := lI_mono (fun _ _ z => (hA2.2.2.2.2.2.2.1 _ _).mpr (Or.inl z)) hI1
        rw [show vr X1 6 (nI (xSz X 20 0)) = vr X2 6 (nI (xSz X 20 0)) from (vr_AD hA2 (by decide)).symm]
        have hnum : xi X2 192 (nI (xSz X 20 0)) = nI (xSz X 20 0) := by unfold xi; rw [hN2.2.2.1, nI_clamp (by omega)]; exact (fi_sn rfl).trans ((fi_sn rfl).trans fi_ss)
        refine z_aload4 (pc := 85) G vr_r dX10_person_85 ?_
        refine z_g (pc := 87) (f := 192) (x := (nI (xSz X 20 0))) (v := (.int (xi X2 192 (nI (xSz X 20 0))))) G kb_6 gb_X10_112 rfl hX2.1 hI2 cr_192 dX10_person_87 ?_
        exact x_iret (pc := 90) G B rfl dX10_person_90 (by rw [k_person, if_neg c1, if_pos c2, if_pos c3, if_pos c4, if_neg c5]; exact ⟨by rw [hnum], X2, hN2, rfl⟩)
      refine  z_aload0 (pc := 69) G vr_r dX10_person_69 ?_
      refine  z_aload4 (pc := 70) G vr_r dX10_person_70 ?_
      refine  z_pR (pc := 72) (f := 362) G kb_11 gb_X10_45 rfl hK1.1 hK1.l11 rfl (cr_362.trans (congrArg (vr X1 6) ci_ss)) (Or.inl ⟨_, rfl⟩) dX10_person_72 ?_
      refine  z_aload0 (pc := 75) G vr_r dX10_person_75 ?_
      refine  z_g (pc := 76) (f := 352) (x := 0) (v := (aR X1 20 0)) G kb_11 gb_X10_10 rfl hK1.1 hK1.l11 cr_352 dX10_person_76 ?_
      refine  z_aload4 (pc := 79) G vr_r dX10_person_79 ?_
      refine  z_add (pc := 81) (Li := 20) (kd := 6) (x := 0) (z := nI (xSz X 20 0)) (bc1 := 0) (bs1 := 0) G hA1 hI1 ⟨rfl, by decide⟩ ((if_pos (by decide)).trans (by rw [nI_clamp (by omega), hf1.2.2]; rfl)) rfl (by decide +kernel) q_ml_X10_75 ⟨Nat.le_of_ble_eq_true rfl, Nat.le_of_ble_eq_true rfl⟩ (Nat.le_of_ble_eq_true rfl) (Nat.le_of_ble_eq_true rfl) (Nat.le_of_ble_eq_true rfl) dX10_person_81 (fun X2 hA2 => ?_)
      refine  x_pop (pc := 84) G dX10_person_84 rfl ?_
      have hN2 := hN1 X2 hA2
      have hX2 := hN2.1
      have hs2 : nS X2 20 0 = nI (xSz X 20 0 + 1) := nS_AD hA2 rfl (congrFun (congrFun hf1.2.2 20) 0)
      rw [show vr X1 11 0 = vr X2 11 0 from (vr_AD hA2 (by decide)).symm]
      have hI2 : lI X2 6 (nI (xSz X 20 0)) := lI_mono (fun _ _ z => (hA2.2.2.2.2.2.2.1 _ _).mpr (Or.inl z)) hI1
      rw [show vr X1 6 (nI (xSz X 20 0)) = vr X2 6 (nI (xSz X 20 0)) from (vr_AD hA2 (by decide)).symm]
      have hnum : xi X2 192 (nI (xSz X 20 0)) = nI (xSz X 20 0) := by unfold xi; rw [hN2.2.2.1, nI_clamp (by omega)]; exact (fi_sn rfl).trans ((fi_sn rfl).trans fi_ss)
      refine  z_aload4 (pc := 85) G vr_r dX10_person_85 ?_
      refine  z_g (pc := 87) (f := 192) (x := (nI (xSz X 20 0))) (v := (.int (xi X2 192 (nI (xSz X 20 0))))) G kb_6 gb_X10_112 rfl hX2.1 hI2 cr_192 dX10_person_87 ?_
      exact  x_iret (pc := 90) G B rfl dX10_person_90 (by rw [k_person, if_neg c1, if_pos c2, if_pos c3, if_pos c4, if_pos c5]; exact ⟨by rw [hnum], X2, hN2, rfl⟩)
    exact z_ISE (pc := 34) G B B2 hout (is := 102) (text := "there are 12 persons") (by decide +kernel) dX10_person_34 dX10_person_37 (Or.inl ⟨dX10_person_38, dX10_person_40, dX10_person_43⟩) ⟨Nat.le_of_ble_eq_true rfl, Nat.le_of_ble_eq_true rfl⟩ (Nat.le_of_ble_eq_true rfl) (Nat.le_of_ble_eq_true rfl) (by rw [k_person, if_neg c1, if_pos c2, if_pos c3, if_neg c4]; exact ⟨rfl, rfl⟩)
  refine z_null (pc := 5) 6 X G dX10_person_5 ?_
  refine x_goto (pc := 6) (tgt := 14) G dX10_person_6 rfl ?_
  refine z_astore3 (pc := 14) G vr_r dX10_person_14 (Nat.le_of_ble_eq_true rfl) rfl ?_
  refine x_iload2 (pc := 15) G dX10_person_15 ?_
  refine x_iconst (pc := 16) (v := 0) G dX10_person_16 ic_0 ?_
  refine x_ldc (pc := 17) G q_cs_X10_91 dX10_person_17 ?_
  rcases Decidable.em (¬ (P_in p2 0 10000000)) with c5 | c5
  · exact x_cSt3 (pc := 19) G B B2 hout (no_requireRange hl c5) q_ml_X10_92 h_X10_requireRange ⟨Nat.le_of_ble_eq_true rfl, Nat.le_of_ble_eq_true rfl⟩ (Nat.le_of_ble_eq_true rfl) (Nat.le_refl _) (Nat.le_refl _) dX10_person_19 (by rw [k_person, if_pos c1, if_neg c5]; exact ⟨rfl, rfl⟩)
  have c5 := Decidable.not_not.mp c5
  refine x_cSv3 (pc := 19) G (ok_requireRange hl c5) q_ml_X10_92 h_X10_requireRange ⟨Nat.le_of_ble_eq_true rfl, Nat.le_of_ble_eq_true rfl⟩ (Nat.le_of_ble_eq_true rfl) (Nat.le_refl _) (Nat.le_refl _) dX10_person_19 ?_
  refine z_aload0 (pc := 22) G vr_r dX10_person_22 ?_
  refine z_g (pc := 23) (f := 352) (x := 0) (v := (aR X 20 0)) G kb_11 gb_X10_10 rfl hX.1 hX.l11 cr_352 dX10_person_23 ?_
  refine z_size (pc := 26) (Li := 20) (x := 0) G hX.1 hX.lw20 q_ml_X10_96 ⟨Nat.le_of_ble_eq_true rfl, Nat.le_of_ble_eq_true rfl⟩ (Nat.le_of_ble_eq_true rfl) dX10_person_26 ?_
  refine x_bipush (pc := 29) (v := 12) G dX10_person_29 bp_12 ?_
  refine x_icmp_lt (pc := 31) (tgt := 44) G dX10_person_31 rfl (fun c6 => ?_) (fun c6 => ?_)
  · have hlt : xSz X 20 0 < 12 := (nI_ltI (a := xSz X 20 0) (b := 12) (by have := hL.2.2.1; omega) (by decide)).mp c6
    have hp9 : p1 = -1 := c1
    subst hp9
    refine  x_new (pc := 44) (ci := 6) (N := 7) (C := RX5) (T := TX5) (fs := [.int 0, .null, .int 0, .int 0, .null, .long 0, .long 0]) (bc1 := 1) (bs1 := 73) G i_X5 tyX5 tyX5_ok q_cl_X10_107 q_it_X5 q_in_X5 rfl (by decide) (Nat.le_of_ble_eq_true rfl) (Nat.le_of_ble_eq_true rfl) dX10_person_44 (fun q hq => ?_)
    refine  x_dup (pc := 47) G dX10_person_47 rfl ?_
    rw [cW_nw hX.1 hq]
    refine  z_aload0 (pc := 48) G vr_r dX10_person_48 ?_
    refine  z_g (pc := 49) (X := nwX X q (.inr (6, [.int 0, .null, .int 0, .int 0, .null, .long 0, .long 0]))) (f := 352) (x := 0) (v := aR X 20 0) G kb_11 gb_X10_10 rfl hX.nw.1 hX.nw.l11 cr_352 dX10_person_49 ?_
    refine  z_size (pc := 52) (X := nwX X q (.inr (6, [.int 0, .null, .int 0, .int 0, .null, .long 0, .long 0]))) (Li := 20) (x := 0) G hX.nw.1 hX.nw.lw20 q_ml_X10_96 ⟨Nat.le_of_ble_eq_true rfl, Nat.le_of_ble_eq_true rfl⟩ (Nat.le_of_ble_eq_true rfl) dX10_person_52 ?_
    rw [← cW_nw hX.1 hq]
    refine  z_aload3 (pc := 55) G vr_r dX10_person_55 ?_
    refine  x_iload2 (pc := 56) G dX10_person_56 ?_
    refine  x_callI (bc1 := 1) (bs1 := 73) (pc := 57) (n := 3) (As := [.int (nI (xSz X 20 0)), (vr X 6 (-1)), .int p2]) (st := [.ref q]) G (in_Person hl (List.mem_append_right _ List.mem_cons_self) vr_r) q_ml_X10_109 q_im_yX5_init q_in_X5 q_co_yX5_init rfl ⟨by decide +kernel, by decide +kernel, by decide +kernel⟩ ⟨Nat.le_of_ble_eq_true rfl, Nat.le_of_ble_eq_true rfl⟩ (by simp only [List.map_cons, List.map_nil, vr_cat]; exact Nat.le_of_ble_eq_true rfl) (Nat.le_refl _) (Nat.le_refl _) rfl rfl dX10_person_57 (fun v9 h9 hp => ?_)
    obtain ⟨e1, rfl⟩ := hp
    cases e1
    obtain ⟨X1, E1, hK1, hT1, hA1, hN1, hv1, ev, hI1, ha1, hf1, hm1⟩ := al_person (p1 := (-1)) (p2 := p2) hX hL hT (Or.inl rfl) hlt hq
    rw [E1]
    rw [ev]
    rw [show vr X 11 0 = vr X1 11 0 from (hv1 _ _ (by decide)).symm]
    refine  z_astore4 (pc := 60) G vr_r dX10_person_60 (Nat.le_of_ble_eq_true rfl) lp_c2_vr ?_
    refine  z_aload0 (pc := 62) G vr_r dX10_person_62 ?_
    refine  z_g (pc := 63) (f := 362) (x := 0) (v := (vr X1 6 (ci (s_person X S (-1) p2) 362 0))) G kb_11 gb_X10_45 rfl hK1.1 hK1.l11 cr_362 dX10_person_63 ?_
    refine  z_ifnonnull (pc := 66) (tgt := 75) (kd := 6) (x := (ci (s_person X S (-1) p2) 362 0)) G dX10_person_66 rfl (fun c7 => ?_) (fun c7 => ?_)
    · refine z_aload0 (pc := 75) G vr_r dX10_person_75 ?_
      refine z_g (pc := 76) (f := 352) (x := 0) (v := (aR X1 20 0)) G kb_11 gb_X10_10 rfl hK1.1 hK1.l11 cr_352 dX10_person_76 ?_
      refine z_aload4 (pc := 79) G vr_r dX10_person_79 ?_
      refine z_add (pc := 81) (Li := 20) (kd := 6) (x := 0) (z := nI (xSz X 20 0)) (bc1 := 0) (bs1 := 0) G hA1 hI1 ⟨rfl, by decide⟩ ((if_pos (by decide)).trans (by rw [nI_clamp (by omega), hf1.2.2]; rfl)) rfl (by decide +kernel) q_ml_X10_75 ⟨Nat.le_of_ble_eq_true rfl, Nat.le_of_ble_eq_true rfl⟩ (Nat.le_of_ble_eq_true rfl) (Nat.le_of_ble_eq_true rfl) (Nat.le_of_ble_eq_true rfl) dX10_person_81 (fun X2 hA2 => ?_)
      refine x_pop (pc := 84) G dX10_person_84 rfl ?_
      have hN2 := hN1 X2 hA2
      have hX2 := hN2.1
      have hs2 : nS X2 20 0 = nI (xSz X 20 0 + 1) := nS_AD hA2 rfl (congrFun (congrFun hf1.2.2 20) 0)
      rw [show vr X1 11 0 = vr X2 11 0 from (vr_AD hA2 (by decide)).symm]
      have hI2 : lI X2 6 (nI (xSz X 20 0)) := lI_mono (fun _ _ z => (hA2.2.2.2.2.2.2.1 _ _).mpr (Or.inl z)) hI1
      rw [show vr X1 6 (nI (xSz X 20 0)) = vr X2 6 (nI (xSz X 20 0)) from (vr_AD hA2 (by decide)).symm]
      have hnum : xi X2 192 (nI (xSz X 20 0)) = nI (xSz X 20 0) := by unfold xi; rw [hN2.2.2.1, nI_clamp (by omega)]; exact (fi_sn rfl).trans ((fi_sn rfl).trans fi_ss)
      refine z_aload4 (pc := 85) G vr_r dX10_person_85 ?_
      refine z_g (pc := 87) (f := 192) (x := (nI (xSz X 20 0))) (v := (.int (xi X2 192 (nI (xSz X 20 0))))) G kb_6 gb_X10_112 rfl hX2.1 hI2 cr_192 dX10_person_87 ?_
      exact x_iret (pc := 90) G B rfl dX10_person_90 (by rw [k_person, if_pos c1, if_pos c5, if_pos c6, if_neg c7]; exact ⟨by rw [hnum], X2, hN2, rfl⟩)
    refine  z_aload0 (pc := 69) G vr_r dX10_person_69 ?_
    refine  z_aload4 (pc := 70) G vr_r dX10_person_70 ?_
    refine  z_pR (pc := 72) (f := 362) G kb_11 gb_X10_45 rfl hK1.1 hK1.l11 rfl (cr_362.trans (congrArg (vr X1 6) ci_ss)) (Or.inl ⟨_, rfl⟩) dX10_person_72 ?_
    refine  z_aload0 (pc := 75) G vr_r dX10_person_75 ?_
    refine  z_g (pc := 76) (f := 352) (x := 0) (v := (aR X1 20 0)) G kb_11 gb_X10_10 rfl hK1.1 hK1.l11 cr_352 dX10_person_76 ?_
    refine  z_aload4 (pc := 79) G vr_r dX10_person_79 ?_
    refine  z_add (pc := 81) (Li := 20) (kd := 6) (x := 0) (z := nI (xSz X 20 0)) (bc1 := 0) (bs1 := 0) G hA1 hI1 ⟨rfl, by decide⟩ ((if_pos (by decide)).trans (by rw [nI_clamp (by omega), hf1.2.2]; rfl)) rfl (by decide +kernel) q_ml_X10_75 ⟨Nat.le_of_ble_eq_true rfl, Nat.le_of_ble_eq_true rfl⟩ (Nat.le_of_ble_eq_true rfl) (Nat.le_of_ble_eq_true rfl) (Nat.le_of_ble_eq_true rfl) dX10_person_81 (fun X2 hA2 => ?_)
    refine  x_pop (pc := 84) G dX10_person_84 rfl ?_
    have hN2 := hN1 X2 hA2
    have hX2 := hN2.1
    have hs2 : nS X2 20 0 = nI (xSz X 20 0 + 1) := nS_AD hA2 rfl (congrFun (congrFun hf1.2.2 20) 0)
    rw [show vr X1 11 0 = vr X2 11 0 from (vr_AD hA2 (by decide)).symm]
    have hI2 : lI X2 6 (nI (xSz X 20 0)) := lI_mono (fun _ _ z => (hA2.2.2.2.2.2.2.1 _ _).mpr (Or.inl z)) hI1
    rw [show vr X1 6 (nI (xSz X 20 0)) = vr X2 6 (nI (xSz X 20 0)) from (vr_AD hA2 (by decide)).symm]
    have hnum : xi X2 192 (nI (xSz X 20 0)) = nI (xSz X 20 0) := by unfold xi; rw [hN2.2.2.1, nI_clamp (by omega)]; exact (fi_sn rfl).trans ((fi_sn rfl).trans fi_ss)
    refine  z_aload4 (pc := 85) G vr_r dX10_person_85 ?_
    refine  z_g (pc := 87) (f := 192) (x := (nI (xSz X 20 0))) (v := (.int (xi X2 192 (nI (xSz X 20 0))))) G kb_6 gb_X10_112 rfl hX2.1 hI2 cr_192 dX10_person_87 ?_
    exact  x_iret (pc := 90) G B rfl dX10_person_90 (by rw [k_person, if_pos c1, if_pos c5, if_pos c6, if_pos c7]; exact ⟨by rw [hnum], X2, hN2, rfl⟩)
  exact z_ISE (pc := 34) G B B2 hout (is := 102) (text := "there are 12 persons") (by decide +kernel) dX10_person_34 dX10_person_37 (Or.inl ⟨dX10_person_38, dX10_person_40, dX10_person_43⟩) ⟨Nat.le_of_ble_eq_true rfl, Nat.le_of_ble_eq_true rfl⟩ (Nat.le_of_ble_eq_true rfl) (Nat.le_of_ble_eq_true rfl) (by rw [k_person, if_pos c1, if_pos c5, if_neg c6]; exact ⟨rfl, rfl⟩)
