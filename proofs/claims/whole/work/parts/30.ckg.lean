theorem lOK {x : Int32} {n : Nat} (hn : n < 2 ^ 30) (h1 : ¬ x < 0) (h2 : x < nI n) : vp_in x n := vin_num hn ⟨Int32.not_lt.mp h1, h2⟩
theorem dX10_order_0 : decode cX10_order 0 = .ok (.aload_n 0, 1) := by decide +kernel
theorem dX10_order_1 : decode cX10_order 1 = .ok (.iload_n 1, 1) := by decide +kernel
theorem dX10_order_2 : decode cX10_order 2 = .ok (.invokevirtual 204, 3) := by decide +kernel
theorem dX10_order_5 : decode cX10_order 5 = .ok (.astore_n 3, 1) := by decide +kernel
theorem dX10_order_6 : decode cX10_order 6 = .ok (.aload_n 0, 1) := by decide +kernel
theorem dX10_order_7 : decode cX10_order 7 = .ok (.iload_n 2, 1) := by decide +kernel
theorem dX10_order_8 : decode cX10_order 8 = .ok (.invokevirtual 152, 3) := by decide +kernel
theorem dX10_order_11 : decode cX10_order 11 = .ok (.astore 4, 2) := by decide +kernel
theorem dX10_order_13 : decode cX10_order 13 = .ok (.aload_n 3, 1) := by decide +kernel
theorem dX10_order_14 : decode cX10_order 14 = .ok (.getfield 209, 3) := by decide +kernel
theorem dX10_order_17 : decode cX10_order 17 = .ok (.iconst 2, 1) := by decide +kernel
theorem dX10_order_18 : decode cX10_order 18 = .ok (.if_icmp .eq 14, 3) := by decide +kernel
theorem dX10_order_21 : decode cX10_order 21 = .ok (.new 100, 3) := by decide +kernel
theorem dX10_order_24 : decode cX10_order 24 = .ok (.dup, 1) := by decide +kernel
theorem dX10_order_25 : decode cX10_order 25 = .ok (.ldc_w 289, 3) := by decide +kernel
theorem dX10_order_28 : decode cX10_order 28 = .ok (.invokespecial 104, 3) := by decide +kernel
theorem dX10_order_31 : decode cX10_order 31 = .ok (.athrow, 1) := by decide +kernel
theorem dX10_order_32 : decode cX10_order 32 = .ok (.aload_n 3, 1) := by decide +kernel
theorem dX10_order_33 : decode cX10_order 33 = .ok (.aload 4, 2) := by decide +kernel
theorem dX10_order_35 : decode cX10_order 35 = .ok (.putfield 291, 3) := by decide +kernel
theorem dX10_order_38 : decode cX10_order 38 = .ok (.aload_n 3, 1) := by decide +kernel
theorem dX10_order_39 : decode cX10_order 39 = .ok (.aload_n 3, 1) := by decide +kernel
theorem dX10_order_40 : decode cX10_order 40 = .ok (.invokevirtual 228, 3) := by decide +kernel
theorem dX10_order_43 : decode cX10_order 43 = .ok (.putfield 295, 3) := by decide +kernel
theorem dX10_order_46 : decode cX10_order 46 = .ok (.aload_n 3, 1) := by decide +kernel
theorem dX10_order_47 : decode cX10_order 47 = .ok (.iconst 4, 1) := by decide +kernel
theorem dX10_order_48 : decode cX10_order 48 = .ok (.putfield 209, 3) := by decide +kernel
theorem dX10_order_51 : decode cX10_order 51 = .ok (.return_, 1) := by decide +kernel
def k_order (p1 : Int32) (p2 : Int32) (X : CX) (S : CT) : CT ⊕ String :=
    if P_num p1 (nS X 24 0) then
      if P_num p2 (nS X 23 0) then
        if (ci S 259 p1) = 2 then
          .inl (si (sj (si S 264 p1 p2) 265 p1 (k_total p1 X (si S 264 p1 p2))) 259 p1 4)
        else
        .inr "java/lang/IllegalStateException"
      else
      .inr "java/lang/IndexOutOfBoundsException"
    else
    .inr "java/lang/IndexOutOfBoundsException"
abbrev rm_X10_order : Room := { frames := 8, cells := 0, slots := 0, locals := 132 }
abbrev rmt_X10_order : Room := { frames := 8, cells := 1, slots := 6, locals := 132 }
set_option maxRecDepth 100000 in
set_option maxHeartbeats 4000000 in
theorem ck_order {l : Launch} {k : KC} (hl : l.stackTraces = false) {X : CX} {S : CT} (hX : XOK X) {p1 : Int32} {p2 : Int32}  : MC l k yX10_order (.code yX10_order cX10_order 5 none) rmt_X10_order [(vr X 11 0), .int p1, .int p2] (cW k X S) (pOv k X S (k_order p1 p2 X S)) := by
  refine MC.of 2 hl (by decide) (by simp only [lg_sl_vr, lg_sl_i, lg_sl_l, lg_sl_0]; exact Nat.le_of_ble_eq_true rfl) ?_
  intro p e s m args below meth c A Q G B B2 hout
  simp only [lp_args_vr, lp_args_i, lp_args_l, lp_args_0]
  show Wx p l e rmt_X10_order s m args below meth c k A 5 Q 1 6 0 [some ((vr X 11 0)), some (.int p1), some (.int p2), none, none] [] (cW k X S)
  refine z_aload0 (pc := 0) G vr_r dX10_order_0 ?_
  refine x_iload1 (pc := 1) G dX10_order_1 ?_
  rcases Decidable.em (¬ (P_num p1 (nS X 24 0))) with c1 | c1
  · exact z_cVt1 (pc := 2) G kb_11 hX.1 hX.l11 B B2 hout (no_requestAt hl hX  c1) rfl q_ml_X10_204 h_X10_requestAt ⟨Nat.le_of_ble_eq_true rfl, Nat.le_of_ble_eq_true rfl⟩ (Nat.le_of_ble_eq_true rfl) (Nat.le_refl _) (Nat.le_refl _) dX10_order_2 (by rw [k_order, if_neg c1]; exact ⟨rfl, rfl⟩)
  have c1 := Decidable.not_not.mp c1
  refine z_cV1 (pc := 2) G kb_11 hX.1 hX.l11 (ok_requestAt hl hX  c1) rfl q_ml_X10_204 h_X10_requestAt ⟨Nat.le_of_ble_eq_true rfl, Nat.le_of_ble_eq_true rfl⟩ (Nat.le_of_ble_eq_true rfl) (Nat.le_refl _) (Nat.le_refl _) dX10_order_2 ?_
  refine z_astore3 (pc := 5) G vr_r dX10_order_5 (Nat.le_of_ble_eq_true rfl) rfl ?_
  refine z_aload0 (pc := 6) G vr_r dX10_order_6 ?_
  refine x_iload2 (pc := 7) G dX10_order_7 ?_
  rcases Decidable.em (¬ (P_num p2 (nS X 23 0))) with c2 | c2
  · exact z_cVt1 (pc := 8) G kb_11 hX.1 hX.l11 B B2 hout (no_supplierAt hl hX  c2) rfl q_ml_X10_152 h_X10_supplierAt ⟨Nat.le_of_ble_eq_true rfl, Nat.le_of_ble_eq_true rfl⟩ (Nat.le_of_ble_eq_true rfl) (Nat.le_refl _) (Nat.le_refl _) dX10_order_8 (by rw [k_order, if_pos c1, if_neg c2]; exact ⟨rfl, rfl⟩)
  have c2 := Decidable.not_not.mp c2
  refine z_cV1 (pc := 8) G kb_11 hX.1 hX.l11 (ok_supplierAt hl hX  c2) rfl q_ml_X10_152 h_X10_supplierAt ⟨Nat.le_of_ble_eq_true rfl, Nat.le_of_ble_eq_true rfl⟩ (Nat.le_of_ble_eq_true rfl) (Nat.le_refl _) (Nat.le_refl _) dX10_order_8 ?_
  refine z_astore4 (pc := 11) G vr_r dX10_order_11 (Nat.le_of_ble_eq_true rfl) lp_c2_vr ?_
  refine z_aload3 (pc := 13) G vr_r dX10_order_13 ?_
  refine z_g (pc := 14) (f := 259) (x := p1) (v := (.int (ci S 259 p1))) G kb_8 gb_X10_209 rfl hX.1 (hX.el24 c1) cr_259 dX10_order_14 ?_
  refine x_iconst (pc := 17) (v := 2) G dX10_order_17 ic_2 ?_
  refine x_icmp_eq (pc := 18) (tgt := 32) G dX10_order_18 rfl (fun c3 => ?_) (fun c3 => ?_)
  · refine z_aload3 (pc := 32) G vr_r dX10_order_32 ?_
    refine z_aload4 (pc := 33) G vr_r dX10_order_33 ?_
    refine z_pR (pc := 35) (f := 264) G kb_8 gb_X10_291 rfl hX.1 (hX.el24 c1) rfl (cr_264.trans (congrArg (vr X 9) ci_ss)) (Or.inl ⟨_, rfl⟩) dX10_order_35 ?_
    refine z_aload3 (pc := 38) G vr_r dX10_order_38 ?_
    refine z_aload3 (pc := 39) G vr_r dX10_order_39 ?_
    refine z_cV0 (pc := 40) G kb_8 hX.1 (hX.el24 c1) (ck_total hl hX (hX.el24 c1) ) rfl q_ml_X10_228 h_X7_total ⟨Nat.le_of_ble_eq_true rfl, Nat.le_of_ble_eq_true rfl⟩ (by simp only [List.map_cons, List.map_nil, vr_cat]; exact Nat.le_of_ble_eq_true rfl) (Nat.le_refl _) (Nat.le_refl _) dX10_order_40 ?_
    refine z_pJ (pc := 43) (f := 265) G kb_8 gb_X10_295 rfl hX.1 (hX.el24 c1) rfl (cr_265.trans (congrArg Value.long cj_ss)) rfl rfl dX10_order_43 ?_
    refine z_aload3 (pc := 46) G vr_r dX10_order_46 ?_
    refine x_iconst (pc := 47) (v := 4) G dX10_order_47 ic_4 ?_
    refine z_pI (pc := 48) (f := 259) G kb_8 gb_X10_209 rfl hX.1 (hX.el24 c1) rfl (cr_259.trans (congrArg Value.int ci_ss)) rfl rfl dX10_order_48 ?_
    exact x_vret (pc := 51) G B rfl dX10_order_51 (by rw [k_order, if_pos c1, if_pos c2, if_pos c3]; exact ⟨rfl, rfl⟩)
  exact z_ISE (pc := 21) G B B2 hout (is := 289) (text := "it is not APPROVED") (by decide +kernel) dX10_order_21 dX10_order_24 (Or.inr ⟨dX10_order_25, dX10_order_28, dX10_order_31⟩) ⟨Nat.le_of_ble_eq_true rfl, Nat.le_of_ble_eq_true rfl⟩ (Nat.le_of_ble_eq_true rfl) (Nat.le_of_ble_eq_true rfl) (by rw [k_order, if_pos c1, if_pos c2, if_neg c3]; exact ⟨rfl, rfl⟩)
theorem dX10_receive_0 : decode cX10_receive 0 = .ok (.aload_n 0, 1) := by decide +kernel
theorem dX10_receive_1 : decode cX10_receive 1 = .ok (.iload_n 1, 1) := by decide +kernel
theorem dX10_receive_2 : decode cX10_receive 2 = .ok (.invokevirtual 204, 3) := by decide +kernel
theorem dX10_receive_5 : decode cX10_receive 5 = .ok (.astore 4, 2) := by decide +kernel
theorem dX10_receive_7 : decode cX10_receive 7 = .ok (.aload 4, 2) := by decide +kernel
theorem dX10_receive_9 : decode cX10_receive 9 = .ok (.iload_n 2, 1) := by decide +kernel
theorem dX10_receive_10 : decode cX10_receive 10 = .ok (.invokestatic 280, 3) := by decide +kernel
theorem dX10_receive_13 : decode cX10_receive 13 = .ok (.astore 5, 2) := by decide +kernel
theorem dX10_receive_15 : decode cX10_receive 15 = .ok (.iload_n 3, 1) := by decide +kernel
theorem dX10_receive_16 : decode cX10_receive 16 = .ok (.bipush (-99), 2) := by decide +kernel
theorem dX10_receive_18 : decode cX10_receive 18 = .ok (.bipush 99, 2) := by decide +kernel
theorem dX10_receive_20 : decode cX10_receive 20 = .ok (.invokestatic 92, 3) := by decide +kernel
theorem dX10_receive_23 : decode cX10_receive 23 = .ok (.iload_n 3, 1) := by decide +kernel
theorem dX10_receive_24 : decode cX10_receive 24 = .ok (.ifCond .ne 14, 3) := by decide +kernel
theorem dX10_receive_27 : decode cX10_receive 27 = .ok (.new 115, 3) := by decide +kernel
theorem dX10_receive_30 : decode cX10_receive 30 = .ok (.dup, 1) := by decide +kernel
theorem dX10_receive_31 : decode cX10_receive 31 = .ok (.ldc_w 298, 3) := by decide +kernel
theorem dX10_receive_34 : decode cX10_receive 34 = .ok (.invokespecial 119, 3) := by decide +kernel
theorem dX10_receive_37 : decode cX10_receive 37 = .ok (.athrow, 1) := by decide +kernel
theorem dX10_receive_38 : decode cX10_receive 38 = .ok (.aload 4, 2) := by decide +kernel
theorem dX10_receive_40 : decode cX10_receive 40 = .ok (.getfield 209, 3) := by decide +kernel
theorem dX10_receive_43 : decode cX10_receive 43 = .ok (.iconst 4, 1) := by decide +kernel
theorem dX10_receive_44 : decode cX10_receive 44 = .ok (.if_icmp .ne 11, 3) := by decide +kernel
theorem dX10_receive_47 : decode cX10_receive 47 = .ok (.aload 5, 2) := by decide +kernel
theorem dX10_receive_49 : decode cX10_receive 49 = .ok (.getfield 300, 3) := by decide +kernel
theorem dX10_receive_52 : decode cX10_receive 52 = .ok (.ifCond .eq 14, 3) := by decide +kernel
theorem dX10_receive_55 : decode cX10_receive 55 = .ok (.new 100, 3) := by decide +kernel
theorem dX10_receive_58 : decode cX10_receive 58 = .ok (.dup, 1) := by decide +kernel
theorem dX10_receive_59 : decode cX10_receive 59 = .ok (.ldc_w 303, 3) := by decide +kernel
theorem dX10_receive_62 : decode cX10_receive 62 = .ok (.invokespecial 104, 3) := by decide +kernel
theorem dX10_receive_65 : decode cX10_receive 65 = .ok (.athrow, 1) := by decide +kernel
theorem dX10_receive_66 : decode cX10_receive 66 = .ok (.aload 5, 2) := by decide +kernel
theorem dX10_receive_68 : decode cX10_receive 68 = .ok (.getfield 305, 3) := by decide +kernel
theorem dX10_receive_71 : decode cX10_receive 71 = .ok (.iload_n 3, 1) := by decide +kernel
theorem dX10_receive_72 : decode cX10_receive 72 = .ok (.iadd, 1) := by decide +kernel
theorem dX10_receive_73 : decode cX10_receive 73 = .ok (.istore 6, 2) := by decide +kernel
theorem dX10_receive_75 : decode cX10_receive 75 = .ok (.iload 6, 2) := by decide +kernel
theorem dX10_receive_77 : decode cX10_receive 77 = .ok (.aload 5, 2) := by decide +kernel
theorem dX10_receive_79 : decode cX10_receive 79 = .ok (.getfield 286, 3) := by decide +kernel
theorem dX10_receive_82 : decode cX10_receive 82 = .ok (.if_icmp .gt 13, 3) := by decide +kernel
theorem dX10_receive_85 : decode cX10_receive 85 = .ok (.iload 6, 2) := by decide +kernel
theorem dX10_receive_87 : decode cX10_receive 87 = .ok (.aload 5, 2) := by decide +kernel
theorem dX10_receive_89 : decode cX10_receive 89 = .ok (.getfield 308, 3) := by decide +kernel
theorem dX10_receive_92 : decode cX10_receive 92 = .ok (.if_icmp .ge 14, 3) := by decide +kernel
theorem dX10_receive_95 : decode cX10_receive 95 = .ok (.new 100, 3) := by decide +kernel
theorem dX10_receive_98 : decode cX10_receive 98 = .ok (.dup, 1) := by decide +kernel
theorem dX10_receive_99 : decode cX10_receive 99 = .ok (.ldc_w 311, 3) := by decide +kernel
theorem dX10_receive_102 : decode cX10_receive 102 = .ok (.invokespecial 104, 3) := by decide +kernel
theorem dX10_receive_105 : decode cX10_receive 105 = .ok (.athrow, 1) := by decide +kernel
theorem dX10_receive_106 : decode cX10_receive 106 = .ok (.aload 5, 2) := by decide +kernel
theorem dX10_receive_108 : decode cX10_receive 108 = .ok (.iload 6, 2) := by decide +kernel
theorem dX10_receive_110 : decode cX10_receive 110 = .ok (.putfield 305, 3) := by decide +kernel
theorem dX10_receive_113 : decode cX10_receive 113 = .ok (.aload_n 0, 1) := by decide +kernel
theorem dX10_receive_114 : decode cX10_receive 114 = .ok (.aload 5, 2) := by decide +kernel
theorem dX10_receive_116 : decode cX10_receive 116 = .ok (.invokevirtual 313, 3) := by decide +kernel
theorem dX10_receive_119 : decode cX10_receive 119 = .ok (.ireturn, 1) := by decide +kernel
def k_receive (p1 : Int32) (p2 : Int32) (p3 : Int32) (X : CX) (S : CT) : (Int32 × CT) ⊕ String :=
    if P_num p1 (nS X 24 0) then
      if P_num p2 (nS X 29 p1) then
        if P_in p3 (-99) 99 then
          if p3 = 0 then
            .inr "java/lang/IllegalArgumentException"
          else
          if (ci S 259 p1) = 4 then
            if (xi X 128 (4 * p1 + p2)) = 0 then
              if (ci S 130 (4 * p1 + p2)) < ((ci S 131 (4 * p1 + p2)) + p3) then
                .inr "java/lang/IllegalStateException"
              else
              if (ci S 132 (4 * p1 + p2)) ≤ ((ci S 131 (4 * p1 + p2)) + p3) then
                .inl ((k_lookAgain (4 * p1 + p2) X (si S 131 (4 * p1 + p2) ((ci S 131 (4 * p1 + p2)) + p3))).1, (k_lookAgain (4 * p1 + p2) X (si S 131 (4 * p1 + p2) ((ci S 131 (4 * p1 + p2)) + p3))).2)
              else
              .inr "java/lang/IllegalStateException"
            else
            .inr "java/lang/IllegalStateException"
          else
          .inr "java/lang/IllegalStateException"
        else
        .inr "java/lang/IllegalArgumentException"
      else
      .inr "java/lang/IndexOutOfBoundsException"
    else
    .inr "java/lang/IndexOutOfBoundsException"
abbrev rm_X10_receive : Room := { frames := 12, cells := 0, slots := 0, locals := 229 }
abbrev rmt_X10_receive : Room := { frames := 12, cells := 1, slots := 6, locals := 229 }
set_option maxRecDepth 100000 in
set_option maxHeartbeats 4000000 in
theorem ck_receive {l : Launch} {k : KC} (hl : l.stackTraces = false) {X : CX} {S : CT} (hX : XOK X) {p1 : Int32} {p2 : Int32} {p3 : Int32} (hC : LC X S)  : MC l k yX10_receive (.code yX10_receive cX10_receive 7 (some .int)) rmt_X10_receive [(vr X 11 0), .int p1, .int p2, .int p3] (cW k X S) (pOi k X S (k_receive p1 p2 p3 X S)) := by
  refine MC.of 3 hl (by decide) (by simp only [lg_sl_vr, lg_sl_i, lg_sl_l, lg_sl_0]; exact Nat.le_of_ble_eq_true rfl) ?_
  intro p e s m args below meth c A Q G B B2 hout
  simp only [lp_args_vr, lp_args_i, lp_args_l, lp_args_0]
  show Wx p l e rmt_X10_receive s m args below meth c k A 7 Q 1 6 0 [some ((vr X 11 0)), some (.int p1), some (.int p2), some (.int p3), none, none, none] [] (cW k X S)
  refine z_aload0 (pc := 0) G vr_r dX10_receive_0 ?_
  refine x_iload1 (pc := 1) G dX10_receive_1 ?_
  rcases Decidable.em (¬ (P_num p1 (nS X 24 0))) with c1 | c1
  · exact z_cVt1 (pc := 2) G kb_11 hX.1 hX.l11 B B2 hout (no_requestAt hl hX  c1) rfl q_ml_X10_204 h_X10_requestAt ⟨Nat.le_of_ble_eq_true rfl, Nat.le_of_ble_eq_true rfl⟩ (Nat.le_of_ble_eq_true rfl) (Nat.le_refl _) (Nat.le_refl _) dX10_receive_2 (by rw [k_receive, if_neg c1]; exact ⟨rfl, rfl⟩)
  have c1 := Decidable.not_not.mp c1
  refine z_cV1 (pc := 2) G kb_11 hX.1 hX.l11 (ok_requestAt hl hX  c1) rfl q_ml_X10_204 h_X10_requestAt ⟨Nat.le_of_ble_eq_true rfl, Nat.le_of_ble_eq_true rfl⟩ (Nat.le_of_ble_eq_true rfl) (Nat.le_refl _) (Nat.le_refl _) dX10_receive_2 ?_
  refine z_astore4 (pc := 5) G vr_r dX10_receive_5 (Nat.le_of_ble_eq_true rfl) rfl ?_
  refine z_aload4 (pc := 7) G vr_r dX10_receive_7 ?_
  refine x_iload2 (pc := 9) G dX10_receive_9 ?_
  rcases Decidable.em (¬ (P_num p2 (nS X 29 p1))) with c2 | c2
  · exact x_cSt2 (pc := 10) G B B2 hout (no_lineAt hl hX (hX.el24 c1) c2) q_ml_X10_280 h_X10_lineAt ⟨Nat.le_of_ble_eq_true rfl, Nat.le_of_ble_eq_true rfl⟩ (Nat.le_of_ble_eq_true rfl) (Nat.le_refl _) (Nat.le_refl _) dX10_receive_10 (by rw [k_receive, if_pos c1, if_neg c2]; exact ⟨rfl, rfl⟩)
  have c2 := Decidable.not_not.mp c2
  refine x_cS2 (pc := 10) G (ok_lineAt hl hX (hX.el24 c1) c2) q_ml_X10_280 h_X10_lineAt ⟨Nat.le_of_ble_eq_true rfl, Nat.le_of_ble_eq_true rfl⟩ (Nat.le_of_ble_eq_true rfl) (Nat.le_refl _) (Nat.le_refl _) dX10_receive_10 ?_
  refine z_astore5 (pc := 13) G vr_r dX10_receive_13 (Nat.le_of_ble_eq_true rfl) lp_c2_vr ?_
  refine x_iload3 (pc := 15) G dX10_receive_15 ?_
  refine x_bipush (pc := 16) (v := (-99)) G dX10_receive_16 bp_m99 ?_
  refine x_bipush (pc := 18) (v := 99) G dX10_receive_18 bp_99 ?_
  rcases Decidable.em (¬ (P_in p3 (-99) 99)) with c3 | c3
  · exact x_cSt3 (pc := 20) G B B2 hout (no_requireRange hl c3) q_ml_X10_92 h_X10_requireRange ⟨Nat.le_of_ble_eq_true rfl, Nat.le_of_ble_eq_true rfl⟩ (Nat.le_of_ble_eq_true rfl) (Nat.le_refl _) (Nat.le_refl _) dX10_receive_20 (by rw [k_receive, if_pos c1, if_pos c2, if_neg c3]; exact ⟨rfl, rfl⟩)
  have c3 := Decidable.not_not.mp c3
  refine x_cSv3 (pc := 20) G (ok_requireRange hl c3) q_ml_X10_92 h_X10_requireRange ⟨Nat.le_of_ble_eq_true rfl, Nat.le_of_ble_eq_true rfl⟩ (Nat.le_of_ble_eq_true rfl) (Nat.le_refl _) (Nat.le_refl _) dX10_receive_20 ?_
  refine x_iload3 (pc := 23) G dX10_receive_23 ?_
  refine x_if_ne (pc := 24) (y := 0) (tgt := 38) G dX10_receive_24 rfl (fun c4 => ?_) (fun c4 => ?_)
  · refine z_aload4 (pc := 38) G vr_r dX10_receive_38 ?_
    refine z_g (pc := 40) (f := 259) (x := p1) (v := (.int (ci S 259 p1))) G kb_8 gb_X10_209 rfl hX.1 (hX.el24 c1) cr_259 dX10_receive_40 ?_
    refine x_iconst (pc := 43) (v := 4) G dX10_receive_43 ic_4 ?_
    refine x_icmp_ne (pc := 44) (tgt := 55) G dX10_receive_44 rfl (fun c5 => ?_) (fun c5 => ?_)
    · exact z_ISE (pc := 55) G B B2 hout (is := 303) (text := "it is not ORDERED, or the line is of services") (by decide +kernel) dX10_receive_55 dX10_receive_58 (Or.inr ⟨dX10_receive_59, dX10_receive_62, dX10_receive_65⟩) ⟨Nat.le_of_ble_eq_true rfl, Nat.le_of_ble_eq_true rfl⟩ (Nat.le_of_ble_eq_true rfl) (Nat.le_of_ble_eq_true rfl) (by rw [k_receive, if_pos c1, if_pos c2, if_pos c3, if_neg c4, if_neg c5]; exact ⟨rfl, rfl⟩)
    refine z_aload5 (pc := 47) G vr_r dX10_receive_47 ?_
    refine z_g (pc := 49) (f := 128) (x := (4 * p1 + p2)) (v := (.int (xi X 128 (4 * p1 + p2)))) G kb_4 gb_X10_300 rfl hX.1 (hX.el29 (hX.el24 c1) c2) cr_128 dX10_receive_49 ?_
    refine x_if_eq (pc := 52) (y := 0) (tgt := 66) G dX10_receive_52 rfl (fun c6 => ?_) (fun c6 => ?_)
    · refine z_aload5 (pc := 66) G vr_r dX10_receive_66 ?_
      refine z_g (pc := 68) (f := 131) (x := (4 * p1 + p2)) (v := (.int (ci S 131 (4 * p1 + p2)))) G kb_4 gb_X10_305 rfl hX.1 (hX.el29 (hX.el24 c1) c2) cr_131 dX10_receive_68 ?_
      refine x_iload3 (pc := 71) G dX10_receive_71 ?_
      refine x_iadd (pc := 72) G dX10_receive_72 ?_
      refine x_istore6 (pc := 73) G dX10_receive_73 (Nat.le_of_ble_eq_true rfl) lp_c2_vr ?_
      refine x_iload6 (pc := 75) G dX10_receive_75 ?_
      refine z_aload5 (pc := 77) G vr_r dX10_receive_77 ?_
      refine z_g (pc := 79) (f := 130) (x := (4 * p1 + p2)) (v := (.int (ci S 130 (4 * p1 + p2)))) G kb_4 gb_X10_286 rfl hX.1 (hX.el29 (hX.el24 c1) c2) cr_130 dX10_receive_79 ?_
      refine x_icmp_gt (pc := 82) (tgt := 95) G dX10_receive_82 rfl (fun c7 => ?_) (fun c7 => ?_)
      · exact z_ISE (pc := 95) G B B2 hout (is := 311) (text := "too many or too few pieces") (by decide +kernel) dX10_receive_95 dX10_receive_98 (Or.inr ⟨dX10_receive_99, dX10_receive_102, dX10_receive_105⟩) ⟨Nat.le_of_ble_eq_true rfl, Nat.le_of_ble_eq_true rfl⟩ (Nat.le_of_ble_eq_true rfl) (Nat.le_of_ble_eq_true rfl) (by rw [k_receive, if_pos c1, if_pos c2, if_pos c3, if_neg c4, if_pos c5, if_pos c6, if_pos c7]; exact ⟨rfl, rfl⟩)
      refine x_iload6 (pc := 85) G dX10_receive_85 ?_
      refine z_aload5 (pc := 87) G vr_r dX10_receive_87 ?_
      refine z_g (pc := 89) (f := 132) (x := (4 * p1 + p2)) (v := (.int (ci S 132 (4 * p1 + p2)))) G kb_4 gb_X10_308 rfl hX.1 (hX.el29 (hX.el24 c1) c2) cr_132 dX10_receive_89 ?_
      refine x_icmp_ge (pc := 92) (tgt := 106) G dX10_receive_92 rfl (fun c8 => ?_) (fun c8 => ?_)
      · refine z_aload5 (pc := 106) G vr_r dX10_receive_106 ?_
        refine x_iload6 (pc := 108) G dX10_receive_108 ?_
        refine z_pI (pc := 110) (f := 131) G kb_4 gb_X10_305 rfl hX.1 (hX.el29 (hX.el24 c1) c2) rfl (cr_131.trans (congrArg Value.int ci_ss)) rfl rfl dX10_receive_110 ?_
        refine z_aload0 (pc := 113) G vr_r dX10_receive_113 ?_
        refine z_aload5 (pc := 114) G vr_r dX10_receive_114 ?_
        refine z_cV1 (pc := 116) G kb_11 hX.1 hX.l11 (ck_lookAgain hl hX (hX.el29 (hX.el24 c1) c2) (hC.si rfl rfl)) rfl q_ml_X10_313 h_X10_lookAgain ⟨Nat.le_of_ble_eq_true rfl, Nat.le_of_ble_eq_true rfl⟩ (Nat.le_of_ble_eq_true rfl) (Nat.le_refl _) (Nat.le_refl _) dX10_receive_116 ?_
        exact x_iret (pc := 119) G B rfl dX10_receive_119 (by rw [k_receive, if_pos c1, if_pos c2, if_pos c3, if_neg c4, if_pos c5, if_pos c6, if_neg c7, if_pos c8]; exact ⟨rfl, rfl⟩)
      exact z_ISE (pc := 95) G B B2 hout (is := 311) (text := "too many or too few pieces") (by decide +kernel) dX10_receive_95 dX10_receive_98 (Or.inr ⟨dX10_receive_99, dX10_receive_102, dX10_receive_105⟩) ⟨Nat.le_of_ble_eq_true rfl, Nat.le_of_ble_eq_true rfl⟩ (Nat.le_of_ble_eq_true rfl) (Nat.le_of_ble_eq_true rfl) (by rw [k_receive, if_pos c1, if_pos c2, if_pos c3, if_neg c4, if_pos c5, if_pos c6, if_neg c7, if_neg c8]; exact ⟨rfl, rfl⟩)
    exact z_ISE (pc := 55) G B B2 hout (is := 303) (text := "it is not ORDERED, or the line is of services") (by decide +kernel) dX10_receive_55 dX10_receive_58 (Or.inr ⟨dX10_receive_59, dX10_receive_62, dX10_receive_65⟩) ⟨Nat.le_of_ble_eq_true rfl, Nat.le_of_ble_eq_true rfl⟩ (Nat.le_of_ble_eq_true rfl) (Nat.le_of_ble_eq_true rfl) (by rw [k_receive, if_pos c1, if_pos c2, if_pos c3, if_neg c4, if_pos c5, if_neg c6]; exact ⟨rfl, rfl⟩)
  exact z_IAE (pc := 27) G B B2 hout (is := 298) (text := "no pieces") (by decide +kernel) dX10_receive_27 dX10_receive_30 (Or.inr ⟨dX10_receive_31, dX10_receive_34, dX10_receive_37⟩) ⟨Nat.le_of_ble_eq_true rfl, Nat.le_of_ble_eq_true rfl⟩ (Nat.le_of_ble_eq_true rfl) (Nat.le_of_ble_eq_true rfl) (by rw [k_receive, if_pos c1, if_pos c2, if_pos c3, if_pos c4]; exact ⟨rfl, rfl⟩)
theorem dX10_change_0 : decode cX10_change 0 = .ok (.aload_n 0, 1) := by decide +kernel
theorem dX10_change_1 : decode cX10_change 1 = .ok (.iload_n 1, 1) := by decide +kernel
theorem dX10_change_2 : decode cX10_change 2 = .ok (.invokevirtual 204, 3) := by decide +kernel
theorem dX10_change_5 : decode cX10_change 5 = .ok (.astore 4, 2) := by decide +kernel
theorem dX10_change_7 : decode cX10_change 7 = .ok (.aload 4, 2) := by decide +kernel
theorem dX10_change_9 : decode cX10_change 9 = .ok (.iload_n 2, 1) := by decide +kernel
theorem dX10_change_10 : decode cX10_change 10 = .ok (.invokestatic 280, 3) := by decide +kernel
theorem dX10_change_13 : decode cX10_change 13 = .ok (.astore 5, 2) := by decide +kernel
theorem dX10_change_15 : decode cX10_change 15 = .ok (.iload_n 3, 1) := by decide +kernel
theorem dX10_change_16 : decode cX10_change 16 = .ok (.iconst 1, 1) := by decide +kernel
theorem dX10_change_17 : decode cX10_change 17 = .ok (.bipush 99, 2) := by decide +kernel
theorem dX10_change_19 : decode cX10_change 19 = .ok (.invokestatic 92, 3) := by decide +kernel
theorem dX10_change_22 : decode cX10_change 22 = .ok (.aload 4, 2) := by decide +kernel
theorem dX10_change_24 : decode cX10_change 24 = .ok (.getfield 209, 3) := by decide +kernel
theorem dX10_change_27 : decode cX10_change 27 = .ok (.iconst 4, 1) := by decide +kernel
theorem dX10_change_28 : decode cX10_change 28 = .ok (.if_icmp .eq 14, 3) := by decide +kernel
theorem dX10_change_31 : decode cX10_change 31 = .ok (.new 100, 3) := by decide +kernel
theorem dX10_change_34 : decode cX10_change 34 = .ok (.dup, 1) := by decide +kernel
theorem dX10_change_35 : decode cX10_change 35 = .ok (.ldc_w 317, 3) := by decide +kernel
theorem dX10_change_38 : decode cX10_change 38 = .ok (.invokespecial 104, 3) := by decide +kernel
theorem dX10_change_41 : decode cX10_change 41 = .ok (.athrow, 1) := by decide +kernel
theorem dX10_change_42 : decode cX10_change 42 = .ok (.iload_n 3, 1) := by decide +kernel
theorem dX10_change_43 : decode cX10_change 43 = .ok (.aload 5, 2) := by decide +kernel
theorem dX10_change_45 : decode cX10_change 45 = .ok (.getfield 305, 3) := by decide +kernel
theorem dX10_change_48 : decode cX10_change 48 = .ok (.if_icmp .lt 18, 3) := by decide +kernel
theorem dX10_change_51 : decode cX10_change 51 = .ok (.iload_n 3, 1) := by decide +kernel
theorem dX10_change_52 : decode cX10_change 52 = .ok (.aload 5, 2) := by decide +kernel
theorem dX10_change_54 : decode cX10_change 54 = .ok (.getfield 308, 3) := by decide +kernel
theorem dX10_change_57 : decode cX10_change 57 = .ok (.aload 5, 2) := by decide +kernel
theorem dX10_change_59 : decode cX10_change 59 = .ok (.getfield 319, 3) := by decide +kernel
theorem dX10_change_62 : decode cX10_change 62 = .ok (.iadd, 1) := by decide +kernel
theorem dX10_change_63 : decode cX10_change 63 = .ok (.if_icmp .ge 14, 3) := by decide +kernel
theorem dX10_change_66 : decode cX10_change 66 = .ok (.new 100, 3) := by decide +kernel
theorem dX10_change_69 : decode cX10_change 69 = .ok (.dup, 1) := by decide +kernel
theorem dX10_change_70 : decode cX10_change 70 = .ok (.ldc_w 322, 3) := by decide +kernel
theorem dX10_change_73 : decode cX10_change 73 = .ok (.invokespecial 104, 3) := by decide +kernel
theorem dX10_change_76 : decode cX10_change 76 = .ok (.athrow, 1) := by decide +kernel
theorem dX10_change_77 : decode cX10_change 77 = .ok (.iload_n 3, 1) := by decide +kernel
theorem dX10_change_78 : decode cX10_change 78 = .ok (.aload 5, 2) := by decide +kernel
theorem dX10_change_80 : decode cX10_change 80 = .ok (.getfield 286, 3) := by decide +kernel
theorem dX10_change_83 : decode cX10_change 83 = .ok (.isub, 1) := by decide +kernel
theorem dX10_change_84 : decode cX10_change 84 = .ok (.i2l, 1) := by decide +kernel
theorem dX10_change_85 : decode cX10_change 85 = .ok (.aload 5, 2) := by decide +kernel
theorem dX10_change_87 : decode cX10_change 87 = .ok (.getfield 324, 3) := by decide +kernel
theorem dX10_change_90 : decode cX10_change 90 = .ok (.i2l, 1) := by decide +kernel
theorem dX10_change_91 : decode cX10_change 91 = .ok (.lmul, 1) := by decide +kernel
theorem dX10_change_92 : decode cX10_change 92 = .ok (.lstore 6, 2) := by decide +kernel
theorem dX10_change_94 : decode cX10_change 94 = .ok (.aload 4, 2) := by decide +kernel
theorem dX10_change_96 : decode cX10_change 96 = .ok (.invokevirtual 228, 3) := by decide +kernel
theorem dX10_change_99 : decode cX10_change 99 = .ok (.lload 6, 2) := by decide +kernel
theorem dX10_change_101 : decode cX10_change 101 = .ok (.ladd, 1) := by decide +kernel
theorem dX10_change_102 : decode cX10_change 102 = .ok (.aload 4, 2) := by decide +kernel
theorem dX10_change_104 : decode cX10_change 104 = .ok (.getfield 295, 3) := by decide +kernel
theorem dX10_change_107 : decode cX10_change 107 = .ok (.ldc2_w 327, 3) := by decide +kernel
theorem dX10_change_110 : decode cX10_change 110 = .ok (.lmul, 1) := by decide +kernel
theorem dX10_change_111 : decode cX10_change 111 = .ok (.ldc2_w 329, 3) := by decide +kernel
theorem dX10_change_114 : decode cX10_change 114 = .ok (.ldiv, 1) := by decide +kernel
theorem dX10_change_115 : decode cX10_change 115 = .ok (.lcmp, 1) := by decide +kernel
theorem dX10_change_116 : decode cX10_change 116 = .ok (.ifCond .le 14, 3) := by decide +kernel
theorem dX10_change_119 : decode cX10_change 119 = .ok (.new 100, 3) := by decide +kernel
theorem dX10_change_122 : decode cX10_change 122 = .ok (.dup, 1) := by decide +kernel
theorem dX10_change_123 : decode cX10_change 123 = .ok (.ldc_w 331, 3) := by decide +kernel
theorem dX10_change_126 : decode cX10_change 126 = .ok (.invokespecial 104, 3) := by decide +kernel
theorem dX10_change_129 : decode cX10_change 129 = .ok (.athrow, 1) := by decide +kernel
theorem dX10_change_130 : decode cX10_change 130 = .ok (.lload 6, 2) := by decide +kernel
theorem dX10_change_132 : decode cX10_change 132 = .ok (.lconst 0, 1) := by decide +kernel
theorem dX10_change_133 : decode cX10_change 133 = .ok (.lcmp, 1) := by decide +kernel
theorem dX10_change_134 : decode cX10_change 134 = .ok (.ifCond .le 28, 3) := by decide +kernel
theorem dX10_change_137 : decode cX10_change 137 = .ok (.aload 4, 2) := by decide +kernel
theorem dX10_change_139 : decode cX10_change 139 = .ok (.getfield 231, 3) := by decide +kernel
theorem dX10_change_142 : decode cX10_change 142 = .ok (.aload 4, 2) := by decide +kernel
theorem dX10_change_144 : decode cX10_change 144 = .ok (.getfield 239, 3) := by decide +kernel
theorem dX10_change_147 : decode cX10_change 147 = .ok (.lload 6, 2) := by decide +kernel
theorem dX10_change_149 : decode cX10_change 149 = .ok (.invokestatic 235, 3) := by decide +kernel
theorem dX10_change_152 : decode cX10_change 152 = .ok (.aload 4, 2) := by decide +kernel
theorem dX10_change_154 : decode cX10_change 154 = .ok (.lload 6, 2) := by decide +kernel
theorem dX10_change_156 : decode cX10_change 156 = .ok (.invokestatic 242, 3) := by decide +kernel
theorem dX10_change_159 : decode cX10_change 159 = .ok (.goto 12, 3) := by decide +kernel
theorem dX10_change_162 : decode cX10_change 162 = .ok (.aload 4, 2) := by decide +kernel
theorem dX10_change_164 : decode cX10_change 164 = .ok (.lload 6, 2) := by decide +kernel
theorem dX10_change_166 : decode cX10_change 166 = .ok (.lneg, 1) := by decide +kernel
theorem dX10_change_167 : decode cX10_change 167 = .ok (.invokestatic 276, 3) := by decide +kernel
theorem dX10_change_170 : decode cX10_change 170 = .ok (.pop2, 1) := by decide +kernel
theorem dX10_change_171 : decode cX10_change 171 = .ok (.aload 5, 2) := by decide +kernel
theorem dX10_change_173 : decode cX10_change 173 = .ok (.iload_n 3, 1) := by decide +kernel
theorem dX10_change_174 : decode cX10_change 174 = .ok (.putfield 286, 3) := by decide +kernel
theorem dX10_change_177 : decode cX10_change 177 = .ok (.aload_n 0, 1) := by decide +kernel
theorem dX10_change_178 : decode cX10_change 178 = .ok (.aload 5, 2) := by decide +kernel
theorem dX10_change_180 : decode cX10_change 180 = .ok (.invokevirtual 313, 3) := by decide +kernel
theorem dX10_change_183 : decode cX10_change 183 = .ok (.ireturn, 1) := by decide +kernel
def k_change (p1 : Int32) (p2 : Int32) (p3 : Int32) (X : CX) (S : CT) : (Int32 × CT) ⊕ String :=
    if P_num p1 (nS X 24 0) then
      if P_num p2 (nS X 29 p1) then
        if P_in p3 1 99 then
          if (ci S 259 p1) = 4 then
            if p3 < (ci S 131 (4 * p1 + p2)) then
              .inr "java/lang/IllegalStateException"
            else
            if ((ci S 132 (4 * p1 + p2)) + (ci S 133 (4 * p1 + p2))) ≤ p3 then
              if (lg_cmp ((k_total p1 X S) + (((p3 - (ci S 130 (4 * p1 + p2))).toInt64) * ((xi X 129 (4 * p1 + p2)).toInt64))) (((cj S 265 p1) * 105) / 100)) ≤ 0 then
                if (lg_cmp (((p3 - (ci S 130 (4 * p1 + p2))).toInt64) * ((xi X 129 (4 * p1 + p2)).toInt64)) 0) ≤ 0 then
                  .inl ((k_lookAgain (4 * p1 + p2) X (si (k_release p1 (-(((p3 - (ci S 130 (4 * p1 + p2))).toInt64) * ((xi X 129 (4 * p1 + p2)).toInt64))) X S).2 130 (4 * p1 + p2) p3)).1, (k_lookAgain (4 * p1 + p2) X (si (k_release p1 (-(((p3 - (ci S 130 (4 * p1 + p2))).toInt64) * ((xi X 129 (4 * p1 + p2)).toInt64))) X S).2 130 (4 * p1 + p2) p3)).2)
                else
                if ¬ ci S 33 (xi X 257 p1) = 0 ∨ (((p3 - (ci S 130 (4 * p1 + p2))).toInt64) * ((xi X 129 (4 * p1 + p2)).toInt64)) ≤ k_free (3 * (xi X 257 p1) + (ci S 260 p1)) X S then
                  .inl ((k_lookAgain (4 * p1 + p2) X (si (k_commit p1 (((p3 - (ci S 130 (4 * p1 + p2))).toInt64) * ((xi X 129 (4 * p1 + p2)).toInt64)) X S) 130 (4 * p1 + p2) p3)).1, (k_lookAgain (4 * p1 + p2) X (si (k_commit p1 (((p3 - (ci S 130 (4 * p1 + p2))).toInt64) * ((xi X 129 (4 * p1 + p2)).toInt64)) X S) 130 (4 * p1 + p2) p3)).2)
                else
                .inr "java/lang/IllegalStateException"
              else
              .inr "java/lang/IllegalStateException"
            else
            .inr "java/lang/IllegalStateException"
          else
          .inr "java/lang/IllegalStateException"
        else
        .inr "java/lang/IllegalArgumentException"
      else
      .inr "java/lang/IndexOutOfBoundsException"
    else
    .inr "java/lang/IndexOutOfBoundsException"
abbrev rm_X10_change : Room := { frames := 12, cells := 0, slots := 0, locals := 229 }
abbrev rmt_X10_change : Room := { frames := 12, cells := 1, slots := 6, locals := 229 }
set_option maxRecDepth 100000 in
set_option maxHeartbeats 4000000 in
theorem ck_change {l : Launch} {k : KC} (hl : l.stackTraces = false) {X : CX} {S : CT} (hX : XOK X) {p1 : Int32} {p2 : Int32} {p3 : Int32} (hC : LC X S) (hR : YR X S)  : MC l k yX10_change (.code yX10_change cX10_change 8 (some .int)) rmt_X10_change [(vr X 11 0), .int p1, .int p2, .int p3] (cW k X S) (pOi k X S (k_change p1 p2 p3 X S)) := by
  refine MC.of 4 hl (by decide) (by simp only [lg_sl_vr, lg_sl_i, lg_sl_l, lg_sl_0]; exact Nat.le_of_ble_eq_true rfl) ?_
  intro p e s m args below meth c A Q G B B2 hout
  simp only [lp_args_vr, lp_args_i, lp_args_l, lp_args_0]
  show Wx p l e rmt_X10_change s m args below meth c k A 8 Q 1 6 0 [some ((vr X 11 0)), some (.int p1), some (.int p2), some (.int p3), none, none, none, none] [] (cW k X S)
  refine z_aload0 (pc := 0) G vr_r dX10_change_0 ?_
  refine x_iload1 (pc := 1) G dX10_change_1 ?_
  rcases Decidable.em (¬ (P_num p1 (nS X 24 0))) with c1 | c1
  · exact z_cVt1 (pc := 2) G kb_11 hX.1 hX.l11 B B2 hout (no_requestAt hl hX  c1) rfl q_ml_X10_204 h_X10_requestAt ⟨Nat.le_of_ble_eq_true rfl, Nat.le_of_ble_eq_true rfl⟩ (Nat.le_of_ble_eq_true rfl) (Nat.le_refl _) (Nat.le_refl _) dX10_change_2 (by rw [k_change, if_neg c1]; exact ⟨rfl, rfl⟩)
  have c1 := Decidable.not_not.mp c1
  refine z_cV1 (pc := 2) G kb_11 hX.1 hX.l11 (ok_requestAt hl hX  c1) rfl q_ml_X10_204 h_X10_requestAt ⟨Nat.le_of_ble_eq_true rfl, Nat.le_of_ble_eq_true rfl⟩ (Nat.le_of_ble_eq_true rfl) (Nat.le_refl _) (Nat.le_refl _) dX10_change_2 ?_
  refine z_astore4 (pc := 5) G vr_r dX10_change_5 (Nat.le_of_ble_eq_true rfl) rfl ?_
  refine z_aload4 (pc := 7) G vr_r dX10_change_7 ?_
  refine x_iload2 (pc := 9) G dX10_change_9 ?_
  rcases Decidable.em (¬ (P_num p2 (nS X 29 p1))) with c2 | c2
  · exact x_cSt2 (pc := 10) G B B2 hout (no_lineAt hl hX (hX.el24 c1) c2) q_ml_X10_280 h_X10_lineAt ⟨Nat.le_of_ble_eq_true rfl, Nat.le_of_ble_eq_true rfl⟩ (Nat.le_of_ble_eq_true rfl) (Nat.le_refl _) (Nat.le_refl _) dX10_change_10 (by rw [k_change, if_pos c1, if_neg c2]; exact ⟨rfl, rfl⟩)
  have c2 := Decidable.not_not.mp c2
  refine x_cS2 (pc := 10) G (ok_lineAt hl hX (hX.el24 c1) c2) q_ml_X10_280 h_X10_lineAt ⟨Nat.le_of_ble_eq_true rfl, Nat.le_of_ble_eq_true rfl⟩ (Nat.le_of_ble_eq_true rfl) (Nat.le_refl _) (Nat.le_refl _) dX10_change_10 ?_
  refine z_astore5 (pc := 13) G vr_r dX10_change_13 (Nat.le_of_ble_eq_true rfl) lp_c2_vr ?_
  refine x_iload3 (pc := 15) G dX10_change_15 ?_
  refine x_iconst (pc := 16) (v := 1) G dX10_change_16 ic_1 ?_
  refine x_bipush (pc := 17) (v := 99) G dX10_change_17 bp_99 ?_
  rcases Decidable.em (¬ (P_in p3 1 99)) with c3 | c3
  · exact x_cSt3 (pc := 19) G B B2 hout (no_requireRange hl c3) q_ml_X10_92 h_X10_requireRange ⟨Nat.le_of_ble_eq_true rfl, Nat.le_of_ble_eq_true rfl⟩ (Nat.le_of_ble_eq_true rfl) (Nat.le_refl _) (Nat.le_refl _) dX10_change_19 (by rw [k_change, if_pos c1, if_pos c2, if_neg c3]; exact ⟨rfl, rfl⟩)
  have c3 := Decidable.not_not.mp c3
  refine x_cSv3 (pc := 19) G (ok_requireRange hl c3) q_ml_X10_92 h_X10_requireRange ⟨Nat.le_of_ble_eq_true rfl, Nat.le_of_ble_eq_true rfl⟩ (Nat.le_of_ble_eq_true rfl) (Nat.le_refl _) (Nat.le_refl _) dX10_change_19 ?_
  refine z_aload4 (pc := 22) G vr_r dX10_change_22 ?_
  refine z_g (pc := 24) (f := 259) (x := p1) (v := (.int (ci S 259 p1))) G kb_8 gb_X10_209 rfl hX.1 (hX.el24 c1) cr_259 dX10_change_24 ?_
  refine x_iconst (pc := 27) (v := 4) G dX10_change_27 ic_4 ?_
  refine x_icmp_eq (pc := 28) (tgt := 42) G dX10_change_28 rfl (fun c4 => ?_) (fun c4 => ?_)
  · refine x_iload3 (pc := 42) G dX10_change_42 ?_
    refine z_aload5 (pc := 43) G vr_r dX10_change_43 ?_
    refine z_g (pc := 45) (f := 131) (x := (4 * p1 + p2)) (v := (.int (ci S 131 (4 * p1 + p2)))) G kb_4 gb_X10_305 rfl hX.1 (hX.el29 (hX.el24 c1) c2) cr_131 dX10_change_45 ?_
    refine x_icmp_lt (pc := 48) (tgt := 66) G dX10_change_48 rfl (fun c5 => ?_) (fun c5 => ?_)
    · exact z_ISE (pc := 66) G B B2 hout (is := 322) (text := "more was received, or is on invoices") (by decide +kernel) dX10_change_66 dX10_change_69 (Or.inr ⟨dX10_change_70, dX10_change_73, dX10_change_76⟩) ⟨Nat.le_of_ble_eq_true rfl, Nat.le_of_ble_eq_true rfl⟩ (Nat.le_of_ble_eq_true rfl) (Nat.le_of_ble_eq_true rfl) (by rw [k_change, if_pos c1, if_pos c2, if_pos c3, if_pos c4, if_pos c5]; exact ⟨rfl, rfl⟩)
    refine x_iload3 (pc := 51) G dX10_change_51 ?_
    refine z_aload5 (pc := 52) G vr_r dX10_change_52 ?_
    refine z_g (pc := 54) (f := 132) (x := (4 * p1 + p2)) (v := (.int (ci S 132 (4 * p1 + p2)))) G kb_4 gb_X10_308 rfl hX.1 (hX.el29 (hX.el24 c1) c2) cr_132 dX10_change_54 ?_
    refine z_aload5 (pc := 57) G vr_r dX10_change_57 ?_
    refine z_g (pc := 59) (f := 133) (x := (4 * p1 + p2)) (v := (.int (ci S 133 (4 * p1 + p2)))) G kb_4 gb_X10_319 rfl hX.1 (hX.el29 (hX.el24 c1) c2) cr_133 dX10_change_59 ?_
    refine x_iadd (pc := 62) G dX10_change_62 ?_
    refine x_icmp_ge (pc := 63) (tgt := 77) G dX10_change_63 rfl (fun c6 => ?_) (fun c6 => ?_)
    · refine x_iload3 (pc := 77) G dX10_change_77 ?_
      refine z_aload5 (pc := 78) G vr_r dX10_change_78 ?_
      refine z_g (pc := 80) (f := 130) (x := (4 * p1 + p2)) (v := (.int (ci S 130 (4 * p1 + p2)))) G kb_4 gb_X10_286 rfl hX.1 (hX.el29 (hX.el24 c1) c2) cr_130 dX10_change_80 ?_
      refine x_isub (pc := 83) G dX10_change_83 ?_
      refine x_i2l (pc := 84) G dX10_change_84 ?_
      refine z_aload5 (pc := 85) G vr_r dX10_change_85 ?_
      refine z_g (pc := 87) (f := 129) (x := (4 * p1 + p2)) (v := (.int (xi X 129 (4 * p1 + p2)))) G kb_4 gb_X10_324 rfl hX.1 (hX.el29 (hX.el24 c1) c2) cr_129 dX10_change_87 ?_
      refine x_i2l (pc := 90) G dX10_change_90 ?_
      refine x_lmul (pc := 91) G dX10_change_91 ?_
      refine x_lstore6 (pc := 92) G dX10_change_92 (Nat.le_of_ble_eq_true rfl) lp_c2_vr ?_
      refine z_aload4 (pc := 94) G vr_r dX10_change_94 ?_
      refine z_cV0 (pc := 96) G kb_8 hX.1 (hX.el24 c1) (ck_total hl hX (hX.el24 c1) ) rfl q_ml_X10_228 h_X7_total ⟨Nat.le_of_ble_eq_true rfl, Nat.le_of_ble_eq_true rfl⟩ (Nat.le_of_ble_eq_true rfl) (Nat.le_refl _) (Nat.le_refl _) dX10_change_96 ?_
      refine x_lload6 (pc := 99) G dX10_change_99 ?_
      refine x_ladd (pc := 101) G dX10_change_101 ?_
      refine z_aload4 (pc := 102) G vr_r dX10_change_102 ?_
      refine z_g (pc := 104) (f := 265) (x := p1) (v := (.long (cj S 265 p1))) G kb_8 gb_X10_295 rfl hX.1 (hX.el24 c1) cr_265 dX10_change_104 ?_
      refine x_ldc2 (pc := 107) G q_cL_X10_327 dX10_change_107 ?_
      refine x_lmul (pc := 110) G dX10_change_110 ?_
      refine x_ldc2 (pc := 111) G q_cL_X10_329 dX10_change_111 ?_
      refine x_ldiv (pc := 114) G dX10_change_114 (by decide) ?_
      refine x_lcmp (pc := 115) G dX10_change_115 ?_
      refine x_if_le (pc := 116) (y := 0) (tgt := 130) G dX10_change_116 rfl (fun c7 => ?_) (fun c7 => ?_)
      · refine x_lload6 (pc := 130) G dX10_change_130 ?_
        refine x_lconst (pc := 132) (v := 0) G dX10_change_132 lc_0 ?_
        refine x_lcmp (pc := 133) G dX10_change_133 ?_
        refine x_if_le (pc := 134) (y := 0) (tgt := 162) G dX10_change_134 rfl (fun c8 => ?_) (fun c8 => ?_)
        · refine z_aload4 (pc := 162) G vr_r dX10_change_162 ?_
          refine x_lload6 (pc := 164) G dX10_change_164 ?_
          refine x_lneg (pc := 166) G dX10_change_166 ?_
          refine x_cS2 (pc := 167) G (ck_release hl hX (hX.el24 c1) (rel_of rfl rfl (hC.2 _ (hX.el24 c1)))) q_ml_X10_276 h_X10_release ⟨Nat.le_of_ble_eq_true rfl, Nat.le_of_ble_eq_true rfl⟩ (Nat.le_of_ble_eq_true rfl) (Nat.le_refl _) (Nat.le_refl _) dX10_change_167 ?_
          refine x_pop2 (pc := 170) G dX10_change_170 rfl ?_
          refine z_aload5 (pc := 171) G vr_r dX10_change_171 ?_
          refine x_iload3 (pc := 173) G dX10_change_173 ?_
          refine z_pI (pc := 174) (f := 130) G kb_4 gb_X10_286 rfl hX.1 (hX.el29 (hX.el24 c1) c2) rfl (cr_130.trans (congrArg Value.int ci_ss)) rfl rfl dX10_change_174 ?_
          refine z_aload0 (pc := 177) G vr_r dX10_change_177 ?_
          refine z_aload5 (pc := 178) G vr_r dX10_change_178 ?_
          refine z_cV1 (pc := 180) G kb_11 hX.1 hX.l11 (ck_lookAgain hl hX (hX.el29 (hX.el24 c1) c2) ((hC.release).si rfl rfl)) rfl q_ml_X10_313 h_X10_lookAgain ⟨Nat.le_of_ble_eq_true rfl, Nat.le_of_ble_eq_true rfl⟩ (Nat.le_of_ble_eq_true rfl) (Nat.le_refl _) (Nat.le_refl _) dX10_change_180 ?_
          exact x_iret (pc := 183) G B rfl dX10_change_183 (by rw [k_change, if_pos c1, if_pos c2, if_pos c3, if_pos c4, if_neg c5, if_pos c6, if_pos c7, if_pos c8]; exact ⟨rfl, rfl⟩)
        refine z_aload4 (pc := 137) G vr_r dX10_change_137 ?_
        refine z_g (pc := 139) (f := 257) (x := p1) (v := (vr X 1 (xi X 257 p1))) G kb_8 gb_X10_231 rfl hX.1 (hX.el24 c1) cr_257 dX10_change_139 ?_
        refine z_aload4 (pc := 142) G vr_r dX10_change_142 ?_
        refine z_g (pc := 144) (f := 260) (x := p1) (v := (.int (ci S 260 p1))) G kb_8 gb_X10_239 rfl hX.1 (hX.el24 c1) cr_260 dX10_change_144 ?_
        refine x_lload6 (pc := 147) G dX10_change_147 ?_
        rcases Decidable.em (¬ (¬ ci S 33 (xi X 257 p1) = 0 ∨ (((p3 - (ci S 130 (4 * p1 + p2))).toInt64) * ((xi X 129 (4 * p1 + p2)).toInt64)) ≤ k_free (3 * (xi X 257 p1) + (ci S 260 p1)) X S)) with c9 | c9
        · exact x_cSt3 (pc := 149) G B B2 hout (no_requireFree hl hX (hX.cent (hX.el24 c1)) (hR _ (hX.el24 c1) c4) c9) q_ml_X10_235 h_X10_requireFree ⟨Nat.le_of_ble_eq_true rfl, Nat.le_of_ble_eq_true rfl⟩ (Nat.le_of_ble_eq_true rfl) (Nat.le_refl _) (Nat.le_refl _) dX10_change_149 (by rw [k_change, if_pos c1, if_pos c2, if_pos c3, if_pos c4, if_neg c5, if_pos c6, if_pos c7, if_neg c8, if_neg c9]; exact ⟨rfl, rfl⟩)
        have c9 := Decidable.not_not.mp c9
        refine x_cSv3 (pc := 149) G (ok_requireFree hl hX (hX.cent (hX.el24 c1)) (hR _ (hX.el24 c1) c4) c9) q_ml_X10_235 h_X10_requireFree ⟨Nat.le_of_ble_eq_true rfl, Nat.le_of_ble_eq_true rfl⟩ (Nat.le_of_ble_eq_true rfl) (Nat.le_refl _) (Nat.le_refl _) dX10_change_149 ?_
        refine z_aload4 (pc := 152) G vr_r dX10_change_152 ?_
        refine x_lload6 (pc := 154) G dX10_change_154 ?_
        refine x_cSv2 (pc := 156) G (ck_commit hl hX (hX.el24 c1) (hR _ (hX.el24 c1) c4)) q_ml_X10_242 h_X10_commit ⟨Nat.le_of_ble_eq_true rfl, Nat.le_of_ble_eq_true rfl⟩ (Nat.le_of_ble_eq_true rfl) (Nat.le_refl _) (Nat.le_refl _) dX10_change_156 ?_
        refine x_goto (pc := 159) (tgt := 171) G dX10_change_159 rfl ?_
        refine z_aload5 (pc := 171) G vr_r dX10_change_171 ?_
        refine x_iload3 (pc := 173) G dX10_change_173 ?_
        refine z_pI (pc := 174) (f := 130) G kb_4 gb_X10_286 rfl hX.1 (hX.el29 (hX.el24 c1) c2) rfl (cr_130.trans (congrArg Value.int ci_ss)) rfl rfl dX10_change_174 ?_
        refine z_aload0 (pc := 177) G vr_r dX10_change_177 ?_
        refine z_aload5 (pc := 178) G vr_r dX10_change_178 ?_
        refine z_cV1 (pc := 180) G kb_11 hX.1 hX.l11 (ck_lookAgain hl hX (hX.el29 (hX.el24 c1) c2) ((hC.commit (hR _ (hX.el24 c1) c4)).si rfl rfl)) rfl q_ml_X10_313 h_X10_lookAgain ⟨Nat.le_of_ble_eq_true rfl, Nat.le_of_ble_eq_true rfl⟩ (Nat.le_of_ble_eq_true rfl) (Nat.le_refl _) (Nat.le_refl _) dX10_change_180 ?_
        exact x_iret (pc := 183) G B rfl dX10_change_183 (by rw [k_change, if_pos c1, if_pos c2, if_pos c3, if_pos c4, if_neg c5, if_pos c6, if_pos c7, if_neg c8, if_pos c9]; exact ⟨rfl, rfl⟩)
      exact z_ISE (pc := 119) G B B2 hout (is := 331) (text := "more than 105 percent of what was ordered") (by decide +kernel) dX10_change_119 dX10_change_122 (Or.inr ⟨dX10_change_123, dX10_change_126, dX10_change_129⟩) ⟨Nat.le_of_ble_eq_true rfl, Nat.le_of_ble_eq_true rfl⟩ (Nat.le_of_ble_eq_true rfl) (Nat.le_of_ble_eq_true rfl) (by rw [k_change, if_pos c1, if_pos c2, if_pos c3, if_pos c4, if_neg c5, if_pos c6, if_neg c7]; exact ⟨rfl, rfl⟩)
    exact z_ISE (pc := 66) G B B2 hout (is := 322) (text := "more was received, or is on invoices") (by decide +kernel) dX10_change_66 dX10_change_69 (Or.inr ⟨dX10_change_70, dX10_change_73, dX10_change_76⟩) ⟨Nat.le_of_ble_eq_true rfl, Nat.le_of_ble_eq_true rfl⟩ (Nat.le_of_ble_eq_true rfl) (Nat.le_of_ble_eq_true rfl) (by rw [k_change, if_pos c1, if_pos c2, if_pos c3, if_pos c4, if_neg c5, if_neg c6]; exact ⟨rfl, rfl⟩)
  exact z_ISE (pc := 31) G B B2 hout (is := 317) (text := "it is not ORDERED") (by decide +kernel) dX10_change_31 dX10_change_34 (Or.inr ⟨dX10_change_35, dX10_change_38, dX10_change_41⟩) ⟨Nat.le_of_ble_eq_true rfl, Nat.le_of_ble_eq_true rfl⟩ (Nat.le_of_ble_eq_true rfl) (Nat.le_of_ble_eq_true rfl) (by rw [k_change, if_pos c1, if_pos c2, if_pos c3, if_neg c4]; exact ⟨rfl, rfl⟩)
theorem dX10_end_0 : decode cX10_end 0 = .ok (.aload_n 0, 1) := by decide +kernel
theorem dX10_end_1 : decode cX10_end 1 = .ok (.iload_n 1, 1) := by decide +kernel
theorem dX10_end_2 : decode cX10_end 2 = .ok (.invokevirtual 204, 3) := by decide +kernel
theorem dX10_end_5 : decode cX10_end 5 = .ok (.astore_n 2, 1) := by decide +kernel
theorem dX10_end_6 : decode cX10_end 6 = .ok (.aload_n 2, 1) := by decide +kernel
theorem dX10_end_7 : decode cX10_end 7 = .ok (.getfield 209, 3) := by decide +kernel
theorem dX10_end_10 : decode cX10_end 10 = .ok (.iconst 4, 1) := by decide +kernel
theorem dX10_end_11 : decode cX10_end 11 = .ok (.if_icmp .ne 10, 3) := by decide +kernel
theorem dX10_end_14 : decode cX10_end 14 = .ok (.aload_n 2, 1) := by decide +kernel
theorem dX10_end_15 : decode cX10_end 15 = .ok (.invokevirtual 333, 3) := by decide +kernel
theorem dX10_end_18 : decode cX10_end 18 = .ok (.ifCond .eq 14, 3) := by decide +kernel
theorem dX10_end_21 : decode cX10_end 21 = .ok (.new 100, 3) := by decide +kernel
theorem dX10_end_24 : decode cX10_end 24 = .ok (.dup, 1) := by decide +kernel
theorem dX10_end_25 : decode cX10_end 25 = .ok (.ldc_w 336, 3) := by decide +kernel
theorem dX10_end_28 : decode cX10_end 28 = .ok (.invokespecial 104, 3) := by decide +kernel
theorem dX10_end_31 : decode cX10_end 31 = .ok (.athrow, 1) := by decide +kernel
theorem dX10_end_32 : decode cX10_end 32 = .ok (.aload_n 2, 1) := by decide +kernel
theorem dX10_end_33 : decode cX10_end 33 = .ok (.iconst 5, 1) := by decide +kernel
theorem dX10_end_34 : decode cX10_end 34 = .ok (.putfield 209, 3) := by decide +kernel
theorem dX10_end_37 : decode cX10_end 37 = .ok (.aload_n 2, 1) := by decide +kernel
theorem dX10_end_38 : decode cX10_end 38 = .ok (.aload_n 2, 1) := by decide +kernel
theorem dX10_end_39 : decode cX10_end 39 = .ok (.getfield 273, 3) := by decide +kernel
theorem dX10_end_42 : decode cX10_end 42 = .ok (.invokestatic 276, 3) := by decide +kernel
theorem dX10_end_45 : decode cX10_end 45 = .ok (.lreturn, 1) := by decide +kernel
def k_end (p1 : Int32) (X : CX) (S : CT) : (Int64 × CT) ⊕ String :=
    if P_num p1 (nS X 24 0) then
      if (ci S 259 p1) = 4 then
        if K_hasHeldInvoices p1 X S then
          .inr "java/lang/IllegalStateException"
        else
        .inl ((k_release p1 (cj S 261 p1) X (si S 259 p1 5)).1, (k_release p1 (cj S 261 p1) X (si S 259 p1 5)).2)
      else
      .inr "java/lang/IllegalStateException"
    else
    .inr "java/lang/IndexOutOfBoundsException"
abbrev rm_X10_end : Room := { frames := 10, cells := 0, slots := 0, locals := 178 }
abbrev rmt_X10_end : Room := { frames := 10, cells := 1, slots := 6, locals := 178 }
set_option maxRecDepth 100000 in
set_option maxHeartbeats 4000000 in
theorem ck_end {l : Launch} {k : KC} (hl : l.stackTraces = false) {X : CX} {S : CT} (hX : XOK X) {p1 : Int32} (hC : LC X S)  : MC l k yX10_end (.code yX10_end cX10_end 3 (some .long)) rmt_X10_end [(vr X 11 0), .int p1] (cW k X S) (pOl k X S (k_end p1 X S)) := by
  refine MC.of 1 hl (by decide) (by simp only [lg_sl_vr, lg_sl_i, lg_sl_l, lg_sl_0]; exact Nat.le_of_ble_eq_true rfl) ?_
  intro p e s m args below meth c A Q G B B2 hout
  simp only [lp_args_vr, lp_args_i, lp_args_l, lp_args_0]
  show Wx p l e rmt_X10_end s m args below meth c k A 3 Q 1 6 0 [some ((vr X 11 0)), some (.int p1), none] [] (cW k X S)
  refine z_aload0 (pc := 0) G vr_r dX10_end_0 ?_
  refine x_iload1 (pc := 1) G dX10_end_1 ?_
  rcases Decidable.em (¬ (P_num p1 (nS X 24 0))) with c1 | c1
  · exact z_cVt1 (pc := 2) G kb_11 hX.1 hX.l11 B B2 hout (no_requestAt hl hX  c1) rfl q_ml_X10_204 h_X10_requestAt ⟨Nat.le_of_ble_eq_true rfl, Nat.le_of_ble_eq_true rfl⟩ (Nat.le_of_ble_eq_true rfl) (Nat.le_refl _) (Nat.le_refl _) dX10_end_2 (by rw [k_end, if_neg c1]; exact ⟨rfl, rfl⟩)
  have c1 := Decidable.not_not.mp c1
  refine z_cV1 (pc := 2) G kb_11 hX.1 hX.l11 (ok_requestAt hl hX  c1) rfl q_ml_X10_204 h_X10_requestAt ⟨Nat.le_of_ble_eq_true rfl, Nat.le_of_ble_eq_true rfl⟩ (Nat.le_of_ble_eq_true rfl) (Nat.le_refl _) (Nat.le_refl _) dX10_end_2 ?_
  refine z_astore2 (pc := 5) G vr_r dX10_end_5 (Nat.le_of_ble_eq_true rfl) rfl ?_
  refine z_aload2 (pc := 6) G vr_r dX10_end_6 ?_
  refine z_g (pc := 7) (f := 259) (x := p1) (v := (.int (ci S 259 p1))) G kb_8 gb_X10_209 rfl hX.1 (hX.el24 c1) cr_259 dX10_end_7 ?_
  refine x_iconst (pc := 10) (v := 4) G dX10_end_10 ic_4 ?_
  refine x_icmp_ne (pc := 11) (tgt := 21) G dX10_end_11 rfl (fun c2 => ?_) (fun c2 => ?_)
  · exact z_ISE (pc := 21) G B B2 hout (is := 336) (text := "it is not ORDERED, or an invoice is held") (by decide +kernel) dX10_end_21 dX10_end_24 (Or.inr ⟨dX10_end_25, dX10_end_28, dX10_end_31⟩) ⟨Nat.le_of_ble_eq_true rfl, Nat.le_of_ble_eq_true rfl⟩ (Nat.le_of_ble_eq_true rfl) (Nat.le_of_ble_eq_true rfl) (by rw [k_end, if_pos c1, if_neg c2]; exact ⟨rfl, rfl⟩)
  refine z_aload2 (pc := 14) G vr_r dX10_end_14 ?_
  refine z_cVb0 (pc := 15) G kb_8 hX.1 (hX.el24 c1) (bk_hasHeldInvoices hl hX (hX.el24 c1)) rfl q_ml_X10_333 h_X7_hasHeldInvoices ⟨Nat.le_of_ble_eq_true rfl, Nat.le_of_ble_eq_true rfl⟩ (Nat.le_of_ble_eq_true rfl) (Nat.le_refl _) (Nat.le_refl _) dX10_end_15 (fun c3 => ?_) (fun c3 => ?_)
  · refine x_if_eq (pc := 18) (y := 0) (tgt := 32) G dX10_end_18 rfl (fun q => absurd q (by decide)) (fun _ => ?_)
    exact z_ISE (pc := 21) G B B2 hout (is := 336) (text := "it is not ORDERED, or an invoice is held") (by decide +kernel) dX10_end_21 dX10_end_24 (Or.inr ⟨dX10_end_25, dX10_end_28, dX10_end_31⟩) ⟨Nat.le_of_ble_eq_true rfl, Nat.le_of_ble_eq_true rfl⟩ (Nat.le_of_ble_eq_true rfl) (Nat.le_of_ble_eq_true rfl) (by rw [k_end, if_pos c1, if_pos c2, if_pos c3]; exact ⟨rfl, rfl⟩)
  refine x_if_eq (pc := 18) (y := 0) (tgt := 32) G dX10_end_18 rfl (fun _ => ?_) (fun q => absurd q (by decide))
  refine z_aload2 (pc := 32) G vr_r dX10_end_32 ?_
  refine x_iconst (pc := 33) (v := 5) G dX10_end_33 ic_5 ?_
  refine z_pI (pc := 34) (f := 259) G kb_8 gb_X10_209 rfl hX.1 (hX.el24 c1) rfl (cr_259.trans (congrArg Value.int ci_ss)) rfl rfl dX10_end_34 ?_
  refine z_aload2 (pc := 37) G vr_r dX10_end_37 ?_
  refine z_aload2 (pc := 38) G vr_r dX10_end_38 ?_
  refine z_g (pc := 39) (f := 261) (x := p1) (v := (.long (cj S 261 p1))) G kb_8 gb_X10_273 rfl hX.1 (hX.el24 c1) (cr_261.trans (congrArg Value.long cj_i)) dX10_end_39 ?_
  refine x_cS2 (pc := 42) G (ck_release hl hX (hX.el24 c1) (rel_of (ci_sn rfl) cj_i (hC.2 _ (hX.el24 c1)))) q_ml_X10_276 h_X10_release ⟨Nat.le_of_ble_eq_true rfl, Nat.le_of_ble_eq_true rfl⟩ (Nat.le_of_ble_eq_true rfl) (Nat.le_refl _) (Nat.le_refl _) dX10_end_42 ?_
  exact x_lret (pc := 45) G B rfl dX10_end_45 (by rw [k_end, if_pos c1, if_pos c2, if_neg c3]; exact ⟨rfl, rfl⟩)
theorem dX10_letGo_0 : decode cX10_letGo 0 = .ok (.aload_n 0, 1) := by decide +kernel
theorem dX10_letGo_1 : decode cX10_letGo 1 = .ok (.iload_n 1, 1) := by decide +kernel
theorem dX10_letGo_2 : decode cX10_letGo 2 = .ok (.invokevirtual 349, 3) := by decide +kernel
theorem dX10_letGo_5 : decode cX10_letGo 5 = .ok (.astore_n 3, 1) := by decide +kernel
theorem dX10_letGo_6 : decode cX10_letGo 6 = .ok (.aload_n 0, 1) := by decide +kernel
theorem dX10_letGo_7 : decode cX10_letGo 7 = .ok (.iload_n 2, 1) := by decide +kernel
theorem dX10_letGo_8 : decode cX10_letGo 8 = .ok (.invokevirtual 87, 3) := by decide +kernel
theorem dX10_letGo_11 : decode cX10_letGo 11 = .ok (.astore 4, 2) := by decide +kernel
theorem dX10_letGo_13 : decode cX10_letGo 13 = .ok (.aload_n 3, 1) := by decide +kernel
theorem dX10_letGo_14 : decode cX10_letGo 14 = .ok (.getfield 353, 3) := by decide +kernel
theorem dX10_letGo_17 : decode cX10_letGo 17 = .ok (.ifCond .ne 10, 3) := by decide +kernel
theorem dX10_letGo_20 : decode cX10_letGo 20 = .ok (.aload_n 3, 1) := by decide +kernel
theorem dX10_letGo_21 : decode cX10_letGo 21 = .ok (.invokevirtual 354, 3) := by decide +kernel
theorem dX10_letGo_24 : decode cX10_letGo 24 = .ok (.ifCond .ne 14, 3) := by decide +kernel
theorem dX10_letGo_27 : decode cX10_letGo 27 = .ok (.new 100, 3) := by decide +kernel
theorem dX10_letGo_30 : decode cX10_letGo 30 = .ok (.dup, 1) := by decide +kernel
theorem dX10_letGo_31 : decode cX10_letGo 31 = .ok (.ldc_w 357, 3) := by decide +kernel
theorem dX10_letGo_34 : decode cX10_letGo 34 = .ok (.invokespecial 104, 3) := by decide +kernel
theorem dX10_letGo_37 : decode cX10_letGo 37 = .ok (.athrow, 1) := by decide +kernel
theorem dX10_letGo_38 : decode cX10_letGo 38 = .ok (.aload 4, 2) := by decide +kernel
theorem dX10_letGo_40 : decode cX10_letGo 40 = .ok (.aload_n 0, 1) := by decide +kernel
theorem dX10_letGo_41 : decode cX10_letGo 41 = .ok (.getfield 45, 3) := by decide +kernel
theorem dX10_letGo_44 : decode cX10_letGo 44 = .ok (.if_acmp .eq 14, 3) := by decide +kernel
theorem dX10_letGo_47 : decode cX10_letGo 47 = .ok (.new 100, 3) := by decide +kernel
theorem dX10_letGo_50 : decode cX10_letGo 50 = .ok (.dup, 1) := by decide +kernel
theorem dX10_letGo_51 : decode cX10_letGo 51 = .ok (.ldc_w 359, 3) := by decide +kernel
theorem dX10_letGo_54 : decode cX10_letGo 54 = .ok (.invokespecial 104, 3) := by decide +kernel
theorem dX10_letGo_57 : decode cX10_letGo 57 = .ok (.athrow, 1) := by decide +kernel
theorem dX10_letGo_58 : decode cX10_letGo 58 = .ok (.aload_n 3, 1) := by decide +kernel
theorem dX10_letGo_59 : decode cX10_letGo 59 = .ok (.iconst 1, 1) := by decide +kernel
theorem dX10_letGo_60 : decode cX10_letGo 60 = .ok (.putfield 361, 3) := by decide +kernel
theorem dX10_letGo_63 : decode cX10_letGo 63 = .ok (.aload_n 0, 1) := by decide +kernel
theorem dX10_letGo_64 : decode cX10_letGo 64 = .ok (.aload_n 3, 1) := by decide +kernel
theorem dX10_letGo_65 : decode cX10_letGo 65 = .ok (.invokevirtual 345, 3) := by decide +kernel
theorem dX10_letGo_68 : decode cX10_letGo 68 = .ok (.ireturn, 1) := by decide +kernel
def k_letGo (p1 : Int32) (p2 : Int32) (X : CX) (S : CT) : (Int32 × CT) ⊕ String :=
    if P_num p1 (nS X 25 0) then
      if P_num p2 (nS X 20 0) then
        if (ci S 102 p1) = 0 then
          if K_isTooDear p1 X S then
            if p2 = (ci S 362 0) then
              .inl ((k_bookUnlessHeld p1 X (si S 103 p1 1)).1, (k_bookUnlessHeld p1 X (si S 103 p1 1)).2)
            else
            .inr "java/lang/IllegalStateException"
          else
          .inr "java/lang/IllegalStateException"
        else
        .inr "java/lang/IllegalStateException"
      else
      .inr "java/lang/IndexOutOfBoundsException"
    else
    .inr "java/lang/IndexOutOfBoundsException"
abbrev rm_X10_letGo : Room := { frames := 12, cells := 0, slots := 0, locals := 226 }
abbrev rmt_X10_letGo : Room := { frames := 12, cells := 1, slots := 6, locals := 226 }
set_option maxRecDepth 100000 in
set_option maxHeartbeats 4000000 in
theorem ck_letGo {l : Launch} {k : KC} (hl : l.stackTraces = false) {X : CX} {S : CT} (hX : XOK X) {p1 : Int32} {p2 : Int32} (hT : TS X S) (hC : LC X S)  : MC l k yX10_letGo (.code yX10_letGo cX10_letGo 5 (some .boolean)) rmt_X10_letGo [(vr X 11 0), .int p1, .int p2] (cW k X S) (pOi k X S (k_letGo p1 p2 X S)) := by
  refine MC.of 2 hl (by decide) (by simp only [lg_sl_vr, lg_sl_i, lg_sl_l, lg_sl_0]; exact Nat.le_of_ble_eq_true rfl) ?_
  intro p e s m args below meth c A Q G B B2 hout
  simp only [lp_args_vr, lp_args_i, lp_args_l, lp_args_0]
  show Wx p l e rmt_X10_letGo s m args below meth c k A 5 Q 1 6 0 [some ((vr X 11 0)), some (.int p1), some (.int p2), none, none] [] (cW k X S)
  refine z_aload0 (pc := 0) G vr_r dX10_letGo_0 ?_
  refine x_iload1 (pc := 1) G dX10_letGo_1 ?_
  rcases Decidable.em (¬ (P_num p1 (nS X 25 0))) with c1 | c1
  · exact z_cVt1 (pc := 2) G kb_11 hX.1 hX.l11 B B2 hout (no_invoiceAt hl hX  c1) rfl q_ml_X10_349 h_X10_invoiceAt ⟨Nat.le_of_ble_eq_true rfl, Nat.le_of_ble_eq_true rfl⟩ (Nat.le_of_ble_eq_true rfl) (Nat.le_refl _) (Nat.le_refl _) dX10_letGo_2 (by rw [k_letGo, if_neg c1]; exact ⟨rfl, rfl⟩)
  have c1 := Decidable.not_not.mp c1
  refine z_cV1 (pc := 2) G kb_11 hX.1 hX.l11 (ok_invoiceAt hl hX  c1) rfl q_ml_X10_349 h_X10_invoiceAt ⟨Nat.le_of_ble_eq_true rfl, Nat.le_of_ble_eq_true rfl⟩ (Nat.le_of_ble_eq_true rfl) (Nat.le_refl _) (Nat.le_refl _) dX10_letGo_2 ?_
  refine z_astore3 (pc := 5) G vr_r dX10_letGo_5 (Nat.le_of_ble_eq_true rfl) rfl ?_
  refine z_aload0 (pc := 6) G vr_r dX10_letGo_6 ?_
  refine x_iload2 (pc := 7) G dX10_letGo_7 ?_
  rcases Decidable.em (¬ (P_num p2 (nS X 20 0))) with c2 | c2
  · exact z_cVt1 (pc := 8) G kb_11 hX.1 hX.l11 B B2 hout (no_personAt hl hX  c2) rfl q_ml_X10_87 h_X10_personAt ⟨Nat.le_of_ble_eq_true rfl, Nat.le_of_ble_eq_true rfl⟩ (Nat.le_of_ble_eq_true rfl) (Nat.le_refl _) (Nat.le_refl _) dX10_letGo_8 (by rw [k_letGo, if_pos c1, if_neg c2]; exact ⟨rfl, rfl⟩)
  have c2 := Decidable.not_not.mp c2
  refine z_cV1 (pc := 8) G kb_11 hX.1 hX.l11 (ok_personAt hl hX  c2) rfl q_ml_X10_87 h_X10_personAt ⟨Nat.le_of_ble_eq_true rfl, Nat.le_of_ble_eq_true rfl⟩ (Nat.le_of_ble_eq_true rfl) (Nat.le_refl _) (Nat.le_refl _) dX10_letGo_8 ?_
  refine z_astore4 (pc := 11) G vr_r dX10_letGo_11 (Nat.le_of_ble_eq_true rfl) lp_c2_vr ?_
  refine z_aload3 (pc := 13) G vr_r dX10_letGo_13 ?_
  refine z_g (pc := 14) (f := 102) (x := p1) (v := (.int (ci S 102 p1))) G kb_3 gb_X10_353 rfl hX.1 (hX.el25 c1) cr_102 dX10_letGo_14 ?_
  refine x_if_ne (pc := 17) (y := 0) (tgt := 27) G dX10_letGo_17 rfl (fun c3 => ?_) (fun c3 => ?_)
  · exact z_ISE (pc := 27) G B B2 hout (is := 357) (text := "it is not held for its price") (by decide +kernel) dX10_letGo_27 dX10_letGo_30 (Or.inr ⟨dX10_letGo_31, dX10_letGo_34, dX10_letGo_37⟩) ⟨Nat.le_of_ble_eq_true rfl, Nat.le_of_ble_eq_true rfl⟩ (Nat.le_of_ble_eq_true rfl) (Nat.le_of_ble_eq_true rfl) (by rw [k_letGo, if_pos c1, if_pos c2, if_neg c3]; exact ⟨rfl, rfl⟩)
  refine z_aload3 (pc := 20) G vr_r dX10_letGo_20 ?_
  refine z_cVb0 (pc := 21) G kb_3 hX.1 (hX.el25 c1) (bk_isTooDear hl hX (hX.el25 c1) ) rfl q_ml_X10_354 h_X2_isTooDear ⟨Nat.le_of_ble_eq_true rfl, Nat.le_of_ble_eq_true rfl⟩ (Nat.le_of_ble_eq_true rfl) (Nat.le_refl _) (Nat.le_refl _) dX10_letGo_21 (fun c4 => ?_) (fun c4 => ?_)
  · refine x_if_ne (pc := 24) (y := 0) (tgt := 38) G dX10_letGo_24 rfl (fun _ => ?_) (fun q => absurd q (by decide))
    refine z_aload4 (pc := 38) G vr_r dX10_letGo_38 ?_
    refine z_aload0 (pc := 40) G vr_r dX10_letGo_40 ?_
    refine z_g (pc := 41) (f := 362) (x := 0) (v := (vr X 6 (ci S 362 0))) G kb_11 gb_X10_45 rfl hX.1 hX.l11 cr_362 dX10_letGo_41 ?_
    refine z_acmp_eq (pc := 44) (tgt := 58) (kd := 6) (x := p2) (y := (ci S 362 0)) G (Or.inr (hX.el20 c2)) hT.ctl dX10_letGo_44 rfl (fun c5 => ?_) (fun c5 => ?_)
    · refine z_aload3 (pc := 58) G vr_r dX10_letGo_58 ?_
      refine x_iconst (pc := 59) (v := 1) G dX10_letGo_59 ic_1 ?_
      refine z_pI (pc := 60) (f := 103) G kb_3 gb_X10_361 rfl hX.1 (hX.el25 c1) rfl (cr_103.trans (congrArg Value.int ci_ss)) (by decide) rfl dX10_letGo_60 ?_
      refine z_aload0 (pc := 63) G vr_r dX10_letGo_63 ?_
      refine z_aload3 (pc := 64) G vr_r dX10_letGo_64 ?_
      refine z_cV1 (pc := 65) G kb_11 hX.1 hX.l11 (ck_bookUnlessHeld hl hX (hX.el25 c1) (hC.si (f := 103) rfl rfl).1 (hC.si (f := 103) rfl rfl).2) rfl q_ml_X10_345 h_X10_bookUnlessHeld ⟨Nat.le_of_ble_eq_true rfl, Nat.le_of_ble_eq_true rfl⟩ (Nat.le_of_ble_eq_true rfl) (Nat.le_refl _) (Nat.le_refl _) dX10_letGo_65 ?_
      exact x_zret (pc := 68) G B rfl (by exact bu_01) dX10_letGo_68 (by rw [k_letGo, if_pos c1, if_pos c2, if_pos c3, if_pos c4, if_pos c5]; exact ⟨rfl, rfl⟩)
    exact z_ISE (pc := 47) G B B2 hout (is := 359) (text := "that is not the controller") (by decide +kernel) dX10_letGo_47 dX10_letGo_50 (Or.inr ⟨dX10_letGo_51, dX10_letGo_54, dX10_letGo_57⟩) ⟨Nat.le_of_ble_eq_true rfl, Nat.le_of_ble_eq_true rfl⟩ (Nat.le_of_ble_eq_true rfl) (Nat.le_of_ble_eq_true rfl) (by rw [k_letGo, if_pos c1, if_pos c2, if_pos c3, if_pos c4, if_neg c5]; exact ⟨rfl, rfl⟩)
  refine x_if_ne (pc := 24) (y := 0) (tgt := 38) G dX10_letGo_24 rfl (fun q => absurd q (by decide)) (fun _ => ?_)
  exact z_ISE (pc := 27) G B B2 hout (is := 357) (text := "it is not held for its price") (by decide +kernel) dX10_letGo_27 dX10_letGo_30 (Or.inr ⟨dX10_letGo_31, dX10_letGo_34, dX10_letGo_37⟩) ⟨Nat.le_of_ble_eq_true rfl, Nat.le_of_ble_eq_true rfl⟩ (Nat.le_of_ble_eq_true rfl) (Nat.le_of_ble_eq_true rfl) (by rw [k_letGo, if_pos c1, if_pos c2, if_pos c3, if_neg c4]; exact ⟨rfl, rfl⟩)
theorem dX10_bounce_0 : decode cX10_bounce 0 = .ok (.aload_n 0, 1) := by decide +kernel
theorem dX10_bounce_1 : decode cX10_bounce 1 = .ok (.iload_n 1, 1) := by decide +kernel
theorem dX10_bounce_2 : decode cX10_bounce 2 = .ok (.invokevirtual 349, 3) := by decide +kernel
theorem dX10_bounce_5 : decode cX10_bounce 5 = .ok (.astore_n 2, 1) := by decide +kernel
theorem dX10_bounce_6 : decode cX10_bounce 6 = .ok (.aload_n 2, 1) := by decide +kernel
theorem dX10_bounce_7 : decode cX10_bounce 7 = .ok (.getfield 353, 3) := by decide +kernel
theorem dX10_bounce_10 : decode cX10_bounce 10 = .ok (.iconst 2, 1) := by decide +kernel
theorem dX10_bounce_11 : decode cX10_bounce 11 = .ok (.if_icmp .eq 14, 3) := by decide +kernel
theorem dX10_bounce_14 : decode cX10_bounce 14 = .ok (.new 100, 3) := by decide +kernel
theorem dX10_bounce_17 : decode cX10_bounce 17 = .ok (.dup, 1) := by decide +kernel
theorem dX10_bounce_18 : decode cX10_bounce 18 = .ok (.ldc_w 376, 3) := by decide +kernel
theorem dX10_bounce_21 : decode cX10_bounce 21 = .ok (.invokespecial 104, 3) := by decide +kernel
theorem dX10_bounce_24 : decode cX10_bounce 24 = .ok (.athrow, 1) := by decide +kernel
theorem dX10_bounce_25 : decode cX10_bounce 25 = .ok (.aload_n 2, 1) := by decide +kernel
theorem dX10_bounce_26 : decode cX10_bounce 26 = .ok (.aload_n 2, 1) := by decide +kernel
theorem dX10_bounce_27 : decode cX10_bounce 27 = .ok (.getfield 378, 3) := by decide +kernel
theorem dX10_bounce_30 : decode cX10_bounce 30 = .ok (.aload_n 2, 1) := by decide +kernel
theorem dX10_bounce_31 : decode cX10_bounce 31 = .ok (.getfield 381, 3) := by decide +kernel
theorem dX10_bounce_34 : decode cX10_bounce 34 = .ok (.ladd, 1) := by decide +kernel
theorem dX10_bounce_35 : decode cX10_bounce 35 = .ok (.putfield 383, 3) := by decide +kernel
theorem dX10_bounce_38 : decode cX10_bounce 38 = .ok (.aload_n 2, 1) := by decide +kernel
theorem dX10_bounce_39 : decode cX10_bounce 39 = .ok (.iconst 1, 1) := by decide +kernel
theorem dX10_bounce_40 : decode cX10_bounce 40 = .ok (.putfield 386, 3) := by decide +kernel
theorem dX10_bounce_43 : decode cX10_bounce 43 = .ok (.aload_n 2, 1) := by decide +kernel
theorem dX10_bounce_44 : decode cX10_bounce 44 = .ok (.iconst 1, 1) := by decide +kernel
theorem dX10_bounce_45 : decode cX10_bounce 45 = .ok (.putfield 353, 3) := by decide +kernel
theorem dX10_bounce_48 : decode cX10_bounce 48 = .ok (.aload_n 0, 1) := by decide +kernel
theorem dX10_bounce_49 : decode cX10_bounce 49 = .ok (.iconst 2, 1) := by decide +kernel
theorem dX10_bounce_50 : decode cX10_bounce 50 = .ok (.aload_n 2, 1) := by decide +kernel
theorem dX10_bounce_51 : decode cX10_bounce 51 = .ok (.getfield 378, 3) := by decide +kernel
theorem dX10_bounce_54 : decode cX10_bounce 54 = .ok (.invokevirtual 389, 3) := by decide +kernel
theorem dX10_bounce_57 : decode cX10_bounce 57 = .ok (.aload_n 0, 1) := by decide +kernel
theorem dX10_bounce_58 : decode cX10_bounce 58 = .ok (.iconst 5, 1) := by decide +kernel
theorem dX10_bounce_59 : decode cX10_bounce 59 = .ok (.aload_n 2, 1) := by decide +kernel
theorem dX10_bounce_60 : decode cX10_bounce 60 = .ok (.getfield 381, 3) := by decide +kernel
theorem dX10_bounce_63 : decode cX10_bounce 63 = .ok (.invokevirtual 389, 3) := by decide +kernel
theorem dX10_bounce_66 : decode cX10_bounce 66 = .ok (.aload_n 0, 1) := by decide +kernel
theorem dX10_bounce_67 : decode cX10_bounce 67 = .ok (.iconst 1, 1) := by decide +kernel
theorem dX10_bounce_68 : decode cX10_bounce 68 = .ok (.aload_n 2, 1) := by decide +kernel
theorem dX10_bounce_69 : decode cX10_bounce 69 = .ok (.getfield 383, 3) := by decide +kernel
theorem dX10_bounce_72 : decode cX10_bounce 72 = .ok (.lneg, 1) := by decide +kernel
theorem dX10_bounce_73 : decode cX10_bounce 73 = .ok (.invokevirtual 389, 3) := by decide +kernel
theorem dX10_bounce_76 : decode cX10_bounce 76 = .ok (.aload_n 2, 1) := by decide +kernel
theorem dX10_bounce_77 : decode cX10_bounce 77 = .ok (.getfield 378, 3) := by decide +kernel
theorem dX10_bounce_80 : decode cX10_bounce 80 = .ok (.lreturn, 1) := by decide +kernel
def k_bounce (p1 : Int32) (X : CX) (S : CT) : (Int64 × CT) ⊕ String :=
    if P_num p1 (nS X 25 0) then
      if (ci S 102 p1) = 2 then
        .inl ((cj S 112 p1), (k_post 1 (-((cj S 112 p1) + (cj S 113 p1))) X (k_post 5 (cj S 113 p1) X (k_post 2 (cj S 112 p1) X (si (si (sj S 108 p1 ((cj S 112 p1) + (cj S 113 p1))) 111 p1 1) 102 p1 1)))))
      else
      .inr "java/lang/IllegalStateException"
    else
    .inr "java/lang/IndexOutOfBoundsException"
abbrev rm_X10_bounce : Room := { frames := 8, cells := 0, slots := 0, locals := 134 }
abbrev rmt_X10_bounce : Room := { frames := 8, cells := 1, slots := 6, locals := 134 }
set_option maxRecDepth 100000 in
set_option maxHeartbeats 4000000 in
theorem ck_bounce {l : Launch} {k : KC} (hl : l.stackTraces = false) {X : CX} {S : CT} (hX : XOK X) {p1 : Int32}  : MC l k yX10_bounce (.code yX10_bounce cX10_bounce 3 (some .long)) rmt_X10_bounce [(vr X 11 0), .int p1] (cW k X S) (pOl k X S (k_bounce p1 X S)) := by
  refine MC.of 1 hl (by decide) (by simp only [lg_sl_vr, lg_sl_i, lg_sl_l, lg_sl_0]; exact Nat.le_of_ble_eq_true rfl) ?_
  intro p e s m args below meth c A Q G B B2 hout
  simp only [lp_args_vr, lp_args_i, lp_args_l, lp_args_0]
  show Wx p l e rmt_X10_bounce s m args below meth c k A 3 Q 1 6 0 [some ((vr X 11 0)), some (.int p1), none] [] (cW k X S)
  refine z_aload0 (pc := 0) G vr_r dX10_bounce_0 ?_
  refine x_iload1 (pc := 1) G dX10_bounce_1 ?_
  rcases Decidable.em (¬ (P_num p1 (nS X 25 0))) with c1 | c1
  · exact z_cVt1 (pc := 2) G kb_11 hX.1 hX.l11 B B2 hout (no_invoiceAt hl hX  c1) rfl q_ml_X10_349 h_X10_invoiceAt ⟨Nat.le_of_ble_eq_true rfl, Nat.le_of_ble_eq_true rfl⟩ (Nat.le_of_ble_eq_true rfl) (Nat.le_refl _) (Nat.le_refl _) dX10_bounce_2 (by rw [k_bounce, if_neg c1]; exact ⟨rfl, rfl⟩)
  have c1 := Decidable.not_not.mp c1
  refine z_cV1 (pc := 2) G kb_11 hX.1 hX.l11 (ok_invoiceAt hl hX  c1) rfl q_ml_X10_349 h_X10_invoiceAt ⟨Nat.le_of_ble_eq_true rfl, Nat.le_of_ble_eq_true rfl⟩ (Nat.le_of_ble_eq_true rfl) (Nat.le_refl _) (Nat.le_refl _) dX10_bounce_2 ?_
  refine z_astore2 (pc := 5) G vr_r dX10_bounce_5 (Nat.le_of_ble_eq_true rfl) rfl ?_
  refine z_aload2 (pc := 6) G vr_r dX10_bounce_6 ?_
  refine z_g (pc := 7) (f := 102) (x := p1) (v := (.int (ci S 102 p1))) G kb_3 gb_X10_353 rfl hX.1 (hX.el25 c1) cr_102 dX10_bounce_7 ?_
  refine x_iconst (pc := 10) (v := 2) G dX10_bounce_10 ic_2 ?_
  refine x_icmp_eq (pc := 11) (tgt := 25) G dX10_bounce_11 rfl (fun c2 => ?_) (fun c2 => ?_)
  · refine z_aload2 (pc := 25) G vr_r dX10_bounce_25 ?_
    refine z_aload2 (pc := 26) G vr_r dX10_bounce_26 ?_
    refine z_g (pc := 27) (f := 112) (x := p1) (v := (.long (cj S 112 p1))) G kb_3 gb_X10_378 rfl hX.1 (hX.el25 c1) cr_112 dX10_bounce_27 ?_
    refine z_aload2 (pc := 30) G vr_r dX10_bounce_30 ?_
    refine z_g (pc := 31) (f := 113) (x := p1) (v := (.long (cj S 113 p1))) G kb_3 gb_X10_381 rfl hX.1 (hX.el25 c1) cr_113 dX10_bounce_31 ?_
    refine x_ladd (pc := 34) G dX10_bounce_34 ?_
    refine z_pJ (pc := 35) (f := 108) G kb_3 gb_X10_383 rfl hX.1 (hX.el25 c1) rfl (cr_108.trans (congrArg Value.long cj_ss)) rfl rfl dX10_bounce_35 ?_
    refine z_aload2 (pc := 38) G vr_r dX10_bounce_38 ?_
    refine x_iconst (pc := 39) (v := 1) G dX10_bounce_39 ic_1 ?_
    refine z_pI (pc := 40) (f := 111) G kb_3 gb_X10_386 rfl hX.1 (hX.el25 c1) rfl (cr_111.trans (congrArg Value.int ci_ss)) (by decide) rfl dX10_bounce_40 ?_
    refine z_aload2 (pc := 43) G vr_r dX10_bounce_43 ?_
    refine x_iconst (pc := 44) (v := 1) G dX10_bounce_44 ic_1 ?_
    refine z_pI (pc := 45) (f := 102) G kb_3 gb_X10_353 rfl hX.1 (hX.el25 c1) rfl (cr_102.trans (congrArg Value.int ci_ss)) rfl rfl dX10_bounce_45 ?_
    refine z_aload0 (pc := 48) G vr_r dX10_bounce_48 ?_
    refine x_iconst (pc := 49) (v := 2) G dX10_bounce_49 ic_2 ?_
    refine z_aload2 (pc := 50) G vr_r dX10_bounce_50 ?_
    refine z_g (pc := 51) (f := 112) (x := p1) (v := (.long (cj S 112 p1))) G kb_3 gb_X10_378 rfl hX.1 (hX.el25 c1) (cr_112.trans (congrArg Value.long (cj_i.trans (cj_i.trans (cj_sn rfl))))) dX10_bounce_51 ?_
    refine z_cVv2 (pc := 54) G kb_11 hX.1 hX.l11 (ck_post hl hX  (by decide)) rfl q_ml_X10_389 h_X10_post ⟨Nat.le_of_ble_eq_true rfl, Nat.le_of_ble_eq_true rfl⟩ (Nat.le_of_ble_eq_true rfl) (Nat.le_refl _) (Nat.le_refl _) dX10_bounce_54 ?_
    refine z_aload0 (pc := 57) G vr_r dX10_bounce_57 ?_
    refine x_iconst (pc := 58) (v := 5) G dX10_bounce_58 ic_5 ?_
    refine z_aload2 (pc := 59) G vr_r dX10_bounce_59 ?_
    refine z_g (pc := 60) (f := 113) (x := p1) (v := (.long (cj S 113 p1))) G kb_3 gb_X10_381 rfl hX.1 (hX.el25 c1) (cr_113.trans (congrArg Value.long ((cj_post rfl).trans (cj_i.trans (cj_i.trans (cj_sn rfl)))))) dX10_bounce_60 ?_
    refine z_cVv2 (pc := 63) G kb_11 hX.1 hX.l11 (ck_post hl hX  (by decide)) rfl q_ml_X10_389 h_X10_post ⟨Nat.le_of_ble_eq_true rfl, Nat.le_of_ble_eq_true rfl⟩ (Nat.le_of_ble_eq_true rfl) (Nat.le_refl _) (Nat.le_refl _) dX10_bounce_63 ?_
    refine z_aload0 (pc := 66) G vr_r dX10_bounce_66 ?_
    refine x_iconst (pc := 67) (v := 1) G dX10_bounce_67 ic_1 ?_
    refine z_aload2 (pc := 68) G vr_r dX10_bounce_68 ?_
    refine z_g (pc := 69) (f := 108) (x := p1) (v := (.long ((cj S 112 p1) + (cj S 113 p1)))) G kb_3 gb_X10_383 rfl hX.1 (hX.el25 c1) (cr_108.trans (congrArg Value.long ((cj_post rfl).trans ((cj_post rfl).trans (cj_i.trans (cj_i.trans cj_ss)))))) dX10_bounce_69 ?_
    refine x_lneg (pc := 72) G dX10_bounce_72 ?_
    refine z_cVv2 (pc := 73) G kb_11 hX.1 hX.l11 (ck_post hl hX  (by decide)) rfl q_ml_X10_389 h_X10_post ⟨Nat.le_of_ble_eq_true rfl, Nat.le_of_ble_eq_true rfl⟩ (Nat.le_of_ble_eq_true rfl) (Nat.le_refl _) (Nat.le_refl _) dX10_bounce_73 ?_
    refine z_aload2 (pc := 76) G vr_r dX10_bounce_76 ?_
    refine z_g (pc := 77) (f := 112) (x := p1) (v := (.long (cj S 112 p1))) G kb_3 gb_X10_378 rfl hX.1 (hX.el25 c1) (cr_112.trans (congrArg Value.long ((cj_post rfl).trans ((cj_post rfl).trans ((cj_post rfl).trans (cj_i.trans (cj_i.trans (cj_sn rfl)))))))) dX10_bounce_77 ?_
    exact x_lret (pc := 80) G B rfl dX10_bounce_80 (by rw [k_bounce, if_pos c1, if_pos c2]; exact ⟨rfl, rfl⟩)
  exact z_ISE (pc := 14) G B B2 hout (is := 376) (text := "it is not PAID") (by decide +kernel) dX10_bounce_14 dX10_bounce_17 (Or.inr ⟨dX10_bounce_18, dX10_bounce_21, dX10_bounce_24⟩) ⟨Nat.le_of_ble_eq_true rfl, Nat.le_of_ble_eq_true rfl⟩ (Nat.le_of_ble_eq_true rfl) (Nat.le_of_ble_eq_true rfl) (by rw [k_bounce, if_pos c1, if_neg c2]; exact ⟨rfl, rfl⟩)
theorem dX10_goOn_0 : decode cX10_goOn 0 = .ok (.aload_n 0, 1) := by decide +kernel
theorem dX10_goOn_1 : decode cX10_goOn 1 = .ok (.iload_n 1, 1) := by decide +kernel
theorem dX10_goOn_2 : decode cX10_goOn 2 = .ok (.invokevirtual 349, 3) := by decide +kernel
theorem dX10_goOn_5 : decode cX10_goOn 5 = .ok (.astore_n 2, 1) := by decide +kernel
theorem dX10_goOn_6 : decode cX10_goOn 6 = .ok (.aload_n 2, 1) := by decide +kernel
theorem dX10_goOn_7 : decode cX10_goOn 7 = .ok (.getfield 386, 3) := by decide +kernel
theorem dX10_goOn_10 : decode cX10_goOn 10 = .ok (.ifCond .ne 14, 3) := by decide +kernel
theorem dX10_goOn_13 : decode cX10_goOn 13 = .ok (.new 100, 3) := by decide +kernel
theorem dX10_goOn_16 : decode cX10_goOn 16 = .ok (.dup, 1) := by decide +kernel
theorem dX10_goOn_17 : decode cX10_goOn 17 = .ok (.ldc_w 393, 3) := by decide +kernel
theorem dX10_goOn_20 : decode cX10_goOn 20 = .ok (.invokespecial 104, 3) := by decide +kernel
theorem dX10_goOn_23 : decode cX10_goOn 23 = .ok (.athrow, 1) := by decide +kernel
theorem dX10_goOn_24 : decode cX10_goOn 24 = .ok (.aload_n 2, 1) := by decide +kernel
theorem dX10_goOn_25 : decode cX10_goOn 25 = .ok (.iconst 0, 1) := by decide +kernel
theorem dX10_goOn_26 : decode cX10_goOn 26 = .ok (.putfield 386, 3) := by decide +kernel
theorem dX10_goOn_29 : decode cX10_goOn 29 = .ok (.return_, 1) := by decide +kernel
def k_goOn (p1 : Int32) (X : CX) (S : CT) : CT ⊕ String :=
    if P_num p1 (nS X 25 0) then
      if (ci S 111 p1) = 0 then
        .inr "java/lang/IllegalStateException"
      else
      .inl (si S 111 p1 0)
    else
    .inr "java/lang/IndexOutOfBoundsException"
abbrev rm_X10_goOn : Room := { frames := 8, cells := 0, slots := 0, locals := 132 }
abbrev rmt_X10_goOn : Room := { frames := 8, cells := 1, slots := 6, locals := 132 }
set_option maxRecDepth 100000 in
set_option maxHeartbeats 4000000 in
theorem ck_goOn {l : Launch} {k : KC} (hl : l.stackTraces = false) {X : CX} {S : CT} (hX : XOK X) {p1 : Int32}  : MC l k yX10_goOn (.code yX10_goOn cX10_goOn 3 none) rmt_X10_goOn [(vr X 11 0), .int p1] (cW k X S) (pOv k X S (k_goOn p1 X S)) := by
  refine MC.of 1 hl (by decide) (by simp only [lg_sl_vr, lg_sl_i, lg_sl_l, lg_sl_0]; exact Nat.le_of_ble_eq_true rfl) ?_
  intro p e s m args below meth c A Q G B B2 hout
  simp only [lp_args_vr, lp_args_i, lp_args_l, lp_args_0]
  show Wx p l e rmt_X10_goOn s m args below meth c k A 3 Q 1 6 0 [some ((vr X 11 0)), some (.int p1), none] [] (cW k X S)
  refine z_aload0 (pc := 0) G vr_r dX10_goOn_0 ?_
  refine x_iload1 (pc := 1) G dX10_goOn_1 ?_
  rcases Decidable.em (¬ (P_num p1 (nS X 25 0))) with c1 | c1
  · exact z_cVt1 (pc := 2) G kb_11 hX.1 hX.l11 B B2 hout (no_invoiceAt hl hX  c1) rfl q_ml_X10_349 h_X10_invoiceAt ⟨Nat.le_of_ble_eq_true rfl, Nat.le_of_ble_eq_true rfl⟩ (Nat.le_of_ble_eq_true rfl) (Nat.le_refl _) (Nat.le_refl _) dX10_goOn_2 (by rw [k_goOn, if_neg c1]; exact ⟨rfl, rfl⟩)
  have c1 := Decidable.not_not.mp c1
  refine z_cV1 (pc := 2) G kb_11 hX.1 hX.l11 (ok_invoiceAt hl hX  c1) rfl q_ml_X10_349 h_X10_invoiceAt ⟨Nat.le_of_ble_eq_true rfl, Nat.le_of_ble_eq_true rfl⟩ (Nat.le_of_ble_eq_true rfl) (Nat.le_refl _) (Nat.le_refl _) dX10_goOn_2 ?_
  refine z_astore2 (pc := 5) G vr_r dX10_goOn_5 (Nat.le_of_ble_eq_true rfl) rfl ?_
  refine z_aload2 (pc := 6) G vr_r dX10_goOn_6 ?_
  refine z_g (pc := 7) (f := 111) (x := p1) (v := (.int (ci S 111 p1))) G kb_3 gb_X10_386 rfl hX.1 (hX.el25 c1) cr_111 dX10_goOn_7 ?_
  refine x_if_ne (pc := 10) (y := 0) (tgt := 24) G dX10_goOn_10 rfl (fun c2 => ?_) (fun c2 => ?_)
  · refine z_aload2 (pc := 24) G vr_r dX10_goOn_24 ?_
    refine x_iconst (pc := 25) (v := 0) G dX10_goOn_25 ic_0 ?_
    refine z_pI (pc := 26) (f := 111) G kb_3 gb_X10_386 rfl hX.1 (hX.el25 c1) rfl (cr_111.trans (congrArg Value.int ci_ss)) (by decide) rfl dX10_goOn_26 ?_
    exact x_vret (pc := 29) G B rfl dX10_goOn_29 (by rw [k_goOn, if_pos c1, if_neg c2]; exact ⟨rfl, rfl⟩)
  exact z_ISE (pc := 13) G B B2 hout (is := 393) (text := "it is not stopped") (by decide +kernel) dX10_goOn_13 dX10_goOn_16 (Or.inr ⟨dX10_goOn_17, dX10_goOn_20, dX10_goOn_23⟩) ⟨Nat.le_of_ble_eq_true rfl, Nat.le_of_ble_eq_true rfl⟩ (Nat.le_of_ble_eq_true rfl) (Nat.le_of_ble_eq_true rfl) (by rw [k_goOn, if_pos c1, if_pos c2]; exact ⟨rfl, rfl⟩)
theorem dX10_place_0 : decode cX10_place 0 = .ok (.iload_n 1, 1) := by decide +kernel
theorem dX10_place_1 : decode cX10_place 1 = .ok (.ifCond .lt 12, 3) := by decide +kernel
theorem dX10_place_4 : decode cX10_place 4 = .ok (.iload_n 1, 1) := by decide +kernel
theorem dX10_place_5 : decode cX10_place 5 = .ok (.aload_n 0, 1) := by decide +kernel
theorem dX10_place_6 : decode cX10_place 6 = .ok (.getfield 37, 3) := by decide +kernel
theorem dX10_place_9 : decode cX10_place 9 = .ok (.arraylength, 1) := by decide +kernel
theorem dX10_place_10 : decode cX10_place 10 = .ok (.if_icmp .lt 14, 3) := by decide +kernel
theorem dX10_place_13 : decode cX10_place 13 = .ok (.new 180, 3) := by decide +kernel
theorem dX10_place_16 : decode cX10_place 16 = .ok (.dup, 1) := by decide +kernel
theorem dX10_place_17 : decode cX10_place 17 = .ok (.ldc_w 395, 3) := by decide +kernel
theorem dX10_place_20 : decode cX10_place 20 = .ok (.invokespecial 184, 3) := by decide +kernel
theorem dX10_place_23 : decode cX10_place 23 = .ok (.athrow, 1) := by decide +kernel
theorem dX10_place_24 : decode cX10_place 24 = .ok (.iload_n 2, 1) := by decide +kernel
theorem dX10_place_25 : decode cX10_place 25 = .ok (.iconst 0, 1) := by decide +kernel
theorem dX10_place_26 : decode cX10_place 26 = .ok (.ldc_w 397, 3) := by decide +kernel
theorem dX10_place_29 : decode cX10_place 29 = .ok (.invokestatic 92, 3) := by decide +kernel
theorem dX10_place_32 : decode cX10_place 32 = .ok (.aload_n 0, 1) := by decide +kernel
theorem dX10_place_33 : decode cX10_place 33 = .ok (.getfield 37, 3) := by decide +kernel
theorem dX10_place_36 : decode cX10_place 36 = .ok (.iload_n 1, 1) := by decide +kernel
theorem dX10_place_37 : decode cX10_place 37 = .ok (.iaload, 1) := by decide +kernel
theorem dX10_place_38 : decode cX10_place 38 = .ok (.istore_n 3, 1) := by decide +kernel
theorem dX10_place_39 : decode cX10_place 39 = .ok (.aload_n 0, 1) := by decide +kernel
theorem dX10_place_40 : decode cX10_place 40 = .ok (.getfield 37, 3) := by decide +kernel
theorem dX10_place_43 : decode cX10_place 43 = .ok (.iload_n 1, 1) := by decide +kernel
theorem dX10_place_44 : decode cX10_place 44 = .ok (.iload_n 2, 1) := by decide +kernel
theorem dX10_place_45 : decode cX10_place 45 = .ok (.iastore, 1) := by decide +kernel
theorem dX10_place_46 : decode cX10_place 46 = .ok (.iload_n 3, 1) := by decide +kernel
theorem dX10_place_47 : decode cX10_place 47 = .ok (.ireturn, 1) := by decide +kernel
def k_place (p1 : Int32) (p2 : Int32) (X : CX) (S : CT) : (Int32 × CT) ⊕ String :=
    if p1 < 0 then
      .inr "java/lang/IndexOutOfBoundsException"
    else
    if p1 < 4 then
      if P_in p2 0 50000 then
        .inl ((ci S 1280 p1), (si S 1280 p1 p2))
      else
      .inr "java/lang/IllegalArgumentException"
    else
    .inr "java/lang/IndexOutOfBoundsException"
abbrev rm_X10_place : Room := { frames := 7, cells := 0, slots := 0, locals := 112 }
abbrev rmt_X10_place : Room := { frames := 7, cells := 1, slots := 6, locals := 112 }
set_option maxRecDepth 100000 in
set_option maxHeartbeats 4000000 in
theorem ck_place {l : Launch} {k : KC} (hl : l.stackTraces = false) {X : CX} {S : CT} (hX : XOK X) {p1 : Int32} {p2 : Int32}  : MC l k yX10_place (.code yX10_place cX10_place 4 (some .int)) rmt_X10_place [(vr X 11 0), .int p1, .int p2] (cW k X S) (pOi k X S (k_place p1 p2 X S)) := by
  refine MC.of 1 hl (by decide) (by simp only [lg_sl_vr, lg_sl_i, lg_sl_l, lg_sl_0]; exact Nat.le_of_ble_eq_true rfl) ?_
  intro p e s m args below meth c A Q G B B2 hout
  simp only [lp_args_vr, lp_args_i, lp_args_l, lp_args_0]
  show Wx p l e rmt_X10_place s m args below meth c k A 4 Q 1 6 0 [some ((vr X 11 0)), some (.int p1), some (.int p2), none] [] (cW k X S)
  refine x_iload1 (pc := 0) G dX10_place_0 ?_
  refine x_if_lt (pc := 1) (y := 0) (tgt := 13) G dX10_place_1 rfl (fun c1 => ?_) (fun c1 => ?_)
  · exact z_IOOBE (pc := 13) G B B2 hout (is := 395) (text := "no such place") (by decide +kernel) dX10_place_13 dX10_place_16 (Or.inr ⟨dX10_place_17, dX10_place_20, dX10_place_23⟩) ⟨Nat.le_of_ble_eq_true rfl, Nat.le_of_ble_eq_true rfl⟩ (Nat.le_of_ble_eq_true rfl) (Nat.le_of_ble_eq_true rfl) (by rw [k_place, if_pos c1]; exact ⟨rfl, rfl⟩)
  refine x_iload1 (pc := 4) G dX10_place_4 ?_
  refine z_aload0 (pc := 5) G vr_r dX10_place_5 ?_
  refine z_g (pc := 6) (f := 360) (x := 0) (v := (aR X 40 0)) G kb_11 gb_X10_37 rfl hX.1 hX.l11 cr_360 dX10_place_6 ?_
  refine z_ilen (pc := 9) G hX.1 hX.l40 dX10_place_9 ?_
  refine x_icmp_lt (pc := 10) (tgt := 24) G dX10_place_10 rfl (fun c2 => ?_) (fun c2 => ?_)
  · refine x_iload2 (pc := 24) G dX10_place_24 ?_
    refine x_iconst (pc := 25) (v := 0) G dX10_place_25 ic_0 ?_
    refine x_ldcw (pc := 26) G q_cs_X10_397 dX10_place_26 ?_
    rcases Decidable.em (¬ (P_in p2 0 50000)) with c3 | c3
    · exact x_cSt3 (pc := 29) G B B2 hout (no_requireRange hl c3) q_ml_X10_92 h_X10_requireRange ⟨Nat.le_of_ble_eq_true rfl, Nat.le_of_ble_eq_true rfl⟩ (Nat.le_of_ble_eq_true rfl) (Nat.le_refl _) (Nat.le_refl _) dX10_place_29 (by rw [k_place, if_neg c1, if_pos c2, if_neg c3]; exact ⟨rfl, rfl⟩)
    have c3 := Decidable.not_not.mp c3
    refine x_cSv3 (pc := 29) G (ok_requireRange hl c3) q_ml_X10_92 h_X10_requireRange ⟨Nat.le_of_ble_eq_true rfl, Nat.le_of_ble_eq_true rfl⟩ (Nat.le_of_ble_eq_true rfl) (Nat.le_refl _) (Nat.le_refl _) dX10_place_29 ?_
    refine z_aload0 (pc := 32) G vr_r dX10_place_32 ?_
    refine z_g (pc := 33) (f := 360) (x := 0) (v := (aR X 40 0)) G kb_11 gb_X10_37 rfl hX.1 hX.l11 cr_360 dX10_place_33 ?_
    refine x_iload1 (pc := 36) G dX10_place_36 ?_
    refine z_iald (pc := 37) (v := (ci S 1280 p1)) G hX.1 hX.l40 (lOK (n := 4) (by decide) c1 c2) rfl dX10_place_37 ?_
    refine x_istore3 (pc := 38) G dX10_place_38 (Nat.le_of_ble_eq_true rfl) rfl ?_
    refine z_aload0 (pc := 39) G vr_r dX10_place_39 ?_
    refine z_g (pc := 40) (f := 360) (x := 0) (v := (aR X 40 0)) G kb_11 gb_X10_37 rfl hX.1 hX.l11 cr_360 dX10_place_40 ?_
    refine x_iload1 (pc := 43) G dX10_place_43 ?_
    refine x_iload2 (pc := 44) G dX10_place_44 ?_
    refine z_iast (pc := 45) G hX.1 hX.l40 (lOK (n := 4) (by decide) c1 c2) dX10_place_45 ?_
    refine x_iload3 (pc := 46) G dX10_place_46 ?_
    exact x_iret (pc := 47) G B rfl dX10_place_47 (by rw [k_place, if_neg c1, if_pos c2, if_pos c3]; exact ⟨rfl, rfl⟩)
  exact z_IOOBE (pc := 13) G B B2 hout (is := 395) (text := "no such place") (by decide +kernel) dX10_place_13 dX10_place_16 (Or.inr ⟨dX10_place_17, dX10_place_20, dX10_place_23⟩) ⟨Nat.le_of_ble_eq_true rfl, Nat.le_of_ble_eq_true rfl⟩ (Nat.le_of_ble_eq_true rfl) (Nat.le_of_ble_eq_true rfl) (by rw [k_place, if_neg c1, if_neg c2]; exact ⟨rfl, rfl⟩)
theorem dX10_advance_0 : decode cX10_advance 0 = .ok (.aload_n 0, 1) := by decide +kernel
theorem dX10_advance_1 : decode cX10_advance 1 = .ok (.iload_n 1, 1) := by decide +kernel
theorem dX10_advance_2 : decode cX10_advance 2 = .ok (.invokevirtual 87, 3) := by decide +kernel
theorem dX10_advance_5 : decode cX10_advance 5 = .ok (.astore_n 3, 1) := by decide +kernel
theorem dX10_advance_6 : decode cX10_advance 6 = .ok (.iload_n 2, 1) := by decide +kernel
theorem dX10_advance_7 : decode cX10_advance 7 = .ok (.iconst 1, 1) := by decide +kernel
theorem dX10_advance_8 : decode cX10_advance 8 = .ok (.ldc_w 416, 3) := by decide +kernel
theorem dX10_advance_11 : decode cX10_advance 11 = .ok (.invokestatic 92, 3) := by decide +kernel
theorem dX10_advance_14 : decode cX10_advance 14 = .ok (.aload_n 3, 1) := by decide +kernel
theorem dX10_advance_15 : decode cX10_advance 15 = .ok (.dup, 1) := by decide +kernel
theorem dX10_advance_16 : decode cX10_advance 16 = .ok (.getfield 417, 3) := by decide +kernel
theorem dX10_advance_19 : decode cX10_advance 19 = .ok (.iload_n 2, 1) := by decide +kernel
theorem dX10_advance_20 : decode cX10_advance 20 = .ok (.i2l, 1) := by decide +kernel
theorem dX10_advance_21 : decode cX10_advance 21 = .ok (.ladd, 1) := by decide +kernel
theorem dX10_advance_22 : decode cX10_advance 22 = .ok (.putfield 417, 3) := by decide +kernel
theorem dX10_advance_25 : decode cX10_advance 25 = .ok (.aload_n 0, 1) := by decide +kernel
theorem dX10_advance_26 : decode cX10_advance 26 = .ok (.bipush 6, 2) := by decide +kernel
theorem dX10_advance_28 : decode cX10_advance 28 = .ok (.iload_n 2, 1) := by decide +kernel
theorem dX10_advance_29 : decode cX10_advance 29 = .ok (.i2l, 1) := by decide +kernel
theorem dX10_advance_30 : decode cX10_advance 30 = .ok (.invokevirtual 389, 3) := by decide +kernel
theorem dX10_advance_33 : decode cX10_advance 33 = .ok (.aload_n 0, 1) := by decide +kernel
theorem dX10_advance_34 : decode cX10_advance 34 = .ok (.iconst 2, 1) := by decide +kernel
theorem dX10_advance_35 : decode cX10_advance 35 = .ok (.iload_n 2, 1) := by decide +kernel
theorem dX10_advance_36 : decode cX10_advance 36 = .ok (.ineg, 1) := by decide +kernel
theorem dX10_advance_37 : decode cX10_advance 37 = .ok (.i2l, 1) := by decide +kernel
theorem dX10_advance_38 : decode cX10_advance 38 = .ok (.invokevirtual 389, 3) := by decide +kernel
theorem dX10_advance_41 : decode cX10_advance 41 = .ok (.aload_n 3, 1) := by decide +kernel
theorem dX10_advance_42 : decode cX10_advance 42 = .ok (.getfield 417, 3) := by decide +kernel
theorem dX10_advance_45 : decode cX10_advance 45 = .ok (.lreturn, 1) := by decide +kernel
def k_advance (p1 : Int32) (p2 : Int32) (X : CX) (S : CT) : (Int64 × CT) ⊕ String :=
    if P_num p1 (nS X 20 0) then
      if P_in p2 1 1000000 then
        .inl (((cj S 198 p1) + (p2.toInt64)), (k_post 2 ((-p2).toInt64) X (k_post 6 (p2.toInt64) X (sj S 198 p1 ((cj S 198 p1) + (p2.toInt64))))))
      else
      .inr "java/lang/IllegalArgumentException"
    else
    .inr "java/lang/IndexOutOfBoundsException"
abbrev rm_X10_advance : Room := { frames := 8, cells := 0, slots := 0, locals := 134 }
abbrev rmt_X10_advance : Room := { frames := 8, cells := 1, slots := 6, locals := 134 }
set_option maxRecDepth 100000 in
set_option maxHeartbeats 4000000 in
theorem ck_advance {l : Launch} {k : KC} (hl : l.stackTraces = false) {X : CX} {S : CT} (hX : XOK X) {p1 : Int32} {p2 : Int32}  : MC l k yX10_advance (.code yX10_advance cX10_advance 4 (some .long)) rmt_X10_advance [(vr X 11 0), .int p1, .int p2] (cW k X S) (pOl k X S (k_advance p1 p2 X S)) := by
  refine MC.of 1 hl (by decide) (by simp only [lg_sl_vr, lg_sl_i, lg_sl_l, lg_sl_0]; exact Nat.le_of_ble_eq_true rfl) ?_
  intro p e s m args below meth c A Q G B B2 hout
  simp only [lp_args_vr, lp_args_i, lp_args_l, lp_args_0]
  show Wx p l e rmt_X10_advance s m args below meth c k A 4 Q 1 6 0 [some ((vr X 11 0)), some (.int p1), some (.int p2), none] [] (cW k X S)
  refine z_aload0 (pc := 0) G vr_r dX10_advance_0 ?_
  refine x_iload1 (pc := 1) G dX10_advance_1 ?_
  rcases Decidable.em (¬ (P_num p1 (nS X 20 0))) with c1 | c1
  · exact z_cVt1 (pc := 2) G kb_11 hX.1 hX.l11 B B2 hout (no_personAt hl hX  c1) rfl q_ml_X10_87 h_X10_personAt ⟨Nat.le_of_ble_eq_true rfl, Nat.le_of_ble_eq_true rfl⟩ (Nat.le_of_ble_eq_true rfl) (Nat.le_refl _) (Nat.le_refl _) dX10_advance_2 (by rw [k_advance, if_neg c1]; exact ⟨rfl, rfl⟩)
  have c1 := Decidable.not_not.mp c1
  refine z_cV1 (pc := 2) G kb_11 hX.1 hX.l11 (ok_personAt hl hX  c1) rfl q_ml_X10_87 h_X10_personAt ⟨Nat.le_of_ble_eq_true rfl, Nat.le_of_ble_eq_true rfl⟩ (Nat.le_of_ble_eq_true rfl) (Nat.le_refl _) (Nat.le_refl _) dX10_advance_2 ?_
  refine z_astore3 (pc := 5) G vr_r dX10_advance_5 (Nat.le_of_ble_eq_true rfl) rfl ?_
  refine x_iload2 (pc := 6) G dX10_advance_6 ?_
  refine x_iconst (pc := 7) (v := 1) G dX10_advance_7 ic_1 ?_
  refine x_ldcw (pc := 8) G q_cs_X10_416 dX10_advance_8 ?_
  rcases Decidable.em (¬ (P_in p2 1 1000000)) with c2 | c2
  · exact x_cSt3 (pc := 11) G B B2 hout (no_requireRange hl c2) q_ml_X10_92 h_X10_requireRange ⟨Nat.le_of_ble_eq_true rfl, Nat.le_of_ble_eq_true rfl⟩ (Nat.le_of_ble_eq_true rfl) (Nat.le_refl _) (Nat.le_refl _) dX10_advance_11 (by rw [k_advance, if_pos c1, if_neg c2]; exact ⟨rfl, rfl⟩)
  have c2 := Decidable.not_not.mp c2
  refine x_cSv3 (pc := 11) G (ok_requireRange hl c2) q_ml_X10_92 h_X10_requireRange ⟨Nat.le_of_ble_eq_true rfl, Nat.le_of_ble_eq_true rfl⟩ (Nat.le_of_ble_eq_true rfl) (Nat.le_refl _) (Nat.le_refl _) dX10_advance_11 ?_
  refine z_aload3 (pc := 14) G vr_r dX10_advance_14 ?_
  refine x_dup (pc := 15) G dX10_advance_15 vr_cat ?_
  refine z_g (pc := 16) (f := 198) (x := p1) (v := (.long (cj S 198 p1))) G kb_6 gb_X10_417 rfl hX.1 (hX.el20 c1) cr_198 dX10_advance_16 ?_
  refine x_iload2 (pc := 19) G dX10_advance_19 ?_
  refine x_i2l (pc := 20) G dX10_advance_20 ?_
  refine x_ladd (pc := 21) G dX10_advance_21 ?_
  refine z_pJ (pc := 22) (f := 198) G kb_6 gb_X10_417 rfl hX.1 (hX.el20 c1) rfl (cr_198.trans (congrArg Value.long cj_ss)) rfl rfl dX10_advance_22 ?_
  refine z_aload0 (pc := 25) G vr_r dX10_advance_25 ?_
  refine x_bipush (pc := 26) (v := 6) G dX10_advance_26 bp_6 ?_
  refine x_iload2 (pc := 28) G dX10_advance_28 ?_
  refine x_i2l (pc := 29) G dX10_advance_29 ?_
  refine z_cVv2 (pc := 30) G kb_11 hX.1 hX.l11 (ck_post hl hX  (by decide)) rfl q_ml_X10_389 h_X10_post ⟨Nat.le_of_ble_eq_true rfl, Nat.le_of_ble_eq_true rfl⟩ (Nat.le_of_ble_eq_true rfl) (Nat.le_refl _) (Nat.le_refl _) dX10_advance_30 ?_
  refine z_aload0 (pc := 33) G vr_r dX10_advance_33 ?_
  refine x_iconst (pc := 34) (v := 2) G dX10_advance_34 ic_2 ?_
  refine x_iload2 (pc := 35) G dX10_advance_35 ?_
  refine x_ineg (pc := 36) G dX10_advance_36 ?_
  refine x_i2l (pc := 37) G dX10_advance_37 ?_
  refine z_cVv2 (pc := 38) G kb_11 hX.1 hX.l11 (ck_post hl hX  (by decide)) rfl q_ml_X10_389 h_X10_post ⟨Nat.le_of_ble_eq_true rfl, Nat.le_of_ble_eq_true rfl⟩ (Nat.le_of_ble_eq_true rfl) (Nat.le_refl _) (Nat.le_refl _) dX10_advance_38 ?_
  refine z_aload3 (pc := 41) G vr_r dX10_advance_41 ?_
  refine z_g (pc := 42) (f := 198) (x := p1) (v := (.long ((cj S 198 p1) + (p2.toInt64)))) G kb_6 gb_X10_417 rfl hX.1 (hX.el20 c1) (cr_198.trans (congrArg Value.long ((cj_post rfl).trans ((cj_post rfl).trans cj_ss)))) dX10_advance_42 ?_
  exact x_lret (pc := 45) G B rfl dX10_advance_45 (by rw [k_advance, if_pos c1, if_pos c2]; exact ⟨rfl, rfl⟩)
theorem dX10_settle_0 : decode cX10_settle 0 = .ok (.aload_n 0, 1) := by decide +kernel
theorem dX10_settle_1 : decode cX10_settle 1 = .ok (.iload_n 1, 1) := by decide +kernel
theorem dX10_settle_2 : decode cX10_settle 2 = .ok (.invokevirtual 87, 3) := by decide +kernel
theorem dX10_settle_5 : decode cX10_settle 5 = .ok (.astore_n 2, 1) := by decide +kernel
theorem dX10_settle_6 : decode cX10_settle 6 = .ok (.aload_n 2, 1) := by decide +kernel
theorem dX10_settle_7 : decode cX10_settle 7 = .ok (.getfield 410, 3) := by decide +kernel
theorem dX10_settle_10 : decode cX10_settle 10 = .ok (.aload_n 2, 1) := by decide +kernel
theorem dX10_settle_11 : decode cX10_settle 11 = .ok (.getfield 417, 3) := by decide +kernel
theorem dX10_settle_14 : decode cX10_settle 14 = .ok (.lsub, 1) := by decide +kernel
theorem dX10_settle_15 : decode cX10_settle 15 = .ok (.lstore_n 3, 1) := by decide +kernel
theorem dX10_settle_16 : decode cX10_settle 16 = .ok (.aload_n 0, 1) := by decide +kernel
theorem dX10_settle_17 : decode cX10_settle 17 = .ok (.bipush 6, 2) := by decide +kernel
theorem dX10_settle_19 : decode cX10_settle 19 = .ok (.aload_n 2, 1) := by decide +kernel
theorem dX10_settle_20 : decode cX10_settle 20 = .ok (.getfield 417, 3) := by decide +kernel
theorem dX10_settle_23 : decode cX10_settle 23 = .ok (.lneg, 1) := by decide +kernel
theorem dX10_settle_24 : decode cX10_settle 24 = .ok (.invokevirtual 389, 3) := by decide +kernel
theorem dX10_settle_27 : decode cX10_settle 27 = .ok (.aload_n 0, 1) := by decide +kernel
theorem dX10_settle_28 : decode cX10_settle 28 = .ok (.bipush 8, 2) := by decide +kernel
theorem dX10_settle_30 : decode cX10_settle 30 = .ok (.aload_n 2, 1) := by decide +kernel
theorem dX10_settle_31 : decode cX10_settle 31 = .ok (.getfield 410, 3) := by decide +kernel
theorem dX10_settle_34 : decode cX10_settle 34 = .ok (.invokevirtual 389, 3) := by decide +kernel
theorem dX10_settle_37 : decode cX10_settle 37 = .ok (.aload_n 0, 1) := by decide +kernel
theorem dX10_settle_38 : decode cX10_settle 38 = .ok (.iconst 2, 1) := by decide +kernel
theorem dX10_settle_39 : decode cX10_settle 39 = .ok (.lload_n 3, 1) := by decide +kernel
theorem dX10_settle_40 : decode cX10_settle 40 = .ok (.lneg, 1) := by decide +kernel
theorem dX10_settle_41 : decode cX10_settle 41 = .ok (.invokevirtual 389, 3) := by decide +kernel
theorem dX10_settle_44 : decode cX10_settle 44 = .ok (.aload_n 2, 1) := by decide +kernel
theorem dX10_settle_45 : decode cX10_settle 45 = .ok (.lconst 0, 1) := by decide +kernel
theorem dX10_settle_46 : decode cX10_settle 46 = .ok (.putfield 410, 3) := by decide +kernel
theorem dX10_settle_49 : decode cX10_settle 49 = .ok (.aload_n 2, 1) := by decide +kernel
theorem dX10_settle_50 : decode cX10_settle 50 = .ok (.lconst 0, 1) := by decide +kernel
theorem dX10_settle_51 : decode cX10_settle 51 = .ok (.putfield 417, 3) := by decide +kernel
theorem dX10_settle_54 : decode cX10_settle 54 = .ok (.lload_n 3, 1) := by decide +kernel
theorem dX10_settle_55 : decode cX10_settle 55 = .ok (.lreturn, 1) := by decide +kernel
def k_settle (p1 : Int32) (X : CX) (S : CT) : (Int64 × CT) ⊕ String :=
    if P_num p1 (nS X 20 0) then
      .inl (((cj S 197 p1) - (cj S 198 p1)), (sj (sj (k_post 2 (-((cj S 197 p1) - (cj S 198 p1))) X (k_post 8 (cj S 197 p1) X (k_post 6 (-(cj S 198 p1)) X S))) 197 p1 0) 198 p1 0))
    else
    .inr "java/lang/IndexOutOfBoundsException"
abbrev rm_X10_settle : Room := { frames := 8, cells := 0, slots := 0, locals := 134 }
abbrev rmt_X10_settle : Room := { frames := 8, cells := 1, slots := 6, locals := 134 }
set_option maxRecDepth 100000 in
set_option maxHeartbeats 4000000 in
theorem ck_settle {l : Launch} {k : KC} (hl : l.stackTraces = false) {X : CX} {S : CT} (hX : XOK X) {p1 : Int32}  : MC l k yX10_settle (.code yX10_settle cX10_settle 5 (some .long)) rmt_X10_settle [(vr X 11 0), .int p1] (cW k X S) (pOl k X S (k_settle p1 X S)) := by
  refine MC.of 3 hl (by decide) (by simp only [lg_sl_vr, lg_sl_i, lg_sl_l, lg_sl_0]; exact Nat.le_of_ble_eq_true rfl) ?_
  intro p e s m args below meth c A Q G B B2 hout
  simp only [lp_args_vr, lp_args_i, lp_args_l, lp_args_0]
  show Wx p l e rmt_X10_settle s m args below meth c k A 5 Q 1 6 0 [some ((vr X 11 0)), some (.int p1), none, none, none] [] (cW k X S)
  refine z_aload0 (pc := 0) G vr_r dX10_settle_0 ?_
  refine x_iload1 (pc := 1) G dX10_settle_1 ?_
  rcases Decidable.em (¬ (P_num p1 (nS X 20 0))) with c1 | c1
  · exact z_cVt1 (pc := 2) G kb_11 hX.1 hX.l11 B B2 hout (no_personAt hl hX  c1) rfl q_ml_X10_87 h_X10_personAt ⟨Nat.le_of_ble_eq_true rfl, Nat.le_of_ble_eq_true rfl⟩ (Nat.le_of_ble_eq_true rfl) (Nat.le_refl _) (Nat.le_refl _) dX10_settle_2 (by rw [k_settle, if_neg c1]; exact ⟨rfl, rfl⟩)
  have c1 := Decidable.not_not.mp c1
  refine z_cV1 (pc := 2) G kb_11 hX.1 hX.l11 (ok_personAt hl hX  c1) rfl q_ml_X10_87 h_X10_personAt ⟨Nat.le_of_ble_eq_true rfl, Nat.le_of_ble_eq_true rfl⟩ (Nat.le_of_ble_eq_true rfl) (Nat.le_refl _) (Nat.le_refl _) dX10_settle_2 ?_
  refine z_astore2 (pc := 5) G vr_r dX10_settle_5 (Nat.le_of_ble_eq_true rfl) rfl ?_
  refine z_aload2 (pc := 6) G vr_r dX10_settle_6 ?_
  refine z_g (pc := 7) (f := 197) (x := p1) (v := (.long (cj S 197 p1))) G kb_6 gb_X10_410 rfl hX.1 (hX.el20 c1) cr_197 dX10_settle_7 ?_
  refine z_aload2 (pc := 10) G vr_r dX10_settle_10 ?_
  refine z_g (pc := 11) (f := 198) (x := p1) (v := (.long (cj S 198 p1))) G kb_6 gb_X10_417 rfl hX.1 (hX.el20 c1) cr_198 dX10_settle_11 ?_
  refine x_lsub (pc := 14) G dX10_settle_14 ?_
  refine x_lstore3 (pc := 15) G dX10_settle_15 (Nat.le_of_ble_eq_true rfl) lp_c2_vr ?_
  refine z_aload0 (pc := 16) G vr_r dX10_settle_16 ?_
  refine x_bipush (pc := 17) (v := 6) G dX10_settle_17 bp_6 ?_
  refine z_aload2 (pc := 19) G vr_r dX10_settle_19 ?_
  refine z_g (pc := 20) (f := 198) (x := p1) (v := (.long (cj S 198 p1))) G kb_6 gb_X10_417 rfl hX.1 (hX.el20 c1) cr_198 dX10_settle_20 ?_
  refine x_lneg (pc := 23) G dX10_settle_23 ?_
  refine z_cVv2 (pc := 24) G kb_11 hX.1 hX.l11 (ck_post hl hX  (by decide)) rfl q_ml_X10_389 h_X10_post ⟨Nat.le_of_ble_eq_true rfl, Nat.le_of_ble_eq_true rfl⟩ (Nat.le_of_ble_eq_true rfl) (Nat.le_refl _) (Nat.le_refl _) dX10_settle_24 ?_
  refine z_aload0 (pc := 27) G vr_r dX10_settle_27 ?_
  refine x_bipush (pc := 28) (v := 8) G dX10_settle_28 bp_8 ?_
  refine z_aload2 (pc := 30) G vr_r dX10_settle_30 ?_
  refine z_g (pc := 31) (f := 197) (x := p1) (v := (.long (cj S 197 p1))) G kb_6 gb_X10_410 rfl hX.1 (hX.el20 c1) (cr_197.trans (congrArg Value.long (cj_post rfl))) dX10_settle_31 ?_
  refine z_cVv2 (pc := 34) G kb_11 hX.1 hX.l11 (ck_post hl hX  (by decide)) rfl q_ml_X10_389 h_X10_post ⟨Nat.le_of_ble_eq_true rfl, Nat.le_of_ble_eq_true rfl⟩ (Nat.le_of_ble_eq_true rfl) (Nat.le_refl _) (Nat.le_refl _) dX10_settle_34 ?_
  refine z_aload0 (pc := 37) G vr_r dX10_settle_37 ?_
  refine x_iconst (pc := 38) (v := 2) G dX10_settle_38 ic_2 ?_
  refine x_lload3 (pc := 39) G dX10_settle_39 ?_
  refine x_lneg (pc := 40) G dX10_settle_40 ?_
  refine z_cVv2 (pc := 41) G kb_11 hX.1 hX.l11 (ck_post hl hX  (by decide)) rfl q_ml_X10_389 h_X10_post ⟨Nat.le_of_ble_eq_true rfl, Nat.le_of_ble_eq_true rfl⟩ (Nat.le_of_ble_eq_true rfl) (Nat.le_refl _) (Nat.le_refl _) dX10_settle_41 ?_
  refine z_aload2 (pc := 44) G vr_r dX10_settle_44 ?_
  refine x_lconst (pc := 45) (v := 0) G dX10_settle_45 lc_0 ?_
  refine z_pJ (pc := 46) (f := 197) G kb_6 gb_X10_410 rfl hX.1 (hX.el20 c1) rfl (cr_197.trans (congrArg Value.long cj_ss)) rfl rfl dX10_settle_46 ?_
  refine z_aload2 (pc := 49) G vr_r dX10_settle_49 ?_
  refine x_lconst (pc := 50) (v := 0) G dX10_settle_50 lc_0 ?_
  refine z_pJ (pc := 51) (f := 198) G kb_6 gb_X10_417 rfl hX.1 (hX.el20 c1) rfl (cr_198.trans (congrArg Value.long cj_ss)) rfl rfl dX10_settle_51 ?_
  refine x_lload3 (pc := 54) G dX10_settle_54 ?_
  exact x_lret (pc := 55) G B rfl dX10_settle_55 (by rw [k_settle, if_pos c1]; exact ⟨rfl, rfl⟩)
theorem dX10_tell_0 : decode cX10_tell 0 = .ok (.aload_n 0, 1) := by decide +kernel
theorem dX10_tell_1 : decode cX10_tell 1 = .ok (.iload_n 1, 1) := by decide +kernel
theorem dX10_tell_2 : decode cX10_tell 2 = .ok (.invokevirtual 427, 3) := by decide +kernel
theorem dX10_tell_5 : decode cX10_tell 5 = .ok (.astore 4, 2) := by decide +kernel
theorem dX10_tell_7 : decode cX10_tell 7 = .ok (.aload_n 0, 1) := by decide +kernel
theorem dX10_tell_8 : decode cX10_tell 8 = .ok (.iload_n 2, 1) := by decide +kernel
theorem dX10_tell_9 : decode cX10_tell 9 = .ok (.invokevirtual 144, 3) := by decide +kernel
theorem dX10_tell_12 : decode cX10_tell 12 = .ok (.astore 5, 2) := by decide +kernel
theorem dX10_tell_14 : decode cX10_tell 14 = .ok (.iload_n 3, 1) := by decide +kernel
theorem dX10_tell_15 : decode cX10_tell 15 = .ok (.iconst 0, 1) := by decide +kernel
theorem dX10_tell_16 : decode cX10_tell 16 = .ok (.aload 4, 2) := by decide +kernel
theorem dX10_tell_18 : decode cX10_tell 18 = .ok (.getfield 431, 3) := by decide +kernel
theorem dX10_tell_21 : decode cX10_tell 21 = .ok (.invokestatic 92, 3) := by decide +kernel
theorem dX10_tell_24 : decode cX10_tell 24 = .ok (.aload 4, 2) := by decide +kernel
theorem dX10_tell_26 : decode cX10_tell 26 = .ok (.getfield 434, 3) := by decide +kernel
theorem dX10_tell_29 : decode cX10_tell 29 = .ok (.ifCond .eq 14, 3) := by decide +kernel
theorem dX10_tell_32 : decode cX10_tell 32 = .ok (.new 100, 3) := by decide +kernel
theorem dX10_tell_35 : decode cX10_tell 35 = .ok (.dup, 1) := by decide +kernel
theorem dX10_tell_36 : decode cX10_tell 36 = .ok (.ldc_w 437, 3) := by decide +kernel
theorem dX10_tell_39 : decode cX10_tell 39 = .ok (.invokespecial 104, 3) := by decide +kernel
theorem dX10_tell_42 : decode cX10_tell 42 = .ok (.athrow, 1) := by decide +kernel
theorem dX10_tell_43 : decode cX10_tell 43 = .ok (.aload 4, 2) := by decide +kernel
theorem dX10_tell_45 : decode cX10_tell 45 = .ok (.getfield 431, 3) := by decide +kernel
theorem dX10_tell_48 : decode cX10_tell 48 = .ok (.iload_n 3, 1) := by decide +kernel
theorem dX10_tell_49 : decode cX10_tell 49 = .ok (.isub, 1) := by decide +kernel
theorem dX10_tell_50 : decode cX10_tell 50 = .ok (.istore 6, 2) := by decide +kernel
theorem dX10_tell_52 : decode cX10_tell 52 = .ok (.aload 5, 2) := by decide +kernel
theorem dX10_tell_54 : decode cX10_tell 54 = .ok (.aload_n 0, 1) := by decide +kernel
theorem dX10_tell_55 : decode cX10_tell 55 = .ok (.invokevirtual 190, 3) := by decide +kernel
theorem dX10_tell_58 : decode cX10_tell 58 = .ok (.iload 6, 2) := by decide +kernel
theorem dX10_tell_60 : decode cX10_tell 60 = .ok (.i2l, 1) := by decide +kernel
theorem dX10_tell_61 : decode cX10_tell 61 = .ok (.invokestatic 235, 3) := by decide +kernel
theorem dX10_tell_64 : decode cX10_tell 64 = .ok (.aload 4, 2) := by decide +kernel
theorem dX10_tell_66 : decode cX10_tell 66 = .ok (.iconst 1, 1) := by decide +kernel
theorem dX10_tell_67 : decode cX10_tell 67 = .ok (.putfield 434, 3) := by decide +kernel
theorem dX10_tell_70 : decode cX10_tell 70 = .ok (.aload_n 0, 1) := by decide +kernel
theorem dX10_tell_71 : decode cX10_tell 71 = .ok (.aload 5, 2) := by decide +kernel
theorem dX10_tell_73 : decode cX10_tell 73 = .ok (.iload 6, 2) := by decide +kernel
theorem dX10_tell_75 : decode cX10_tell 75 = .ok (.i2l, 1) := by decide +kernel
theorem dX10_tell_76 : decode cX10_tell 76 = .ok (.invokevirtual 406, 3) := by decide +kernel
theorem dX10_tell_79 : decode cX10_tell 79 = .ok (.aload 4, 2) := by decide +kernel
theorem dX10_tell_81 : decode cX10_tell 81 = .ok (.getfield 439, 3) := by decide +kernel
theorem dX10_tell_84 : decode cX10_tell 84 = .ok (.dup, 1) := by decide +kernel
theorem dX10_tell_85 : decode cX10_tell 85 = .ok (.getfield 410, 3) := by decide +kernel
theorem dX10_tell_88 : decode cX10_tell 88 = .ok (.iload_n 3, 1) := by decide +kernel
theorem dX10_tell_89 : decode cX10_tell 89 = .ok (.i2l, 1) := by decide +kernel
theorem dX10_tell_90 : decode cX10_tell 90 = .ok (.lsub, 1) := by decide +kernel
theorem dX10_tell_91 : decode cX10_tell 91 = .ok (.putfield 410, 3) := by decide +kernel
theorem dX10_tell_94 : decode cX10_tell 94 = .ok (.aload_n 0, 1) := by decide +kernel
theorem dX10_tell_95 : decode cX10_tell 95 = .ok (.dup, 1) := by decide +kernel
theorem dX10_tell_96 : decode cX10_tell 96 = .ok (.getfield 62, 3) := by decide +kernel
theorem dX10_tell_99 : decode cX10_tell 99 = .ok (.aload 4, 2) := by decide +kernel
theorem dX10_tell_101 : decode cX10_tell 101 = .ok (.getfield 431, 3) := by decide +kernel
theorem dX10_tell_104 : decode cX10_tell 104 = .ok (.i2l, 1) := by decide +kernel
theorem dX10_tell_105 : decode cX10_tell 105 = .ok (.ladd, 1) := by decide +kernel
theorem dX10_tell_106 : decode cX10_tell 106 = .ok (.putfield 62, 3) := by decide +kernel
theorem dX10_tell_109 : decode cX10_tell 109 = .ok (.aload_n 0, 1) := by decide +kernel
theorem dX10_tell_110 : decode cX10_tell 110 = .ok (.iconst 0, 1) := by decide +kernel
theorem dX10_tell_111 : decode cX10_tell 111 = .ok (.iload 6, 2) := by decide +kernel
theorem dX10_tell_113 : decode cX10_tell 113 = .ok (.i2l, 1) := by decide +kernel
theorem dX10_tell_114 : decode cX10_tell 114 = .ok (.invokevirtual 389, 3) := by decide +kernel
theorem dX10_tell_117 : decode cX10_tell 117 = .ok (.aload_n 0, 1) := by decide +kernel
theorem dX10_tell_118 : decode cX10_tell 118 = .ok (.bipush 8, 2) := by decide +kernel
theorem dX10_tell_120 : decode cX10_tell 120 = .ok (.iload_n 3, 1) := by decide +kernel
theorem dX10_tell_121 : decode cX10_tell 121 = .ok (.i2l, 1) := by decide +kernel
theorem dX10_tell_122 : decode cX10_tell 122 = .ok (.invokevirtual 389, 3) := by decide +kernel
theorem dX10_tell_125 : decode cX10_tell 125 = .ok (.aload_n 0, 1) := by decide +kernel
theorem dX10_tell_126 : decode cX10_tell 126 = .ok (.bipush 7, 2) := by decide +kernel
theorem dX10_tell_128 : decode cX10_tell 128 = .ok (.aload 4, 2) := by decide +kernel
theorem dX10_tell_130 : decode cX10_tell 130 = .ok (.getfield 431, 3) := by decide +kernel
theorem dX10_tell_133 : decode cX10_tell 133 = .ok (.ineg, 1) := by decide +kernel
theorem dX10_tell_134 : decode cX10_tell 134 = .ok (.i2l, 1) := by decide +kernel
theorem dX10_tell_135 : decode cX10_tell 135 = .ok (.invokevirtual 389, 3) := by decide +kernel
theorem dX10_tell_138 : decode cX10_tell 138 = .ok (.iload 6, 2) := by decide +kernel
theorem dX10_tell_140 : decode cX10_tell 140 = .ok (.i2l, 1) := by decide +kernel
theorem dX10_tell_141 : decode cX10_tell 141 = .ok (.lreturn, 1) := by decide +kernel
def k_tell (p1 : Int32) (p2 : Int32) (p3 : Int32) (X : CX) (S : CT) : (Int64 × CT) ⊕ String :=
    if P_num p1 (nS X 27 0) then
      if P_num p2 (nS X 21 0) then
        if P_in p3 0 (xi X 65 p1) then
          if (ci S 66 p1) = 0 then
            if ¬ ci S 33 p2 = 0 ∨ (((xi X 65 p1) - p3).toInt64) ≤ k_free (3 * p2 + (k_thisYear X S)) X S then
              .inl ((((xi X 65 p1) - p3).toInt64), (k_post 7 ((-(xi X 65 p1)).toInt64) X (k_post 8 (p3.toInt64) X (k_post 0 (((xi X 65 p1) - p3).toInt64) X (sj (sj (k_spend p2 (((xi X 65 p1) - p3).toInt64) X (si S 66 p1 1)) 197 (xi X 64 p1) ((cj S 197 (xi X 64 p1)) - (p3.toInt64))) 367 0 ((cj S 367 0) + ((xi X 65 p1).toInt64)))))))
            else
            .inr "java/lang/IllegalStateException"
          else
          .inr "java/lang/IllegalStateException"
        else
        .inr "java/lang/IllegalArgumentException"
      else
      .inr "java/lang/IndexOutOfBoundsException"
    else
    .inr "java/lang/IndexOutOfBoundsException"
abbrev rm_X10_tell : Room := { frames := 9, cells := 0, slots := 0, locals := 155 }
abbrev rmt_X10_tell : Room := { frames := 9, cells := 1, slots := 6, locals := 155 }
set_option maxRecDepth 100000 in
set_option maxHeartbeats 4000000 in
theorem ck_tell {l : Launch} {k : KC} (hl : l.stackTraces = false) {X : CX} {S : CT} (hX : XOK X) {p1 : Int32} {p2 : Int32} {p3 : Int32} (hC : LC X S)  : MC l k yX10_tell (.code yX10_tell cX10_tell 7 (some .long)) rmt_X10_tell [(vr X 11 0), .int p1, .int p2, .int p3] (cW k X S) (pOl k X S (k_tell p1 p2 p3 X S)) := by
  refine MC.of 3 hl (by decide) (by simp only [lg_sl_vr, lg_sl_i, lg_sl_l, lg_sl_0]; exact Nat.le_of_ble_eq_true rfl) ?_
  intro p e s m args below meth c A Q G B B2 hout
  simp only [lp_args_vr, lp_args_i, lp_args_l, lp_args_0]
  show Wx p l e rmt_X10_tell s m args below meth c k A 7 Q 1 6 0 [some ((vr X 11 0)), some (.int p1), some (.int p2), some (.int p3), none, none, none] [] (cW k X S)
  refine z_aload0 (pc := 0) G vr_r dX10_tell_0 ?_
  refine x_iload1 (pc := 1) G dX10_tell_1 ?_
  rcases Decidable.em (¬ (P_num p1 (nS X 27 0))) with c1 | c1
  · exact z_cVt1 (pc := 2) G kb_11 hX.1 hX.l11 B B2 hout (no_entryAt hl hX  c1) rfl q_ml_X10_427 h_X10_entryAt ⟨Nat.le_of_ble_eq_true rfl, Nat.le_of_ble_eq_true rfl⟩ (Nat.le_of_ble_eq_true rfl) (Nat.le_refl _) (Nat.le_refl _) dX10_tell_2 (by rw [k_tell, if_neg c1]; exact ⟨rfl, rfl⟩)
  have c1 := Decidable.not_not.mp c1
  refine z_cV1 (pc := 2) G kb_11 hX.1 hX.l11 (ok_entryAt hl hX  c1) rfl q_ml_X10_427 h_X10_entryAt ⟨Nat.le_of_ble_eq_true rfl, Nat.le_of_ble_eq_true rfl⟩ (Nat.le_of_ble_eq_true rfl) (Nat.le_refl _) (Nat.le_refl _) dX10_tell_2 ?_
  refine z_astore4 (pc := 5) G vr_r dX10_tell_5 (Nat.le_of_ble_eq_true rfl) rfl ?_
  refine z_aload0 (pc := 7) G vr_r dX10_tell_7 ?_
  refine x_iload2 (pc := 8) G dX10_tell_8 ?_
  rcases Decidable.em (¬ (P_num p2 (nS X 21 0))) with c2 | c2
  · exact z_cVt1 (pc := 9) G kb_11 hX.1 hX.l11 B B2 hout (no_centreAt hl hX  c2) rfl q_ml_X10_144 h_X10_centreAt ⟨Nat.le_of_ble_eq_true rfl, Nat.le_of_ble_eq_true rfl⟩ (Nat.le_of_ble_eq_true rfl) (Nat.le_refl _) (Nat.le_refl _) dX10_tell_9 (by rw [k_tell, if_pos c1, if_neg c2]; exact ⟨rfl, rfl⟩)
  have c2 := Decidable.not_not.mp c2
  refine z_cV1 (pc := 9) G kb_11 hX.1 hX.l11 (ok_centreAt hl hX  c2) rfl q_ml_X10_144 h_X10_centreAt ⟨Nat.le_of_ble_eq_true rfl, Nat.le_of_ble_eq_true rfl⟩ (Nat.le_of_ble_eq_true rfl) (Nat.le_refl _) (Nat.le_refl _) dX10_tell_9 ?_
  refine z_astore5 (pc := 12) G vr_r dX10_tell_12 (Nat.le_of_ble_eq_true rfl) lp_c2_vr ?_
  refine x_iload3 (pc := 14) G dX10_tell_14 ?_
  refine x_iconst (pc := 15) (v := 0) G dX10_tell_15 ic_0 ?_
  refine z_aload4 (pc := 16) G vr_r dX10_tell_16 ?_
  refine z_g (pc := 18) (f := 65) (x := p1) (v := (.int (xi X 65 p1))) G kb_2 gb_X10_431 rfl hX.1 (hX.el27 c1) cr_65 dX10_tell_18 ?_
  rcases Decidable.em (¬ (P_in p3 0 (xi X 65 p1))) with c3 | c3
  · exact x_cSt3 (pc := 21) G B B2 hout (no_requireRange hl c3) q_ml_X10_92 h_X10_requireRange ⟨Nat.le_of_ble_eq_true rfl, Nat.le_of_ble_eq_true rfl⟩ (Nat.le_of_ble_eq_true rfl) (Nat.le_refl _) (Nat.le_refl _) dX10_tell_21 (by rw [k_tell, if_pos c1, if_pos c2, if_neg c3]; exact ⟨rfl, rfl⟩)
  have c3 := Decidable.not_not.mp c3
  refine x_cSv3 (pc := 21) G (ok_requireRange hl c3) q_ml_X10_92 h_X10_requireRange ⟨Nat.le_of_ble_eq_true rfl, Nat.le_of_ble_eq_true rfl⟩ (Nat.le_of_ble_eq_true rfl) (Nat.le_refl _) (Nat.le_refl _) dX10_tell_21 ?_
  refine z_aload4 (pc := 24) G vr_r dX10_tell_24 ?_
  refine z_g (pc := 26) (f := 66) (x := p1) (v := (.int (ci S 66 p1))) G kb_2 gb_X10_434 rfl hX.1 (hX.el27 c1) cr_66 dX10_tell_26 ?_
  refine x_if_eq (pc := 29) (y := 0) (tgt := 43) G dX10_tell_29 rfl (fun c4 => ?_) (fun c4 => ?_)
  · refine z_aload4 (pc := 43) G vr_r dX10_tell_43 ?_
    refine z_g (pc := 45) (f := 65) (x := p1) (v := (.int (xi X 65 p1))) G kb_2 gb_X10_431 rfl hX.1 (hX.el27 c1) cr_65 dX10_tell_45 ?_
    refine x_iload3 (pc := 48) G dX10_tell_48 ?_
    refine x_isub (pc := 49) G dX10_tell_49 ?_
    refine x_istore6 (pc := 50) G dX10_tell_50 (Nat.le_of_ble_eq_true rfl) lp_c2_vr ?_
    refine z_aload5 (pc := 52) G vr_r dX10_tell_52 ?_
    refine z_aload0 (pc := 54) G vr_r dX10_tell_54 ?_
    refine z_cV0 (pc := 55) G kb_11 hX.1 hX.l11 (ck_thisYear hl hX  ) rfl q_ml_X10_190 h_X10_thisYear ⟨Nat.le_of_ble_eq_true rfl, Nat.le_of_ble_eq_true rfl⟩ (by simp only [List.map_cons, List.map_nil, vr_cat]; exact Nat.le_of_ble_eq_true rfl) (Nat.le_refl _) (Nat.le_refl _) dX10_tell_55 ?_
    refine x_iload6 (pc := 58) G dX10_tell_58 ?_
    refine x_i2l (pc := 60) G dX10_tell_60 ?_
    rcases Decidable.em (¬ (¬ ci S 33 p2 = 0 ∨ (((xi X 65 p1) - p3).toInt64) ≤ k_free (3 * p2 + (k_thisYear X S)) X S)) with c5 | c5
    · exact x_cSt3 (pc := 61) G B B2 hout (no_requireFree hl hX (hX.el21 c2) (hC.1 _ (hX.el21 c2)) c5) q_ml_X10_235 h_X10_requireFree ⟨Nat.le_of_ble_eq_true rfl, Nat.le_of_ble_eq_true rfl⟩ (Nat.le_of_ble_eq_true rfl) (Nat.le_refl _) (Nat.le_refl _) dX10_tell_61 (by rw [k_tell, if_pos c1, if_pos c2, if_pos c3, if_pos c4, if_neg c5]; exact ⟨rfl, rfl⟩)
    have c5 := Decidable.not_not.mp c5
    refine x_cSv3 (pc := 61) G (ok_requireFree hl hX (hX.el21 c2) (hC.1 _ (hX.el21 c2)) c5) q_ml_X10_235 h_X10_requireFree ⟨Nat.le_of_ble_eq_true rfl, Nat.le_of_ble_eq_true rfl⟩ (Nat.le_of_ble_eq_true rfl) (Nat.le_refl _) (Nat.le_refl _) dX10_tell_61 ?_
    refine z_aload4 (pc := 64) G vr_r dX10_tell_64 ?_
    refine x_iconst (pc := 66) (v := 1) G dX10_tell_66 ic_1 ?_
    refine z_pI (pc := 67) (f := 66) G kb_2 gb_X10_434 rfl hX.1 (hX.el27 c1) rfl (cr_66.trans (congrArg Value.int ci_ss)) (by decide) rfl dX10_tell_67 ?_
    refine z_aload0 (pc := 70) G vr_r dX10_tell_70 ?_
    refine z_aload5 (pc := 71) G vr_r dX10_tell_71 ?_
    refine x_iload6 (pc := 73) G dX10_tell_73 ?_
    refine x_i2l (pc := 75) G dX10_tell_75 ?_
    refine z_cVv2 (pc := 76) G kb_11 hX.1 hX.l11 (ck_spend hl hX (hX.el21 c2) (ty_of (ci_sn rfl) (hC.1 _ (hX.el21 c2)))) rfl q_ml_X10_406 h_X10_spend ⟨Nat.le_of_ble_eq_true rfl, Nat.le_of_ble_eq_true rfl⟩ (Nat.le_of_ble_eq_true rfl) (Nat.le_refl _) (Nat.le_refl _) dX10_tell_76 ?_
    refine z_aload4 (pc := 79) G vr_r dX10_tell_79 ?_
    refine z_g (pc := 81) (f := 64) (x := p1) (v := (vr X 6 (xi X 64 p1))) G kb_2 gb_X10_439 rfl hX.1 (hX.el27 c1) cr_64 dX10_tell_81 ?_
    refine x_dup (pc := 84) G dX10_tell_84 vr_cat ?_
    refine z_g (pc := 85) (f := 197) (x := (xi X 64 p1)) (v := (.long (cj S 197 (xi X 64 p1)))) G kb_6 gb_X10_410 rfl hX.1 (hX.enH (hX.el27 c1)) (cr_197.trans (congrArg Value.long ((cj_spend rfl).trans cj_i))) dX10_tell_85 ?_
    refine x_iload3 (pc := 88) G dX10_tell_88 ?_
    refine x_i2l (pc := 89) G dX10_tell_89 ?_
    refine x_lsub (pc := 90) G dX10_tell_90 ?_
    refine z_pJ (pc := 91) (f := 197) G kb_6 gb_X10_410 rfl hX.1 (hX.enH (hX.el27 c1)) rfl (cr_197.trans (congrArg Value.long cj_ss)) rfl rfl dX10_tell_91 ?_
    refine z_aload0 (pc := 94) G vr_r dX10_tell_94 ?_
    refine x_dup (pc := 95) G dX10_tell_95 vr_cat ?_
    refine z_g (pc := 96) (f := 367) (x := 0) (v := (.long (cj S 367 0))) G kb_11 gb_X10_62 rfl hX.1 hX.l11 (cr_367.trans (congrArg Value.long ((cj_sn rfl).trans ((cj_spend rfl).trans cj_i)))) dX10_tell_96 ?_
    refine z_aload4 (pc := 99) G vr_r dX10_tell_99 ?_
    refine z_g (pc := 101) (f := 65) (x := p1) (v := (.int (xi X 65 p1))) G kb_2 gb_X10_431 rfl hX.1 (hX.el27 c1) cr_65 dX10_tell_101 ?_
    refine x_i2l (pc := 104) G dX10_tell_104 ?_
    refine x_ladd (pc := 105) G dX10_tell_105 ?_
    refine z_pJ (pc := 106) (f := 367) G kb_11 gb_X10_62 rfl hX.1 hX.l11 rfl (cr_367.trans (congrArg Value.long cj_ss)) rfl rfl dX10_tell_106 ?_
    refine z_aload0 (pc := 109) G vr_r dX10_tell_109 ?_
    refine x_iconst (pc := 110) (v := 0) G dX10_tell_110 ic_0 ?_
    refine x_iload6 (pc := 111) G dX10_tell_111 ?_
    refine x_i2l (pc := 113) G dX10_tell_113 ?_
    refine z_cVv2 (pc := 114) G kb_11 hX.1 hX.l11 (ck_post hl hX  (by decide)) rfl q_ml_X10_389 h_X10_post ⟨Nat.le_of_ble_eq_true rfl, Nat.le_of_ble_eq_true rfl⟩ (Nat.le_of_ble_eq_true rfl) (Nat.le_refl _) (Nat.le_refl _) dX10_tell_114 ?_
    refine z_aload0 (pc := 117) G vr_r dX10_tell_117 ?_
    refine x_bipush (pc := 118) (v := 8) G dX10_tell_118 bp_8 ?_
    refine x_iload3 (pc := 120) G dX10_tell_120 ?_
    refine x_i2l (pc := 121) G dX10_tell_121 ?_
    refine z_cVv2 (pc := 122) G kb_11 hX.1 hX.l11 (ck_post hl hX  (by decide)) rfl q_ml_X10_389 h_X10_post ⟨Nat.le_of_ble_eq_true rfl, Nat.le_of_ble_eq_true rfl⟩ (Nat.le_of_ble_eq_true rfl) (Nat.le_refl _) (Nat.le_refl _) dX10_tell_122 ?_
    refine z_aload0 (pc := 125) G vr_r dX10_tell_125 ?_
    refine x_bipush (pc := 126) (v := 7) G dX10_tell_126 bp_7 ?_
    refine z_aload4 (pc := 128) G vr_r dX10_tell_128 ?_
    refine z_g (pc := 130) (f := 65) (x := p1) (v := (.int (xi X 65 p1))) G kb_2 gb_X10_431 rfl hX.1 (hX.el27 c1) cr_65 dX10_tell_130 ?_
    refine x_ineg (pc := 133) G dX10_tell_133 ?_
    refine x_i2l (pc := 134) G dX10_tell_134 ?_
    refine z_cVv2 (pc := 135) G kb_11 hX.1 hX.l11 (ck_post hl hX  (by decide)) rfl q_ml_X10_389 h_X10_post ⟨Nat.le_of_ble_eq_true rfl, Nat.le_of_ble_eq_true rfl⟩ (Nat.le_of_ble_eq_true rfl) (Nat.le_refl _) (Nat.le_refl _) dX10_tell_135 ?_
    refine x_iload6 (pc := 138) G dX10_tell_138 ?_
    refine x_i2l (pc := 140) G dX10_tell_140 ?_
    exact x_lret (pc := 141) G B rfl dX10_tell_141 (by rw [k_tell, if_pos c1, if_pos c2, if_pos c3, if_pos c4, if_pos c5]; exact ⟨rfl, rfl⟩)
  exact z_ISE (pc := 32) G B B2 hout (is := 437) (text := "it was told") (by decide +kernel) dX10_tell_32 dX10_tell_35 (Or.inr ⟨dX10_tell_36, dX10_tell_39, dX10_tell_42⟩) ⟨Nat.le_of_ble_eq_true rfl, Nat.le_of_ble_eq_true rfl⟩ (Nat.le_of_ble_eq_true rfl) (Nat.le_of_ble_eq_true rfl) (by rw [k_tell, if_pos c1, if_pos c2, if_pos c3, if_neg c4]; exact ⟨rfl, rfl⟩)
theorem dX10_payCard_0 : decode cX10_payCard 0 = .ok (.aload_n 0, 1) := by decide +kernel
theorem dX10_payCard_1 : decode cX10_payCard 1 = .ok (.getfield 62, 3) := by decide +kernel
theorem dX10_payCard_4 : decode cX10_payCard 4 = .ok (.lstore_n 1, 1) := by decide +kernel
theorem dX10_payCard_5 : decode cX10_payCard 5 = .ok (.aload_n 0, 1) := by decide +kernel
theorem dX10_payCard_6 : decode cX10_payCard 6 = .ok (.lconst 0, 1) := by decide +kernel
theorem dX10_payCard_7 : decode cX10_payCard 7 = .ok (.putfield 62, 3) := by decide +kernel
theorem dX10_payCard_10 : decode cX10_payCard 10 = .ok (.aload_n 0, 1) := by decide +kernel
theorem dX10_payCard_11 : decode cX10_payCard 11 = .ok (.bipush 7, 2) := by decide +kernel
theorem dX10_payCard_13 : decode cX10_payCard 13 = .ok (.lload_n 1, 1) := by decide +kernel
theorem dX10_payCard_14 : decode cX10_payCard 14 = .ok (.invokevirtual 389, 3) := by decide +kernel
theorem dX10_payCard_17 : decode cX10_payCard 17 = .ok (.aload_n 0, 1) := by decide +kernel
theorem dX10_payCard_18 : decode cX10_payCard 18 = .ok (.iconst 2, 1) := by decide +kernel
theorem dX10_payCard_19 : decode cX10_payCard 19 = .ok (.lload_n 1, 1) := by decide +kernel
theorem dX10_payCard_20 : decode cX10_payCard 20 = .ok (.lneg, 1) := by decide +kernel
theorem dX10_payCard_21 : decode cX10_payCard 21 = .ok (.invokevirtual 389, 3) := by decide +kernel
theorem dX10_payCard_24 : decode cX10_payCard 24 = .ok (.lload_n 1, 1) := by decide +kernel
theorem dX10_payCard_25 : decode cX10_payCard 25 = .ok (.lreturn, 1) := by decide +kernel
def k_payCard  (X : CX) (S : CT) : Int64 × CT :=
    ((cj S 367 0), (k_post 2 (-(cj S 367 0)) X (k_post 7 (cj S 367 0) X (sj S 367 0 0))))
abbrev rm_X10_payCard : Room := { frames := 8, cells := 0, slots := 0, locals := 134 }
set_option maxRecDepth 100000 in
set_option maxHeartbeats 4000000 in
theorem ck_payCard {l : Launch} {k : KC} (hl : l.stackTraces = false) {X : CX} {S : CT} (hX : XOK X)   : MC l k yX10_payCard (.code yX10_payCard cX10_payCard 3 (some .long)) rm_X10_payCard [(vr X 11 0)] (cW k X S) (pR (some (.long (k_payCard X S).1)) (cW k X (k_payCard X S).2)) := by
  refine MC.of 2 hl (by decide) (by simp only [lg_sl_vr, lg_sl_i, lg_sl_l, lg_sl_0]; exact Nat.le_of_ble_eq_true rfl) ?_
  intro p e s m args below meth c A Q G B B2 hout
  simp only [lp_args_vr, lp_args_i, lp_args_l, lp_args_0]
  show Wx p l e rm_X10_payCard s m args below meth c k A 3 Q 0 0 0 [some ((vr X 11 0)), none, none] [] (cW k X S)
  refine z_aload0 (pc := 0) G vr_r dX10_payCard_0 ?_
  refine z_g (pc := 1) (f := 367) (x := 0) (v := (.long (cj S 367 0))) G kb_11 gb_X10_62 rfl hX.1 hX.l11 cr_367 dX10_payCard_1 ?_
  refine x_lstore1 (pc := 4) G dX10_payCard_4 (Nat.le_of_ble_eq_true rfl) lp_c2_vr ?_
  refine z_aload0 (pc := 5) G vr_r dX10_payCard_5 ?_
  refine x_lconst (pc := 6) (v := 0) G dX10_payCard_6 lc_0 ?_
  refine z_pJ (pc := 7) (f := 367) G kb_11 gb_X10_62 rfl hX.1 hX.l11 rfl (cr_367.trans (congrArg Value.long cj_ss)) rfl rfl dX10_payCard_7 ?_
  refine z_aload0 (pc := 10) G vr_r dX10_payCard_10 ?_
  refine x_bipush (pc := 11) (v := 7) G dX10_payCard_11 bp_7 ?_
  refine x_lload1 (pc := 13) G dX10_payCard_13 ?_
  refine z_cVv2 (pc := 14) G kb_11 hX.1 hX.l11 (ck_post hl hX  (by decide)) rfl q_ml_X10_389 h_X10_post ⟨Nat.le_of_ble_eq_true rfl, Nat.le_of_ble_eq_true rfl⟩ (Nat.le_of_ble_eq_true rfl) (Nat.le_refl _) (Nat.le_refl _) dX10_payCard_14 ?_
  refine z_aload0 (pc := 17) G vr_r dX10_payCard_17 ?_
  refine x_iconst (pc := 18) (v := 2) G dX10_payCard_18 ic_2 ?_
  refine x_lload1 (pc := 19) G dX10_payCard_19 ?_
  refine x_lneg (pc := 20) G dX10_payCard_20 ?_
  refine z_cVv2 (pc := 21) G kb_11 hX.1 hX.l11 (ck_post hl hX  (by decide)) rfl q_ml_X10_389 h_X10_post ⟨Nat.le_of_ble_eq_true rfl, Nat.le_of_ble_eq_true rfl⟩ (Nat.le_of_ble_eq_true rfl) (Nat.le_refl _) (Nat.le_refl _) dX10_payCard_21 ?_
  refine x_lload1 (pc := 24) G dX10_payCard_24 ?_
  exact x_lret (pc := 25) G B rfl dX10_payCard_25 ⟨by rw [k_payCard], by rw [k_payCard]⟩
theorem dX10_sample_0 : decode cX10_sample 0 = .ok (.iload_n 2, 1) := by decide +kernel
theorem dX10_sample_1 : decode cX10_sample 1 = .ok (.iconst 0, 1) := by decide +kernel
theorem dX10_sample_2 : decode cX10_sample 2 = .ok (.bipush 100, 2) := by decide +kernel
theorem dX10_sample_4 : decode cX10_sample 4 = .ok (.invokestatic 92, 3) := by decide +kernel
theorem dX10_sample_7 : decode cX10_sample 7 = .ok (.aload_n 0, 1) := by decide +kernel
theorem dX10_sample_8 : decode cX10_sample 8 = .ok (.iload_n 1, 1) := by decide +kernel
theorem dX10_sample_9 : decode cX10_sample 9 = .ok (.putfield 66, 3) := by decide +kernel
theorem dX10_sample_12 : decode cX10_sample 12 = .ok (.aload_n 0, 1) := by decide +kernel
theorem dX10_sample_13 : decode cX10_sample 13 = .ok (.iload_n 2, 1) := by decide +kernel
theorem dX10_sample_14 : decode cX10_sample 14 = .ok (.putfield 69, 3) := by decide +kernel
theorem dX10_sample_17 : decode cX10_sample 17 = .ok (.return_, 1) := by decide +kernel
def k_sample (p1 : Int32) (p2 : Int32) (X : CX) (S : CT) : CT ⊕ String :=
    if P_in p2 0 100 then
      .inl (si (si S 368 0 p1) 369 0 p2)
    else
    .inr "java/lang/IllegalArgumentException"
abbrev rm_X10_sample : Room := { frames := 7, cells := 0, slots := 0, locals := 112 }
abbrev rmt_X10_sample : Room := { frames := 7, cells := 1, slots := 6, locals := 112 }
set_option maxRecDepth 100000 in
set_option maxHeartbeats 4000000 in
theorem ck_sample {l : Launch} {k : KC} (hl : l.stackTraces = false) {X : CX} {S : CT} (hX : XOK X) {p1 : Int32} {p2 : Int32}  : MC l k yX10_sample (.code yX10_sample cX10_sample 3 none) rmt_X10_sample [(vr X 11 0), .int p1, .int p2] (cW k X S) (pOv k X S (k_sample p1 p2 X S)) := by
  refine MC.of 0 hl (by decide) (by simp only [lg_sl_vr, lg_sl_i, lg_sl_l, lg_sl_0]; exact Nat.le_of_ble_eq_true rfl) ?_
  intro p e s m args below meth c A Q G B B2 hout
  simp only [lp_args_vr, lp_args_i, lp_args_l, lp_args_0]
  show Wx p l e rmt_X10_sample s m args below meth c k A 3 Q 1 6 0 [some ((vr X 11 0)), some (.int p1), some (.int p2)] [] (cW k X S)
  refine x_iload2 (pc := 0) G dX10_sample_0 ?_
  refine x_iconst (pc := 1) (v := 0) G dX10_sample_1 ic_0 ?_
  refine x_bipush (pc := 2) (v := 100) G dX10_sample_2 bp_100 ?_
  rcases Decidable.em (¬ (P_in p2 0 100)) with c1 | c1
  · exact x_cSt3 (pc := 4) G B B2 hout (no_requireRange hl c1) q_ml_X10_92 h_X10_requireRange ⟨Nat.le_of_ble_eq_true rfl, Nat.le_of_ble_eq_true rfl⟩ (Nat.le_of_ble_eq_true rfl) (Nat.le_refl _) (Nat.le_refl _) dX10_sample_4 (by rw [k_sample, if_neg c1]; exact ⟨rfl, rfl⟩)
  have c1 := Decidable.not_not.mp c1
  refine x_cSv3 (pc := 4) G (ok_requireRange hl c1) q_ml_X10_92 h_X10_requireRange ⟨Nat.le_of_ble_eq_true rfl, Nat.le_of_ble_eq_true rfl⟩ (Nat.le_of_ble_eq_true rfl) (Nat.le_refl _) (Nat.le_refl _) dX10_sample_4 ?_
  refine z_aload0 (pc := 7) G vr_r dX10_sample_7 ?_
  refine x_iload1 (pc := 8) G dX10_sample_8 ?_
  refine z_pI (pc := 9) (f := 368) G kb_11 gb_X10_66 rfl hX.1 hX.l11 rfl (cr_368.trans (congrArg Value.int ci_ss)) rfl rfl dX10_sample_9 ?_
  refine z_aload0 (pc := 12) G vr_r dX10_sample_12 ?_
  refine x_iload2 (pc := 13) G dX10_sample_13 ?_
  refine z_pI (pc := 14) (f := 369) G kb_11 gb_X10_69 rfl hX.1 hX.l11 rfl (cr_369.trans (congrArg Value.int ci_ss)) rfl rfl dX10_sample_14 ?_
  exact x_vret (pc := 17) G B rfl dX10_sample_17 (by rw [k_sample, if_pos c1]; exact ⟨rfl, rfl⟩)
theorem dX10_day_0 : decode cX10_day 0 = .ok (.aload_n 0, 1) := by decide +kernel
theorem dX10_day_1 : decode cX10_day 1 = .ok (.getfield 49, 3) := by decide +kernel
theorem dX10_day_4 : decode cX10_day 4 = .ok (.ireturn, 1) := by decide +kernel
def k_day  (X : CX) (S : CT) : Int32 :=
    (ci S 363 0)
abbrev rm_X10_day : Room := { frames := 0, cells := 0, slots := 0, locals := 0 }
set_option maxRecDepth 100000 in
set_option maxHeartbeats 4000000 in
theorem ck_day {l : Launch} {k : KC} (hl : l.stackTraces = false) {X : CX} {S : CT} (hX : XOK X)   : MC l k yX10_day (.code yX10_day cX10_day 1 (some .int)) rm_X10_day [(vr X 11 0)] (cW k X S) (pR (some (.int (k_day X S))) (cW k X S)) := by
  refine MC.of 0 hl (by decide) (by simp only [lg_sl_vr, lg_sl_i, lg_sl_l, lg_sl_0]; exact Nat.le_of_ble_eq_true rfl) ?_
  intro p e s m args below meth c A Q G B B2 hout
  simp only [lp_args_vr, lp_args_i, lp_args_l, lp_args_0]
  show Wx p l e rm_X10_day s m args below meth c k A 1 Q 0 0 0 [some ((vr X 11 0))] [] (cW k X S)
  refine z_aload0 (pc := 0) G vr_r dX10_day_0 ?_
  refine z_g (pc := 1) (f := 363) (x := 0) (v := (.int (ci S 363 0))) G kb_11 gb_X10_49 rfl hX.1 hX.l11 cr_363 dX10_day_1 ?_
  exact x_iret (pc := 4) G B rfl dX10_day_4 ⟨by rw [k_day], rfl⟩
theorem dX10_centre_0 : decode cX10_centre 0 = .ok (.aload_n 0, 1) := by decide +kernel
theorem dX10_centre_1 : decode cX10_centre 1 = .ok (.iload_n 1, 1) := by decide +kernel
theorem dX10_centre_2 : decode cX10_centre 2 = .ok (.iload_n 2, 1) := by decide +kernel
theorem dX10_centre_3 : decode cX10_centre 3 = .ok (.invokevirtual 126, 3) := by decide +kernel
theorem dX10_centre_6 : decode cX10_centre 6 = .ok (.astore 4, 2) := by decide +kernel
theorem dX10_centre_8 : decode cX10_centre 8 = .ok (.iload_n 3, 1) := by decide +kernel
theorem dX10_centre_9 : decode cX10_centre 9 = .ok (.tableswitch 55 0 3 #[31, 37, 43, 49], 31) := by decide +kernel
theorem dX10_centre_40 : decode cX10_centre 40 = .ok (.aload 4, 2) := by decide +kernel
theorem dX10_centre_42 : decode cX10_centre 42 = .ok (.getfield 131, 3) := by decide +kernel
theorem dX10_centre_45 : decode cX10_centre 45 = .ok (.lreturn, 1) := by decide +kernel
theorem dX10_centre_46 : decode cX10_centre 46 = .ok (.aload 4, 2) := by decide +kernel
theorem dX10_centre_48 : decode cX10_centre 48 = .ok (.getfield 442, 3) := by decide +kernel
theorem dX10_centre_51 : decode cX10_centre 51 = .ok (.lreturn, 1) := by decide +kernel
theorem dX10_centre_52 : decode cX10_centre 52 = .ok (.aload 4, 2) := by decide +kernel
theorem dX10_centre_54 : decode cX10_centre 54 = .ok (.getfield 443, 3) := by decide +kernel
theorem dX10_centre_57 : decode cX10_centre 57 = .ok (.lreturn, 1) := by decide +kernel
theorem dX10_centre_58 : decode cX10_centre 58 = .ok (.aload 4, 2) := by decide +kernel
theorem dX10_centre_60 : decode cX10_centre 60 = .ok (.invokevirtual 138, 3) := by decide +kernel
theorem dX10_centre_63 : decode cX10_centre 63 = .ok (.lreturn, 1) := by decide +kernel
theorem dX10_centre_64 : decode cX10_centre 64 = .ok (.new 115, 3) := by decide +kernel
theorem dX10_centre_67 : decode cX10_centre 67 = .ok (.dup, 1) := by decide +kernel
theorem dX10_centre_68 : decode cX10_centre 68 = .ok (.ldc_w 446, 3) := by decide +kernel
theorem dX10_centre_71 : decode cX10_centre 71 = .ok (.invokespecial 119, 3) := by decide +kernel
theorem dX10_centre_74 : decode cX10_centre 74 = .ok (.athrow, 1) := by decide +kernel
def k_centre (p1 : Int32) (p2 : Int32) (p3 : Int32) (X : CX) (S : CT) : (Int64 × CT) ⊕ String :=
    if P_num p1 (nS X 21 0) ∧ P_num p2 (nS X 28 p1) then
      if p3 = 0 then
        .inl ((cj S 224 (3 * p1 + p2)), S)
      else
      if p3 = 1 then
        .inl ((cj S 225 (3 * p1 + p2)), S)
      else
      if p3 = 2 then
        .inl ((cj S 226 (3 * p1 + p2)), S)
      else
      if p3 = 3 then
        .inl ((k_free (3 * p1 + p2) X S), S)
      else
      .inr "java/lang/IllegalArgumentException"
    else
    .inr "java/lang/IndexOutOfBoundsException"
abbrev rm_X10_centre : Room := { frames := 9, cells := 0, slots := 0, locals := 154 }
abbrev rmt_X10_centre : Room := { frames := 9, cells := 1, slots := 6, locals := 154 }
set_option maxRecDepth 100000 in
set_option maxHeartbeats 4000000 in
theorem ck_centre {l : Launch} {k : KC} (hl : l.stackTraces = false) {X : CX} {S : CT} (hX : XOK X) {p1 : Int32} {p2 : Int32} {p3 : Int32}  : MC l k yX10_centre (.code yX10_centre cX10_centre 5 (some .long)) rmt_X10_centre [(vr X 11 0), .int p1, .int p2, .int p3] (cW k X S) (pOl k X S (k_centre p1 p2 p3 X S)) := by
  refine MC.of 1 hl (by decide) (by simp only [lg_sl_vr, lg_sl_i, lg_sl_l, lg_sl_0]; exact Nat.le_of_ble_eq_true rfl) ?_
  intro p e s m args below meth c A Q G B B2 hout
  simp only [lp_args_vr, lp_args_i, lp_args_l, lp_args_0]
  show Wx p l e rmt_X10_centre s m args below meth c k A 5 Q 1 6 0 [some ((vr X 11 0)), some (.int p1), some (.int p2), some (.int p3), none] [] (cW k X S)
  refine z_aload0 (pc := 0) G vr_r dX10_centre_0 ?_
  refine x_iload1 (pc := 1) G dX10_centre_1 ?_
  refine x_iload2 (pc := 2) G dX10_centre_2 ?_
  rcases Decidable.em (¬ (P_num p1 (nS X 21 0) ∧ P_num p2 (nS X 28 p1))) with c1 | c1
  · exact z_cVt2 (pc := 3) G kb_11 hX.1 hX.l11 B B2 hout (no_purseAt hl hX  c1) rfl q_ml_X10_126 h_X10_purseAt ⟨Nat.le_of_ble_eq_true rfl, Nat.le_of_ble_eq_true rfl⟩ (Nat.le_of_ble_eq_true rfl) (Nat.le_refl _) (Nat.le_refl _) dX10_centre_3 (by rw [k_centre, if_neg c1]; exact ⟨rfl, rfl⟩)
  have c1 := Decidable.not_not.mp c1
  refine z_cV2 (pc := 3) G kb_11 hX.1 hX.l11 (ok_purseAt hl hX  c1) rfl q_ml_X10_126 h_X10_purseAt ⟨Nat.le_of_ble_eq_true rfl, Nat.le_of_ble_eq_true rfl⟩ (Nat.le_of_ble_eq_true rfl) (Nat.le_refl _) (Nat.le_refl _) dX10_centre_3 ?_
  refine z_astore4 (pc := 6) G vr_r dX10_centre_6 (Nat.le_of_ble_eq_true rfl) rfl ?_
  refine x_iload3 (pc := 8) G dX10_centre_8 ?_
  rcases Decidable.em (p3 = 0) with c2 | c2
  · refine x_tableIn (pc := 9) (off := 31) (tgt := 40) G dX10_centre_9 (by rw [c2]; decide) (by rw [c2]; decide) (by rw [c2]; rfl) rfl ?_
    refine z_aload4 (pc := 40) G vr_r dX10_centre_40 ?_
    refine z_g (pc := 42) (f := 224) (x := (3 * p1 + p2)) (v := (.long (cj S 224 (3 * p1 + p2)))) G kb_7 gb_X10_131 rfl hX.1 (hX.el28 (hX.el21 c1.1) c1.2) cr_224 dX10_centre_42 ?_
    exact x_lret (pc := 45) G B rfl dX10_centre_45 (by rw [k_centre, if_pos c1, if_pos c2]; exact ⟨rfl, rfl⟩)
  rcases Decidable.em (p3 = 1) with c3 | c3
  · refine x_tableIn (pc := 9) (off := 37) (tgt := 46) G dX10_centre_9 (by rw [c3]; decide) (by rw [c3]; decide) (by rw [c3]; rfl) rfl ?_
    refine z_aload4 (pc := 46) G vr_r dX10_centre_46 ?_
    refine z_g (pc := 48) (f := 225) (x := (3 * p1 + p2)) (v := (.long (cj S 225 (3 * p1 + p2)))) G kb_7 gb_X10_442 rfl hX.1 (hX.el28 (hX.el21 c1.1) c1.2) cr_225 dX10_centre_48 ?_
    exact x_lret (pc := 51) G B rfl dX10_centre_51 (by rw [k_centre, if_pos c1, if_neg c2, if_pos c3]; exact ⟨rfl, rfl⟩)
  rcases Decidable.em (p3 = 2) with c4 | c4
  · refine x_tableIn (pc := 9) (off := 43) (tgt := 52) G dX10_centre_9 (by rw [c4]; decide) (by rw [c4]; decide) (by rw [c4]; rfl) rfl ?_
    refine z_aload4 (pc := 52) G vr_r dX10_centre_52 ?_
    refine z_g (pc := 54) (f := 226) (x := (3 * p1 + p2)) (v := (.long (cj S 226 (3 * p1 + p2)))) G kb_7 gb_X10_443 rfl hX.1 (hX.el28 (hX.el21 c1.1) c1.2) cr_226 dX10_centre_54 ?_
    exact x_lret (pc := 57) G B rfl dX10_centre_57 (by rw [k_centre, if_pos c1, if_neg c2, if_neg c3, if_pos c4]; exact ⟨rfl, rfl⟩)
  rcases Decidable.em (p3 = 3) with c5 | c5
  · refine x_tableIn (pc := 9) (off := 49) (tgt := 58) G dX10_centre_9 (by rw [c5]; decide) (by rw [c5]; decide) (by rw [c5]; rfl) rfl ?_
    refine z_aload4 (pc := 58) G vr_r dX10_centre_58 ?_
    refine z_cV0 (pc := 60) G kb_7 hX.1 (hX.el28 (hX.el21 c1.1) c1.2) (ck_free hl hX (hX.el28 (hX.el21 c1.1) c1.2) ) rfl q_ml_X10_138 h_X6_free ⟨Nat.le_of_ble_eq_true rfl, Nat.le_of_ble_eq_true rfl⟩ (Nat.le_of_ble_eq_true rfl) (Nat.le_refl _) (Nat.le_refl _) dX10_centre_60 ?_
    exact x_lret (pc := 63) G B rfl dX10_centre_63 (by rw [k_centre, if_pos c1, if_neg c2, if_neg c3, if_neg c4, if_pos c5]; exact ⟨rfl, rfl⟩)
  refine x_tableOut (pc := 9) (tgt := 64) G dX10_centre_9 (sw_out0_3 c2 c3 c4 c5) rfl ?_
  exact z_IAE (pc := 64) G B B2 hout (is := 446) (text := "what is 0 to 3") (by decide +kernel) dX10_centre_64 dX10_centre_67 (Or.inr ⟨dX10_centre_68, dX10_centre_71, dX10_centre_74⟩) ⟨Nat.le_of_ble_eq_true rfl, Nat.le_of_ble_eq_true rfl⟩ (Nat.le_of_ble_eq_true rfl) (Nat.le_of_ble_eq_true rfl) (by rw [k_centre, if_pos c1, if_neg c2, if_neg c3, if_neg c4, if_neg c5]; exact ⟨rfl, rfl⟩)
theorem dX10_requestOf_0 : decode cX10_requestOf 0 = .ok (.aload_n 0, 1) := by decide +kernel
theorem dX10_requestOf_1 : decode cX10_requestOf 1 = .ok (.iload_n 1, 1) := by decide +kernel
theorem dX10_requestOf_2 : decode cX10_requestOf 2 = .ok (.invokevirtual 204, 3) := by decide +kernel
theorem dX10_requestOf_5 : decode cX10_requestOf 5 = .ok (.astore_n 3, 1) := by decide +kernel
theorem dX10_requestOf_6 : decode cX10_requestOf 6 = .ok (.iload_n 2, 1) := by decide +kernel
theorem dX10_requestOf_7 : decode cX10_requestOf 7 = .ok (.tableswitch 99 0 5 #[37, 43, 48, 53, 59, 77], 37) := by decide +kernel
theorem dX10_requestOf_44 : decode cX10_requestOf 44 = .ok (.aload_n 3, 1) := by decide +kernel
theorem dX10_requestOf_45 : decode cX10_requestOf 45 = .ok (.getfield 209, 3) := by decide +kernel
theorem dX10_requestOf_48 : decode cX10_requestOf 48 = .ok (.i2l, 1) := by decide +kernel
theorem dX10_requestOf_49 : decode cX10_requestOf 49 = .ok (.lreturn, 1) := by decide +kernel
theorem dX10_requestOf_50 : decode cX10_requestOf 50 = .ok (.aload_n 3, 1) := by decide +kernel
theorem dX10_requestOf_51 : decode cX10_requestOf 51 = .ok (.invokevirtual 228, 3) := by decide +kernel
theorem dX10_requestOf_54 : decode cX10_requestOf 54 = .ok (.lreturn, 1) := by decide +kernel
theorem dX10_requestOf_55 : decode cX10_requestOf 55 = .ok (.aload_n 3, 1) := by decide +kernel
theorem dX10_requestOf_56 : decode cX10_requestOf 56 = .ok (.getfield 273, 3) := by decide +kernel
theorem dX10_requestOf_59 : decode cX10_requestOf 59 = .ok (.lreturn, 1) := by decide +kernel
theorem dX10_requestOf_60 : decode cX10_requestOf 60 = .ok (.aload_n 3, 1) := by decide +kernel
theorem dX10_requestOf_61 : decode cX10_requestOf 61 = .ok (.getfield 239, 3) := by decide +kernel
theorem dX10_requestOf_64 : decode cX10_requestOf 64 = .ok (.i2l, 1) := by decide +kernel
theorem dX10_requestOf_65 : decode cX10_requestOf 65 = .ok (.lreturn, 1) := by decide +kernel
theorem dX10_requestOf_66 : decode cX10_requestOf 66 = .ok (.aload_n 3, 1) := by decide +kernel
theorem dX10_requestOf_67 : decode cX10_requestOf 67 = .ok (.getfield 209, 3) := by decide +kernel
theorem dX10_requestOf_70 : decode cX10_requestOf 70 = .ok (.iconst 1, 1) := by decide +kernel
theorem dX10_requestOf_71 : decode cX10_requestOf 71 = .ok (.if_icmp .ne 11, 3) := by decide +kernel
theorem dX10_requestOf_74 : decode cX10_requestOf 74 = .ok (.aload_n 3, 1) := by decide +kernel
theorem dX10_requestOf_75 : decode cX10_requestOf 75 = .ok (.invokestatic 448, 3) := by decide +kernel
theorem dX10_requestOf_78 : decode cX10_requestOf 78 = .ok (.i2l, 1) := by decide +kernel
theorem dX10_requestOf_79 : decode cX10_requestOf 79 = .ok (.goto 4, 3) := by decide +kernel
theorem dX10_requestOf_82 : decode cX10_requestOf 82 = .ok (.lconst 0, 1) := by decide +kernel
theorem dX10_requestOf_83 : decode cX10_requestOf 83 = .ok (.lreturn, 1) := by decide +kernel
theorem dX10_requestOf_84 : decode cX10_requestOf 84 = .ok (.aload_n 3, 1) := by decide +kernel
theorem dX10_requestOf_85 : decode cX10_requestOf 85 = .ok (.getfield 291, 3) := by decide +kernel
theorem dX10_requestOf_88 : decode cX10_requestOf 88 = .ok (.ifnonnull 9, 3) := by decide +kernel
theorem dX10_requestOf_91 : decode cX10_requestOf 91 = .ok (.ldc2_w 451, 3) := by decide +kernel
theorem dX10_requestOf_94 : decode cX10_requestOf 94 = .ok (.goto 11, 3) := by decide +kernel
theorem dX10_requestOf_97 : decode cX10_requestOf 97 = .ok (.aload_n 3, 1) := by decide +kernel
theorem dX10_requestOf_98 : decode cX10_requestOf 98 = .ok (.getfield 291, 3) := by decide +kernel
theorem dX10_requestOf_101 : decode cX10_requestOf 101 = .ok (.getfield 453, 3) := by decide +kernel
theorem dX10_requestOf_104 : decode cX10_requestOf 104 = .ok (.i2l, 1) := by decide +kernel
theorem dX10_requestOf_105 : decode cX10_requestOf 105 = .ok (.lreturn, 1) := by decide +kernel
theorem dX10_requestOf_106 : decode cX10_requestOf 106 = .ok (.new 115, 3) := by decide +kernel
theorem dX10_requestOf_109 : decode cX10_requestOf 109 = .ok (.dup, 1) := by decide +kernel
theorem dX10_requestOf_110 : decode cX10_requestOf 110 = .ok (.ldc_w 454, 3) := by decide +kernel
theorem dX10_requestOf_113 : decode cX10_requestOf 113 = .ok (.invokespecial 119, 3) := by decide +kernel
theorem dX10_requestOf_116 : decode cX10_requestOf 116 = .ok (.athrow, 1) := by decide +kernel
def k_requestOf (p1 : Int32) (p2 : Int32) (X : CX) (S : CT) : (Int64 × CT) ⊕ String :=
    if P_num p1 (nS X 24 0) then
      if p2 = 0 then
        .inl (((ci S 259 p1).toInt64), S)
      else
      if p2 = 1 then
        .inl ((k_total p1 X S), S)
      else
      if p2 = 2 then
        .inl ((cj S 261 p1), S)
      else
      if p2 = 3 then
        .inl (((ci S 260 p1).toInt64), S)
      else
      if p2 = 4 then
        if (ci S 259 p1) = 1 then
          .inl (((k_missingApprovals p1 X S).toInt64), S)
        else
        .inl (0, S)
      else
      if p2 = 5 then
        if (ci S 264 p1) = -1 then
          .inl ((-1), S)
        else
        .inl (((xi X 288 (ci S 264 p1)).toInt64), S)
      else
      .inr "java/lang/IllegalArgumentException"
    else
    .inr "java/lang/IndexOutOfBoundsException"
abbrev rm_X10_requestOf : Room := { frames := 8, cells := 0, slots := 0, locals := 132 }
abbrev rmt_X10_requestOf : Room := { frames := 8, cells := 1, slots := 6, locals := 132 }
set_option maxRecDepth 100000 in
set_option maxHeartbeats 4000000 in
theorem ck_requestOf {l : Launch} {k : KC} (hl : l.stackTraces = false) {X : CX} {S : CT} (hX : XOK X) {p1 : Int32} {p2 : Int32} (hB : BS X) (hT : TS X S)  : MC l k yX10_requestOf (.code yX10_requestOf cX10_requestOf 4 (some .long)) rmt_X10_requestOf [(vr X 11 0), .int p1, .int p2] (cW k X S) (pOl k X S (k_requestOf p1 p2 X S)) := by
  refine MC.of 1 hl (by decide) (by simp only [lg_sl_vr, lg_sl_i, lg_sl_l, lg_sl_0]; exact Nat.le_of_ble_eq_true rfl) ?_
  intro p e s m args below meth c A Q G B B2 hout
  simp only [lp_args_vr, lp_args_i, lp_args_l, lp_args_0]
  show Wx p l e rmt_X10_requestOf s m args below meth c k A 4 Q 1 6 0 [some ((vr X 11 0)), some (.int p1), some (.int p2), none] [] (cW k X S)
  refine z_aload0 (pc := 0) G vr_r dX10_requestOf_0 ?_
  refine x_iload1 (pc := 1) G dX10_requestOf_1 ?_
  rcases Decidable.em (¬ (P_num p1 (nS X 24 0))) with c1 | c1
  · exact z_cVt1 (pc := 2) G kb_11 hX.1 hX.l11 B B2 hout (no_requestAt hl hX  c1) rfl q_ml_X10_204 h_X10_requestAt ⟨Nat.le_of_ble_eq_true rfl, Nat.le_of_ble_eq_true rfl⟩ (Nat.le_of_ble_eq_true rfl) (Nat.le_refl _) (Nat.le_refl _) dX10_requestOf_2 (by rw [k_requestOf, if_neg c1]; exact ⟨rfl, rfl⟩)
  have c1 := Decidable.not_not.mp c1
  refine z_cV1 (pc := 2) G kb_11 hX.1 hX.l11 (ok_requestAt hl hX  c1) rfl q_ml_X10_204 h_X10_requestAt ⟨Nat.le_of_ble_eq_true rfl, Nat.le_of_ble_eq_true rfl⟩ (Nat.le_of_ble_eq_true rfl) (Nat.le_refl _) (Nat.le_refl _) dX10_requestOf_2 ?_
  refine z_astore3 (pc := 5) G vr_r dX10_requestOf_5 (Nat.le_of_ble_eq_true rfl) rfl ?_
  refine x_iload2 (pc := 6) G dX10_requestOf_6 ?_
  rcases Decidable.em (p2 = 0) with c2 | c2
  · refine x_tableIn (pc := 7) (off := 37) (tgt := 44) G dX10_requestOf_7 (by rw [c2]; decide) (by rw [c2]; decide) (by rw [c2]; rfl) rfl ?_
    refine z_aload3 (pc := 44) G vr_r dX10_requestOf_44 ?_
    refine z_g (pc := 45) (f := 259) (x := p1) (v := (.int (ci S 259 p1))) G kb_8 gb_X10_209 rfl hX.1 (hX.el24 c1) cr_259 dX10_requestOf_45 ?_
    refine x_i2l (pc := 48) G dX10_requestOf_48 ?_
    exact x_lret (pc := 49) G B rfl dX10_requestOf_49 (by rw [k_requestOf, if_pos c1, if_pos c2]; exact ⟨rfl, rfl⟩)
  rcases Decidable.em (p2 = 1) with c3 | c3
  · refine x_tableIn (pc := 7) (off := 43) (tgt := 50) G dX10_requestOf_7 (by rw [c3]; decide) (by rw [c3]; decide) (by rw [c3]; rfl) rfl ?_
    refine z_aload3 (pc := 50) G vr_r dX10_requestOf_50 ?_
    refine z_cV0 (pc := 51) G kb_8 hX.1 (hX.el24 c1) (ck_total hl hX (hX.el24 c1) ) rfl q_ml_X10_228 h_X7_total ⟨Nat.le_of_ble_eq_true rfl, Nat.le_of_ble_eq_true rfl⟩ (Nat.le_of_ble_eq_true rfl) (Nat.le_refl _) (Nat.le_refl _) dX10_requestOf_51 ?_
    exact x_lret (pc := 54) G B rfl dX10_requestOf_54 (by rw [k_requestOf, if_pos c1, if_neg c2, if_pos c3]; exact ⟨rfl, rfl⟩)
  rcases Decidable.em (p2 = 2) with c4 | c4
  · refine x_tableIn (pc := 7) (off := 48) (tgt := 55) G dX10_requestOf_7 (by rw [c4]; decide) (by rw [c4]; decide) (by rw [c4]; rfl) rfl ?_
    refine z_aload3 (pc := 55) G vr_r dX10_requestOf_55 ?_
    refine z_g (pc := 56) (f := 261) (x := p1) (v := (.long (cj S 261 p1))) G kb_8 gb_X10_273 rfl hX.1 (hX.el24 c1) cr_261 dX10_requestOf_56 ?_
    exact x_lret (pc := 59) G B rfl dX10_requestOf_59 (by rw [k_requestOf, if_pos c1, if_neg c2, if_neg c3, if_pos c4]; exact ⟨rfl, rfl⟩)
  rcases Decidable.em (p2 = 3) with c5 | c5
  · refine x_tableIn (pc := 7) (off := 53) (tgt := 60) G dX10_requestOf_7 (by rw [c5]; decide) (by rw [c5]; decide) (by rw [c5]; rfl) rfl ?_
    refine z_aload3 (pc := 60) G vr_r dX10_requestOf_60 ?_
    refine z_g (pc := 61) (f := 260) (x := p1) (v := (.int (ci S 260 p1))) G kb_8 gb_X10_239 rfl hX.1 (hX.el24 c1) cr_260 dX10_requestOf_61 ?_
    refine x_i2l (pc := 64) G dX10_requestOf_64 ?_
    exact x_lret (pc := 65) G B rfl dX10_requestOf_65 (by rw [k_requestOf, if_pos c1, if_neg c2, if_neg c3, if_neg c4, if_pos c5]; exact ⟨rfl, rfl⟩)
  rcases Decidable.em (p2 = 4) with c6 | c6
  · refine x_tableIn (pc := 7) (off := 59) (tgt := 66) G dX10_requestOf_7 (by rw [c6]; decide) (by rw [c6]; decide) (by rw [c6]; rfl) rfl ?_
    refine z_aload3 (pc := 66) G vr_r dX10_requestOf_66 ?_
    refine z_g (pc := 67) (f := 259) (x := p1) (v := (.int (ci S 259 p1))) G kb_8 gb_X10_209 rfl hX.1 (hX.el24 c1) cr_259 dX10_requestOf_67 ?_
    refine x_iconst (pc := 70) (v := 1) G dX10_requestOf_70 ic_1 ?_
    refine x_icmp_ne (pc := 71) (tgt := 82) G dX10_requestOf_71 rfl (fun c7 => ?_) (fun c7 => ?_)
    · refine x_lconst (pc := 82) (v := 0) G dX10_requestOf_82 lc_0 ?_
      exact x_lret (pc := 83) G B rfl dX10_requestOf_83 (by rw [k_requestOf, if_pos c1, if_neg c2, if_neg c3, if_neg c4, if_neg c5, if_pos c6, if_neg c7]; exact ⟨rfl, rfl⟩)
    refine z_aload3 (pc := 74) G vr_r dX10_requestOf_74 ?_
    refine x_cS1 (pc := 75) G (ck_missingApprovals hl hX (hX.el24 c1) hB (hT.turn (hX.el24 c1))) q_ml_X10_448 h_X10_missingApprovals ⟨Nat.le_of_ble_eq_true rfl, Nat.le_of_ble_eq_true rfl⟩ (Nat.le_of_ble_eq_true rfl) (Nat.le_refl _) (Nat.le_refl _) dX10_requestOf_75 ?_
    refine x_i2l (pc := 78) G dX10_requestOf_78 ?_
    refine x_goto (pc := 79) (tgt := 83) G dX10_requestOf_79 rfl ?_
    exact x_lret (pc := 83) G B rfl dX10_requestOf_83 (by rw [k_requestOf, if_pos c1, if_neg c2, if_neg c3, if_neg c4, if_neg c5, if_pos c6, if_pos c7]; exact ⟨rfl, rfl⟩)
  rcases Decidable.em (p2 = 5) with c8 | c8
  · refine x_tableIn (pc := 7) (off := 77) (tgt := 84) G dX10_requestOf_7 (by rw [c8]; decide) (by rw [c8]; decide) (by rw [c8]; rfl) rfl ?_
    refine z_aload3 (pc := 84) G vr_r dX10_requestOf_84 ?_
    refine z_g (pc := 85) (f := 264) (x := p1) (v := (vr X 9 (ci S 264 p1))) G kb_8 gb_X10_291 rfl hX.1 (hX.el24 c1) cr_264 dX10_requestOf_85 ?_
    refine z_ifnonnull (pc := 88) (tgt := 97) (kd := 9) (x := (ci S 264 p1)) G dX10_requestOf_88 rfl (fun c9 => ?_) (fun c9 => ?_)
    · refine z_aload3 (pc := 97) G vr_r dX10_requestOf_97 ?_
      refine z_g (pc := 98) (f := 264) (x := p1) (v := (vr X 9 (ci S 264 p1))) G kb_8 gb_X10_291 rfl hX.1 (hX.el24 c1) cr_264 dX10_requestOf_98 ?_
      refine z_g (pc := 101) (f := 288) (x := (ci S 264 p1)) (v := (.int (xi X 288 (ci S 264 p1)))) G kb_9 gb_X10_453 rfl hX.1 (oI.lI (hT.sup (hX.el24 c1)) c9) cr_288 dX10_requestOf_101 ?_
      refine x_i2l (pc := 104) G dX10_requestOf_104 ?_
      exact x_lret (pc := 105) G B rfl dX10_requestOf_105 (by rw [k_requestOf, if_pos c1, if_neg c2, if_neg c3, if_neg c4, if_neg c5, if_neg c6, if_pos c8, if_neg c9]; exact ⟨rfl, rfl⟩)
    refine x_ldc2 (pc := 91) G q_cL_X10_451 dX10_requestOf_91 ?_
    refine x_goto (pc := 94) (tgt := 105) G dX10_requestOf_94 rfl ?_
    exact x_lret (pc := 105) G B rfl dX10_requestOf_105 (by rw [k_requestOf, if_pos c1, if_neg c2, if_neg c3, if_neg c4, if_neg c5, if_neg c6, if_pos c8, if_pos c9]; exact ⟨rfl, rfl⟩)
  refine x_tableOut (pc := 7) (tgt := 106) G dX10_requestOf_7 (sw_out0_5 c2 c3 c4 c5 c6 c8) rfl ?_
  exact z_IAE (pc := 106) G B B2 hout (is := 454) (text := "what is 0 to 5") (by decide +kernel) dX10_requestOf_106 dX10_requestOf_109 (Or.inr ⟨dX10_requestOf_110, dX10_requestOf_113, dX10_requestOf_116⟩) ⟨Nat.le_of_ble_eq_true rfl, Nat.le_of_ble_eq_true rfl⟩ (Nat.le_of_ble_eq_true rfl) (Nat.le_of_ble_eq_true rfl) (by rw [k_requestOf, if_pos c1, if_neg c2, if_neg c3, if_neg c4, if_neg c5, if_neg c6, if_neg c8]; exact ⟨rfl, rfl⟩)
theorem dX10_next_0 : decode cX10_next 0 = .ok (.aload_n 0, 1) := by decide +kernel
theorem dX10_next_1 : decode cX10_next 1 = .ok (.iload_n 1, 1) := by decide +kernel
theorem dX10_next_2 : decode cX10_next 2 = .ok (.invokevirtual 204, 3) := by decide +kernel
theorem dX10_next_5 : decode cX10_next 5 = .ok (.astore_n 2, 1) := by decide +kernel
theorem dX10_next_6 : decode cX10_next 6 = .ok (.aload_n 2, 1) := by decide +kernel
theorem dX10_next_7 : decode cX10_next 7 = .ok (.getfield 209, 3) := by decide +kernel
theorem dX10_next_10 : decode cX10_next 10 = .ok (.iconst 1, 1) := by decide +kernel
theorem dX10_next_11 : decode cX10_next 11 = .ok (.if_icmp .eq 5, 3) := by decide +kernel
theorem dX10_next_14 : decode cX10_next 14 = .ok (.iconst (-1), 1) := by decide +kernel
theorem dX10_next_15 : decode cX10_next 15 = .ok (.ireturn, 1) := by decide +kernel
theorem dX10_next_16 : decode cX10_next 16 = .ok (.aload_n 0, 1) := by decide +kernel
theorem dX10_next_17 : decode cX10_next 17 = .ok (.aload_n 2, 1) := by decide +kernel
theorem dX10_next_18 : decode cX10_next 18 = .ok (.aload_n 2, 1) := by decide +kernel
theorem dX10_next_19 : decode cX10_next 19 = .ok (.getfield 255, 3) := by decide +kernel
theorem dX10_next_22 : decode cX10_next 22 = .ok (.invokevirtual 258, 3) := by decide +kernel
theorem dX10_next_25 : decode cX10_next 25 = .ok (.astore_n 3, 1) := by decide +kernel
theorem dX10_next_26 : decode cX10_next 26 = .ok (.aload_n 3, 1) := by decide +kernel
theorem dX10_next_27 : decode cX10_next 27 = .ok (.ifnonnull 13, 3) := by decide +kernel
theorem dX10_next_30 : decode cX10_next 30 = .ok (.aload_n 0, 1) := by decide +kernel
theorem dX10_next_31 : decode cX10_next 31 = .ok (.aload_n 2, 1) := by decide +kernel
theorem dX10_next_32 : decode cX10_next 32 = .ok (.aload_n 2, 1) := by decide +kernel
theorem dX10_next_33 : decode cX10_next 33 = .ok (.getfield 266, 3) := by decide +kernel
theorem dX10_next_36 : decode cX10_next 36 = .ok (.invokevirtual 258, 3) := by decide +kernel
theorem dX10_next_39 : decode cX10_next 39 = .ok (.astore_n 3, 1) := by decide +kernel
theorem dX10_next_40 : decode cX10_next 40 = .ok (.aload_n 3, 1) := by decide +kernel
theorem dX10_next_41 : decode cX10_next 41 = .ok (.ifnonnull 7, 3) := by decide +kernel
theorem dX10_next_44 : decode cX10_next 44 = .ok (.iconst (-1), 1) := by decide +kernel
theorem dX10_next_45 : decode cX10_next 45 = .ok (.goto 7, 3) := by decide +kernel
theorem dX10_next_48 : decode cX10_next 48 = .ok (.aload_n 3, 1) := by decide +kernel
theorem dX10_next_49 : decode cX10_next 49 = .ok (.getfield 112, 3) := by decide +kernel
theorem dX10_next_52 : decode cX10_next 52 = .ok (.ireturn, 1) := by decide +kernel
def k_next (p1 : Int32) (X : CX) (S : CT) : (Int32 × CT) ⊕ String :=
    if P_num p1 (nS X 24 0) then
      if (ci S 259 p1) = 1 then
        if (k_approverFor p1 (ci S 262 p1) X S) = -1 then
          if (k_approverFor p1 (ci S 263 p1) X S) = -1 then
            .inl ((-1), S)
          else
          .inl ((xi X 192 (k_approverFor p1 (ci S 263 p1) X S)), S)
        else
        .inl ((xi X 192 (k_approverFor p1 (ci S 262 p1) X S)), S)
      else
      .inl ((-1), S)
    else
    .inr "java/lang/IndexOutOfBoundsException"
abbrev rm_X10_next : Room := { frames := 8, cells := 0, slots := 0, locals := 132 }
abbrev rmt_X10_next : Room := { frames := 8, cells := 1, slots := 6, locals := 132 }
set_option maxRecDepth 100000 in
set_option maxHeartbeats 4000000 in
theorem ck_next {l : Launch} {k : KC} (hl : l.stackTraces = false) {X : CX} {S : CT} (hX : XOK X) {p1 : Int32} (hT : TS X S)  : MC l k yX10_next (.code yX10_next cX10_next 4 (some .int)) rmt_X10_next [(vr X 11 0), .int p1] (cW k X S) (pOi k X S (k_next p1 X S)) := by
  refine MC.of 2 hl (by decide) (by simp only [lg_sl_vr, lg_sl_i, lg_sl_l, lg_sl_0]; exact Nat.le_of_ble_eq_true rfl) ?_
  intro p e s m args below meth c A Q G B B2 hout
  simp only [lp_args_vr, lp_args_i, lp_args_l, lp_args_0]
  show Wx p l e rmt_X10_next s m args below meth c k A 4 Q 1 6 0 [some ((vr X 11 0)), some (.int p1), none, none] [] (cW k X S)
  refine z_aload0 (pc := 0) G vr_r dX10_next_0 ?_
  refine x_iload1 (pc := 1) G dX10_next_1 ?_
  rcases Decidable.em (¬ (P_num p1 (nS X 24 0))) with c1 | c1
  · exact z_cVt1 (pc := 2) G kb_11 hX.1 hX.l11 B B2 hout (no_requestAt hl hX  c1) rfl q_ml_X10_204 h_X10_requestAt ⟨Nat.le_of_ble_eq_true rfl, Nat.le_of_ble_eq_true rfl⟩ (Nat.le_of_ble_eq_true rfl) (Nat.le_refl _) (Nat.le_refl _) dX10_next_2 (by rw [k_next, if_neg c1]; exact ⟨rfl, rfl⟩)
  have c1 := Decidable.not_not.mp c1
  refine z_cV1 (pc := 2) G kb_11 hX.1 hX.l11 (ok_requestAt hl hX  c1) rfl q_ml_X10_204 h_X10_requestAt ⟨Nat.le_of_ble_eq_true rfl, Nat.le_of_ble_eq_true rfl⟩ (Nat.le_of_ble_eq_true rfl) (Nat.le_refl _) (Nat.le_refl _) dX10_next_2 ?_
  refine z_astore2 (pc := 5) G vr_r dX10_next_5 (Nat.le_of_ble_eq_true rfl) rfl ?_
  refine z_aload2 (pc := 6) G vr_r dX10_next_6 ?_
  refine z_g (pc := 7) (f := 259) (x := p1) (v := (.int (ci S 259 p1))) G kb_8 gb_X10_209 rfl hX.1 (hX.el24 c1) cr_259 dX10_next_7 ?_
  refine x_iconst (pc := 10) (v := 1) G dX10_next_10 ic_1 ?_
  refine x_icmp_eq (pc := 11) (tgt := 16) G dX10_next_11 rfl (fun c2 => ?_) (fun c2 => ?_)
  · refine z_aload0 (pc := 16) G vr_r dX10_next_16 ?_
    refine z_aload2 (pc := 17) G vr_r dX10_next_17 ?_
    refine z_aload2 (pc := 18) G vr_r dX10_next_18 ?_
    refine z_g (pc := 19) (f := 262) (x := p1) (v := (vr X 6 (ci S 262 p1))) G kb_8 gb_X10_255 rfl hX.1 (hX.el24 c1) cr_262 dX10_next_19 ?_
    refine z_cV2 (pc := 22) G kb_11 hX.1 hX.l11 (ck_approverFor hl hX (hX.el24 c1) (hT.turn (hX.el24 c1)) hT) rfl q_ml_X10_258 h_X10_approverFor ⟨Nat.le_of_ble_eq_true rfl, Nat.le_of_ble_eq_true rfl⟩ (Nat.le_of_ble_eq_true rfl) (Nat.le_refl _) (Nat.le_refl _) dX10_next_22 ?_
    refine z_astore3 (pc := 25) G vr_r dX10_next_25 (Nat.le_of_ble_eq_true rfl) lp_c2_vr ?_
    refine z_aload3 (pc := 26) G vr_r dX10_next_26 ?_
    refine z_ifnonnull (pc := 27) (tgt := 40) (kd := 6) (x := (k_approverFor p1 (ci S 262 p1) X S)) G dX10_next_27 rfl (fun c3 => ?_) (fun c3 => ?_)
    · refine z_aload3 (pc := 40) G vr_r dX10_next_40 ?_
      refine z_ifnonnull (pc := 41) (tgt := 48) (kd := 6) (x := (k_approverFor p1 (ci S 262 p1) X S)) G dX10_next_41 rfl (fun _ => ?_) (fun q => absurd q (lI.neg (oI.lI (op_approverFor2 hT (hX.el24 c1) (hT.turn (hX.el24 c1))) c3)))
      refine z_aload3 (pc := 48) G vr_r dX10_next_48 ?_
      refine z_g (pc := 49) (f := 192) (x := (k_approverFor p1 (ci S 262 p1) X S)) (v := (.int (xi X 192 (k_approverFor p1 (ci S 262 p1) X S)))) G kb_6 gb_X10_112 rfl hX.1 (oI.lI (op_approverFor2 hT (hX.el24 c1) (hT.turn (hX.el24 c1))) c3) cr_192 dX10_next_49 ?_
      exact x_iret (pc := 52) G B rfl dX10_next_52 (by rw [k_next, if_pos c1, if_pos c2, if_neg c3]; exact ⟨rfl, rfl⟩)
    refine z_aload0 (pc := 30) G vr_r dX10_next_30 ?_
    refine z_aload2 (pc := 31) G vr_r dX10_next_31 ?_
    refine z_aload2 (pc := 32) G vr_r dX10_next_32 ?_
    refine z_g (pc := 33) (f := 263) (x := p1) (v := (vr X 6 (ci S 263 p1))) G kb_8 gb_X10_266 rfl hX.1 (hX.el24 c1) cr_263 dX10_next_33 ?_
    refine z_cV2 (pc := 36) G kb_11 hX.1 hX.l11 (ck_approverFor hl hX (hX.el24 c1) (hT.ext (hX.el24 c1)) hT) rfl q_ml_X10_258 h_X10_approverFor ⟨Nat.le_of_ble_eq_true rfl, Nat.le_of_ble_eq_true rfl⟩ (Nat.le_of_ble_eq_true rfl) (Nat.le_refl _) (Nat.le_refl _) dX10_next_36 ?_
    refine z_astore3 (pc := 39) G vr_r dX10_next_39 (Nat.le_of_ble_eq_true rfl) lp_c2_vr ?_
    refine z_aload3 (pc := 40) G vr_r dX10_next_40 ?_
    refine z_ifnonnull (pc := 41) (tgt := 48) (kd := 6) (x := (k_approverFor p1 (ci S 263 p1) X S)) G dX10_next_41 rfl (fun c4 => ?_) (fun c4 => ?_)
    · refine z_aload3 (pc := 48) G vr_r dX10_next_48 ?_
      refine z_g (pc := 49) (f := 192) (x := (k_approverFor p1 (ci S 263 p1) X S)) (v := (.int (xi X 192 (k_approverFor p1 (ci S 263 p1) X S)))) G kb_6 gb_X10_112 rfl hX.1 (oI.lI (op_approverFor2 hT (hX.el24 c1) (hT.ext (hX.el24 c1))) c4) cr_192 dX10_next_49 ?_
      exact x_iret (pc := 52) G B rfl dX10_next_52 (by rw [k_next, if_pos c1, if_pos c2, if_pos c3, if_neg c4]; exact ⟨rfl, rfl⟩)
    refine x_iconst (pc := 44) (v := (-1)) G dX10_next_44 ic_m1 ?_
    refine x_goto (pc := 45) (tgt := 52) G dX10_next_45 rfl ?_
    exact x_iret (pc := 52) G B rfl dX10_next_52 (by rw [k_next, if_pos c1, if_pos c2, if_pos c3, if_pos c4]; exact ⟨rfl, rfl⟩)
  refine x_iconst (pc := 14) (v := (-1)) G dX10_next_14 ic_m1 ?_
  exact x_iret (pc := 15) G B rfl dX10_next_15 (by rw [k_next, if_pos c1, if_neg c2]; exact ⟨rfl, rfl⟩)
theorem dX10_lineOf_0 : decode cX10_lineOf 0 = .ok (.aload_n 0, 1) := by decide +kernel
theorem dX10_lineOf_1 : decode cX10_lineOf 1 = .ok (.iload_n 1, 1) := by decide +kernel
theorem dX10_lineOf_2 : decode cX10_lineOf 2 = .ok (.invokevirtual 204, 3) := by decide +kernel
theorem dX10_lineOf_5 : decode cX10_lineOf 5 = .ok (.iload_n 2, 1) := by decide +kernel
theorem dX10_lineOf_6 : decode cX10_lineOf 6 = .ok (.invokestatic 280, 3) := by decide +kernel
theorem dX10_lineOf_9 : decode cX10_lineOf 9 = .ok (.astore 4, 2) := by decide +kernel
theorem dX10_lineOf_11 : decode cX10_lineOf 11 = .ok (.iload_n 3, 1) := by decide +kernel
theorem dX10_lineOf_12 : decode cX10_lineOf 12 = .ok (.tableswitch 66 0 4 #[36, 42, 48, 54, 60], 36) := by decide +kernel
theorem dX10_lineOf_48 : decode cX10_lineOf 48 = .ok (.aload 4, 2) := by decide +kernel
theorem dX10_lineOf_50 : decode cX10_lineOf 50 = .ok (.getfield 286, 3) := by decide +kernel
theorem dX10_lineOf_53 : decode cX10_lineOf 53 = .ok (.ireturn, 1) := by decide +kernel
theorem dX10_lineOf_54 : decode cX10_lineOf 54 = .ok (.aload 4, 2) := by decide +kernel
theorem dX10_lineOf_56 : decode cX10_lineOf 56 = .ok (.getfield 324, 3) := by decide +kernel
theorem dX10_lineOf_59 : decode cX10_lineOf 59 = .ok (.ireturn, 1) := by decide +kernel
theorem dX10_lineOf_60 : decode cX10_lineOf 60 = .ok (.aload 4, 2) := by decide +kernel
theorem dX10_lineOf_62 : decode cX10_lineOf 62 = .ok (.getfield 305, 3) := by decide +kernel
theorem dX10_lineOf_65 : decode cX10_lineOf 65 = .ok (.ireturn, 1) := by decide +kernel
theorem dX10_lineOf_66 : decode cX10_lineOf 66 = .ok (.aload 4, 2) := by decide +kernel
theorem dX10_lineOf_68 : decode cX10_lineOf 68 = .ok (.getfield 308, 3) := by decide +kernel
theorem dX10_lineOf_71 : decode cX10_lineOf 71 = .ok (.ireturn, 1) := by decide +kernel
theorem dX10_lineOf_72 : decode cX10_lineOf 72 = .ok (.aload 4, 2) := by decide +kernel
theorem dX10_lineOf_74 : decode cX10_lineOf 74 = .ok (.getfield 319, 3) := by decide +kernel
theorem dX10_lineOf_77 : decode cX10_lineOf 77 = .ok (.ireturn, 1) := by decide +kernel
theorem dX10_lineOf_78 : decode cX10_lineOf 78 = .ok (.new 115, 3) := by decide +kernel
theorem dX10_lineOf_81 : decode cX10_lineOf 81 = .ok (.dup, 1) := by decide +kernel
theorem dX10_lineOf_82 : decode cX10_lineOf 82 = .ok (.ldc_w 456, 3) := by decide +kernel
theorem dX10_lineOf_85 : decode cX10_lineOf 85 = .ok (.invokespecial 119, 3) := by decide +kernel
theorem dX10_lineOf_88 : decode cX10_lineOf 88 = .ok (.athrow, 1) := by decide +kernel
def k_lineOf (p1 : Int32) (p2 : Int32) (p3 : Int32) (X : CX) (S : CT) : (Int32 × CT) ⊕ String :=
    if P_num p1 (nS X 24 0) then
      if P_num p2 (nS X 29 p1) then
        if p3 = 0 then
          .inl ((ci S 130 (4 * p1 + p2)), S)
        else
        if p3 = 1 then
          .inl ((xi X 129 (4 * p1 + p2)), S)
        else
        if p3 = 2 then
          .inl ((ci S 131 (4 * p1 + p2)), S)
        else
        if p3 = 3 then
          .inl ((ci S 132 (4 * p1 + p2)), S)
        else
        if p3 = 4 then
          .inl ((ci S 133 (4 * p1 + p2)), S)
        else
        .inr "java/lang/IllegalArgumentException"
      else
      .inr "java/lang/IndexOutOfBoundsException"
    else
    .inr "java/lang/IndexOutOfBoundsException"
abbrev rm_X10_lineOf : Room := { frames := 8, cells := 0, slots := 0, locals := 132 }
abbrev rmt_X10_lineOf : Room := { frames := 8, cells := 1, slots := 6, locals := 132 }
set_option maxRecDepth 100000 in
set_option maxHeartbeats 4000000 in
theorem ck_lineOf {l : Launch} {k : KC} (hl : l.stackTraces = false) {X : CX} {S : CT} (hX : XOK X) {p1 : Int32} {p2 : Int32} {p3 : Int32}  : MC l k yX10_lineOf (.code yX10_lineOf cX10_lineOf 5 (some .int)) rmt_X10_lineOf [(vr X 11 0), .int p1, .int p2, .int p3] (cW k X S) (pOi k X S (k_lineOf p1 p2 p3 X S)) := by
  refine MC.of 1 hl (by decide) (by simp only [lg_sl_vr, lg_sl_i, lg_sl_l, lg_sl_0]; exact Nat.le_of_ble_eq_true rfl) ?_
  intro p e s m args below meth c A Q G B B2 hout
  simp only [lp_args_vr, lp_args_i, lp_args_l, lp_args_0]
  show Wx p l e rmt_X10_lineOf s m args below meth c k A 5 Q 1 6 0 [some ((vr X 11 0)), some (.int p1), some (.int p2), some (.int p3), none] [] (cW k X S)
  refine z_aload0 (pc := 0) G vr_r dX10_lineOf_0 ?_
  refine x_iload1 (pc := 1) G dX10_lineOf_1 ?_
  rcases Decidable.em (¬ (P_num p1 (nS X 24 0))) with c1 | c1
  · exact z_cVt1 (pc := 2) G kb_11 hX.1 hX.l11 B B2 hout (no_requestAt hl hX  c1) rfl q_ml_X10_204 h_X10_requestAt ⟨Nat.le_of_ble_eq_true rfl, Nat.le_of_ble_eq_true rfl⟩ (Nat.le_of_ble_eq_true rfl) (Nat.le_refl _) (Nat.le_refl _) dX10_lineOf_2 (by rw [k_lineOf, if_neg c1]; exact ⟨rfl, rfl⟩)
  have c1 := Decidable.not_not.mp c1
  refine z_cV1 (pc := 2) G kb_11 hX.1 hX.l11 (ok_requestAt hl hX  c1) rfl q_ml_X10_204 h_X10_requestAt ⟨Nat.le_of_ble_eq_true rfl, Nat.le_of_ble_eq_true rfl⟩ (Nat.le_of_ble_eq_true rfl) (Nat.le_refl _) (Nat.le_refl _) dX10_lineOf_2 ?_
  refine x_iload2 (pc := 5) G dX10_lineOf_5 ?_
  rcases Decidable.em (¬ (P_num p2 (nS X 29 p1))) with c2 | c2
  · exact x_cSt2 (pc := 6) G B B2 hout (no_lineAt hl hX (hX.el24 c1) c2) q_ml_X10_280 h_X10_lineAt ⟨Nat.le_of_ble_eq_true rfl, Nat.le_of_ble_eq_true rfl⟩ (Nat.le_of_ble_eq_true rfl) (Nat.le_refl _) (Nat.le_refl _) dX10_lineOf_6 (by rw [k_lineOf, if_pos c1, if_neg c2]; exact ⟨rfl, rfl⟩)
  have c2 := Decidable.not_not.mp c2
  refine x_cS2 (pc := 6) G (ok_lineAt hl hX (hX.el24 c1) c2) q_ml_X10_280 h_X10_lineAt ⟨Nat.le_of_ble_eq_true rfl, Nat.le_of_ble_eq_true rfl⟩ (Nat.le_of_ble_eq_true rfl) (Nat.le_refl _) (Nat.le_refl _) dX10_lineOf_6 ?_
  refine z_astore4 (pc := 9) G vr_r dX10_lineOf_9 (Nat.le_of_ble_eq_true rfl) rfl ?_
  refine x_iload3 (pc := 11) G dX10_lineOf_11 ?_
  rcases Decidable.em (p3 = 0) with c3 | c3
  · refine x_tableIn (pc := 12) (off := 36) (tgt := 48) G dX10_lineOf_12 (by rw [c3]; decide) (by rw [c3]; decide) (by rw [c3]; rfl) rfl ?_
    refine z_aload4 (pc := 48) G vr_r dX10_lineOf_48 ?_
    refine z_g (pc := 50) (f := 130) (x := (4 * p1 + p2)) (v := (.int (ci S 130 (4 * p1 + p2)))) G kb_4 gb_X10_286 rfl hX.1 (hX.el29 (hX.el24 c1) c2) cr_130 dX10_lineOf_50 ?_
    exact x_iret (pc := 53) G B rfl dX10_lineOf_53 (by rw [k_lineOf, if_pos c1, if_pos c2, if_pos c3]; exact ⟨rfl, rfl⟩)
  rcases Decidable.em (p3 = 1) with c4 | c4
  · refine x_tableIn (pc := 12) (off := 42) (tgt := 54) G dX10_lineOf_12 (by rw [c4]; decide) (by rw [c4]; decide) (by rw [c4]; rfl) rfl ?_
    refine z_aload4 (pc := 54) G vr_r dX10_lineOf_54 ?_
    refine z_g (pc := 56) (f := 129) (x := (4 * p1 + p2)) (v := (.int (xi X 129 (4 * p1 + p2)))) G kb_4 gb_X10_324 rfl hX.1 (hX.el29 (hX.el24 c1) c2) cr_129 dX10_lineOf_56 ?_
    exact x_iret (pc := 59) G B rfl dX10_lineOf_59 (by rw [k_lineOf, if_pos c1, if_pos c2, if_neg c3, if_pos c4]; exact ⟨rfl, rfl⟩)
  rcases Decidable.em (p3 = 2) with c5 | c5
  · refine x_tableIn (pc := 12) (off := 48) (tgt := 60) G dX10_lineOf_12 (by rw [c5]; decide) (by rw [c5]; decide) (by rw [c5]; rfl) rfl ?_
    refine z_aload4 (pc := 60) G vr_r dX10_lineOf_60 ?_
    refine z_g (pc := 62) (f := 131) (x := (4 * p1 + p2)) (v := (.int (ci S 131 (4 * p1 + p2)))) G kb_4 gb_X10_305 rfl hX.1 (hX.el29 (hX.el24 c1) c2) cr_131 dX10_lineOf_62 ?_
    exact x_iret (pc := 65) G B rfl dX10_lineOf_65 (by rw [k_lineOf, if_pos c1, if_pos c2, if_neg c3, if_neg c4, if_pos c5]; exact ⟨rfl, rfl⟩)
  rcases Decidable.em (p3 = 3) with c6 | c6
  · refine x_tableIn (pc := 12) (off := 54) (tgt := 66) G dX10_lineOf_12 (by rw [c6]; decide) (by rw [c6]; decide) (by rw [c6]; rfl) rfl ?_
    refine z_aload4 (pc := 66) G vr_r dX10_lineOf_66 ?_
    refine z_g (pc := 68) (f := 132) (x := (4 * p1 + p2)) (v := (.int (ci S 132 (4 * p1 + p2)))) G kb_4 gb_X10_308 rfl hX.1 (hX.el29 (hX.el24 c1) c2) cr_132 dX10_lineOf_68 ?_
    exact x_iret (pc := 71) G B rfl dX10_lineOf_71 (by rw [k_lineOf, if_pos c1, if_pos c2, if_neg c3, if_neg c4, if_neg c5, if_pos c6]; exact ⟨rfl, rfl⟩)
  rcases Decidable.em (p3 = 4) with c7 | c7
  · refine x_tableIn (pc := 12) (off := 60) (tgt := 72) G dX10_lineOf_12 (by rw [c7]; decide) (by rw [c7]; decide) (by rw [c7]; rfl) rfl ?_
    refine z_aload4 (pc := 72) G vr_r dX10_lineOf_72 ?_
    refine z_g (pc := 74) (f := 133) (x := (4 * p1 + p2)) (v := (.int (ci S 133 (4 * p1 + p2)))) G kb_4 gb_X10_319 rfl hX.1 (hX.el29 (hX.el24 c1) c2) cr_133 dX10_lineOf_74 ?_
    exact x_iret (pc := 77) G B rfl dX10_lineOf_77 (by rw [k_lineOf, if_pos c1, if_pos c2, if_neg c3, if_neg c4, if_neg c5, if_neg c6, if_pos c7]; exact ⟨rfl, rfl⟩)
  refine x_tableOut (pc := 12) (tgt := 78) G dX10_lineOf_12 (sw_out0_4 c3 c4 c5 c6 c7) rfl ?_
  exact z_IAE (pc := 78) G B B2 hout (is := 456) (text := "what is 0 to 4") (by decide +kernel) dX10_lineOf_78 dX10_lineOf_81 (Or.inr ⟨dX10_lineOf_82, dX10_lineOf_85, dX10_lineOf_88⟩) ⟨Nat.le_of_ble_eq_true rfl, Nat.le_of_ble_eq_true rfl⟩ (Nat.le_of_ble_eq_true rfl) (Nat.le_of_ble_eq_true rfl) (by rw [k_lineOf, if_pos c1, if_pos c2, if_neg c3, if_neg c4, if_neg c5, if_neg c6, if_neg c7]; exact ⟨rfl, rfl⟩)
theorem dX10_invoiceOf_0 : decode cX10_invoiceOf 0 = .ok (.aload_n 0, 1) := by decide +kernel
theorem dX10_invoiceOf_1 : decode cX10_invoiceOf 1 = .ok (.iload_n 1, 1) := by decide +kernel
theorem dX10_invoiceOf_2 : decode cX10_invoiceOf 2 = .ok (.invokevirtual 349, 3) := by decide +kernel
theorem dX10_invoiceOf_5 : decode cX10_invoiceOf 5 = .ok (.astore_n 3, 1) := by decide +kernel
theorem dX10_invoiceOf_6 : decode cX10_invoiceOf 6 = .ok (.iload_n 2, 1) := by decide +kernel
theorem dX10_invoiceOf_7 : decode cX10_invoiceOf 7 = .ok (.tableswitch 107 0 7 #[45, 51, 68, 73, 78, 83, 88, 94], 45) := by decide +kernel
theorem dX10_invoiceOf_52 : decode cX10_invoiceOf 52 = .ok (.aload_n 3, 1) := by decide +kernel
theorem dX10_invoiceOf_53 : decode cX10_invoiceOf 53 = .ok (.getfield 353, 3) := by decide +kernel
theorem dX10_invoiceOf_56 : decode cX10_invoiceOf 56 = .ok (.i2l, 1) := by decide +kernel
theorem dX10_invoiceOf_57 : decode cX10_invoiceOf 57 = .ok (.lreturn, 1) := by decide +kernel
theorem dX10_invoiceOf_58 : decode cX10_invoiceOf 58 = .ok (.aload_n 3, 1) := by decide +kernel
theorem dX10_invoiceOf_59 : decode cX10_invoiceOf 59 = .ok (.getfield 353, 3) := by decide +kernel
theorem dX10_invoiceOf_62 : decode cX10_invoiceOf 62 = .ok (.ifCond .ne 11, 3) := by decide +kernel
theorem dX10_invoiceOf_65 : decode cX10_invoiceOf 65 = .ok (.aload_n 3, 1) := by decide +kernel
theorem dX10_invoiceOf_66 : decode cX10_invoiceOf 66 = .ok (.invokevirtual 458, 3) := by decide +kernel
theorem dX10_invoiceOf_69 : decode cX10_invoiceOf 69 = .ok (.i2l, 1) := by decide +kernel
theorem dX10_invoiceOf_70 : decode cX10_invoiceOf 70 = .ok (.goto 4, 3) := by decide +kernel
theorem dX10_invoiceOf_73 : decode cX10_invoiceOf 73 = .ok (.lconst 0, 1) := by decide +kernel
theorem dX10_invoiceOf_74 : decode cX10_invoiceOf 74 = .ok (.lreturn, 1) := by decide +kernel
theorem dX10_invoiceOf_75 : decode cX10_invoiceOf 75 = .ok (.aload_n 3, 1) := by decide +kernel
theorem dX10_invoiceOf_76 : decode cX10_invoiceOf 76 = .ok (.getfield 461, 3) := by decide +kernel
theorem dX10_invoiceOf_79 : decode cX10_invoiceOf 79 = .ok (.lreturn, 1) := by decide +kernel
theorem dX10_invoiceOf_80 : decode cX10_invoiceOf 80 = .ok (.aload_n 3, 1) := by decide +kernel
theorem dX10_invoiceOf_81 : decode cX10_invoiceOf 81 = .ok (.getfield 464, 3) := by decide +kernel
theorem dX10_invoiceOf_84 : decode cX10_invoiceOf 84 = .ok (.lreturn, 1) := by decide +kernel
theorem dX10_invoiceOf_85 : decode cX10_invoiceOf 85 = .ok (.aload_n 3, 1) := by decide +kernel
theorem dX10_invoiceOf_86 : decode cX10_invoiceOf 86 = .ok (.getfield 467, 3) := by decide +kernel
theorem dX10_invoiceOf_89 : decode cX10_invoiceOf 89 = .ok (.lreturn, 1) := by decide +kernel
theorem dX10_invoiceOf_90 : decode cX10_invoiceOf 90 = .ok (.aload_n 3, 1) := by decide +kernel
theorem dX10_invoiceOf_91 : decode cX10_invoiceOf 91 = .ok (.getfield 383, 3) := by decide +kernel
theorem dX10_invoiceOf_94 : decode cX10_invoiceOf 94 = .ok (.lreturn, 1) := by decide +kernel
theorem dX10_invoiceOf_95 : decode cX10_invoiceOf 95 = .ok (.aload_n 3, 1) := by decide +kernel
theorem dX10_invoiceOf_96 : decode cX10_invoiceOf 96 = .ok (.getfield 470, 3) := by decide +kernel
theorem dX10_invoiceOf_99 : decode cX10_invoiceOf 99 = .ok (.i2l, 1) := by decide +kernel
theorem dX10_invoiceOf_100 : decode cX10_invoiceOf 100 = .ok (.lreturn, 1) := by decide +kernel
theorem dX10_invoiceOf_101 : decode cX10_invoiceOf 101 = .ok (.aload_n 3, 1) := by decide +kernel
theorem dX10_invoiceOf_102 : decode cX10_invoiceOf 102 = .ok (.getfield 386, 3) := by decide +kernel
theorem dX10_invoiceOf_105 : decode cX10_invoiceOf 105 = .ok (.ifCond .eq 7, 3) := by decide +kernel
theorem dX10_invoiceOf_108 : decode cX10_invoiceOf 108 = .ok (.lconst 1, 1) := by decide +kernel
theorem dX10_invoiceOf_109 : decode cX10_invoiceOf 109 = .ok (.goto 4, 3) := by decide +kernel
theorem dX10_invoiceOf_112 : decode cX10_invoiceOf 112 = .ok (.lconst 0, 1) := by decide +kernel
theorem dX10_invoiceOf_113 : decode cX10_invoiceOf 113 = .ok (.lreturn, 1) := by decide +kernel
theorem dX10_invoiceOf_114 : decode cX10_invoiceOf 114 = .ok (.new 115, 3) := by decide +kernel
theorem dX10_invoiceOf_117 : decode cX10_invoiceOf 117 = .ok (.dup, 1) := by decide +kernel
theorem dX10_invoiceOf_118 : decode cX10_invoiceOf 118 = .ok (.ldc_w 473, 3) := by decide +kernel
theorem dX10_invoiceOf_121 : decode cX10_invoiceOf 121 = .ok (.invokespecial 119, 3) := by decide +kernel
theorem dX10_invoiceOf_124 : decode cX10_invoiceOf 124 = .ok (.athrow, 1) := by decide +kernel
def k_invoiceOf (p1 : Int32) (p2 : Int32) (X : CX) (S : CT) : (Int64 × CT) ⊕ String :=
    if P_num p1 (nS X 25 0) then
      if p2 = 0 then
        .inl (((ci S 102 p1).toInt64), S)
      else
      if p2 = 1 then
        if (ci S 102 p1) = 0 then
          .inl (((k_reasons p1 X S).toInt64), S)
        else
        .inl (0, S)
      else
      if p2 = 2 then
        .inl ((xj X 101 p1), S)
      else
      if p2 = 3 then
        .inl ((cj S 106 p1), S)
      else
      if p2 = 4 then
        .inl ((cj S 107 p1), S)
      else
      if p2 = 5 then
        .inl ((cj S 108 p1), S)
      else
      if p2 = 6 then
        .inl (((ci S 110 p1).toInt64), S)
      else
      if p2 = 7 then
        if (ci S 111 p1) = 0 then
          .inl (0, S)
        else
        .inl (1, S)
      else
      .inr "java/lang/IllegalArgumentException"
    else
    .inr "java/lang/IndexOutOfBoundsException"
abbrev rm_X10_invoiceOf : Room := { frames := 8, cells := 0, slots := 0, locals := 132 }
abbrev rmt_X10_invoiceOf : Room := { frames := 8, cells := 1, slots := 6, locals := 132 }
set_option maxRecDepth 100000 in
set_option maxHeartbeats 4000000 in
theorem ck_invoiceOf {l : Launch} {k : KC} (hl : l.stackTraces = false) {X : CX} {S : CT} (hX : XOK X) {p1 : Int32} {p2 : Int32}  : MC l k yX10_invoiceOf (.code yX10_invoiceOf cX10_invoiceOf 4 (some .long)) rmt_X10_invoiceOf [(vr X 11 0), .int p1, .int p2] (cW k X S) (pOl k X S (k_invoiceOf p1 p2 X S)) := by
  refine MC.of 1 hl (by decide) (by simp only [lg_sl_vr, lg_sl_i, lg_sl_l, lg_sl_0]; exact Nat.le_of_ble_eq_true rfl) ?_
  intro p e s m args below meth c A Q G B B2 hout
  simp only [lp_args_vr, lp_args_i, lp_args_l, lp_args_0]
  show Wx p l e rmt_X10_invoiceOf s m args below meth c k A 4 Q 1 6 0 [some ((vr X 11 0)), some (.int p1), some (.int p2), none] [] (cW k X S)
  refine z_aload0 (pc := 0) G vr_r dX10_invoiceOf_0 ?_
  refine x_iload1 (pc := 1) G dX10_invoiceOf_1 ?_
  rcases Decidable.em (¬ (P_num p1 (nS X 25 0))) with c1 | c1
  · exact z_cVt1 (pc := 2) G kb_11 hX.1 hX.l11 B B2 hout (no_invoiceAt hl hX  c1) rfl q_ml_X10_349 h_X10_invoiceAt ⟨Nat.le_of_ble_eq_true rfl, Nat.le_of_ble_eq_true rfl⟩ (Nat.le_of_ble_eq_true rfl) (Nat.le_refl _) (Nat.le_refl _) dX10_invoiceOf_2 (by rw [k_invoiceOf, if_neg c1]; exact ⟨rfl, rfl⟩)
  have c1 := Decidable.not_not.mp c1
  refine z_cV1 (pc := 2) G kb_11 hX.1 hX.l11 (ok_invoiceAt hl hX  c1) rfl q_ml_X10_349 h_X10_invoiceAt ⟨Nat.le_of_ble_eq_true rfl, Nat.le_of_ble_eq_true rfl⟩ (Nat.le_of_ble_eq_true rfl) (Nat.le_refl _) (Nat.le_refl _) dX10_invoiceOf_2 ?_
  refine z_astore3 (pc := 5) G vr_r dX10_invoiceOf_5 (Nat.le_of_ble_eq_true rfl) rfl ?_
  refine x_iload2 (pc := 6) G dX10_invoiceOf_6 ?_
  rcases Decidable.em (p2 = 0) with c2 | c2
  · refine x_tableIn (pc := 7) (off := 45) (tgt := 52) G dX10_invoiceOf_7 (by rw [c2]; decide) (by rw [c2]; decide) (by rw [c2]; rfl) rfl ?_
    refine z_aload3 (pc := 52) G vr_r dX10_invoiceOf_52 ?_
    refine z_g (pc := 53) (f := 102) (x := p1) (v := (.int (ci S 102 p1))) G kb_3 gb_X10_353 rfl hX.1 (hX.el25 c1) cr_102 dX10_invoiceOf_53 ?_
    refine x_i2l (pc := 56) G dX10_invoiceOf_56 ?_
    exact x_lret (pc := 57) G B rfl dX10_invoiceOf_57 (by rw [k_invoiceOf, if_pos c1, if_pos c2]; exact ⟨rfl, rfl⟩)
  rcases Decidable.em (p2 = 1) with c3 | c3
  · refine x_tableIn (pc := 7) (off := 51) (tgt := 58) G dX10_invoiceOf_7 (by rw [c3]; decide) (by rw [c3]; decide) (by rw [c3]; rfl) rfl ?_
    refine z_aload3 (pc := 58) G vr_r dX10_invoiceOf_58 ?_
    refine z_g (pc := 59) (f := 102) (x := p1) (v := (.int (ci S 102 p1))) G kb_3 gb_X10_353 rfl hX.1 (hX.el25 c1) cr_102 dX10_invoiceOf_59 ?_
    refine x_if_ne (pc := 62) (y := 0) (tgt := 73) G dX10_invoiceOf_62 rfl (fun c4 => ?_) (fun c4 => ?_)
    · refine x_lconst (pc := 73) (v := 0) G dX10_invoiceOf_73 lc_0 ?_
      exact x_lret (pc := 74) G B rfl dX10_invoiceOf_74 (by rw [k_invoiceOf, if_pos c1, if_neg c2, if_pos c3, if_neg c4]; exact ⟨rfl, rfl⟩)
    refine z_aload3 (pc := 65) G vr_r dX10_invoiceOf_65 ?_
    refine z_cV0 (pc := 66) G kb_3 hX.1 (hX.el25 c1) (ck_reasons hl hX (hX.el25 c1) ) rfl q_ml_X10_458 h_X2_reasons ⟨Nat.le_of_ble_eq_true rfl, Nat.le_of_ble_eq_true rfl⟩ (Nat.le_of_ble_eq_true rfl) (Nat.le_refl _) (Nat.le_refl _) dX10_invoiceOf_66 ?_
    refine x_i2l (pc := 69) G dX10_invoiceOf_69 ?_
    refine x_goto (pc := 70) (tgt := 74) G dX10_invoiceOf_70 rfl ?_
    exact x_lret (pc := 74) G B rfl dX10_invoiceOf_74 (by rw [k_invoiceOf, if_pos c1, if_neg c2, if_pos c3, if_pos c4]; exact ⟨rfl, rfl⟩)
  rcases Decidable.em (p2 = 2) with c5 | c5
  · refine x_tableIn (pc := 7) (off := 68) (tgt := 75) G dX10_invoiceOf_7 (by rw [c5]; decide) (by rw [c5]; decide) (by rw [c5]; rfl) rfl ?_
    refine z_aload3 (pc := 75) G vr_r dX10_invoiceOf_75 ?_
    refine z_g (pc := 76) (f := 101) (x := p1) (v := (.long (xj X 101 p1))) G kb_3 gb_X10_461 rfl hX.1 (hX.el25 c1) cr_101 dX10_invoiceOf_76 ?_
    exact x_lret (pc := 79) G B rfl dX10_invoiceOf_79 (by rw [k_invoiceOf, if_pos c1, if_neg c2, if_neg c3, if_pos c5]; exact ⟨rfl, rfl⟩)
  rcases Decidable.em (p2 = 3) with c6 | c6
  · refine x_tableIn (pc := 7) (off := 73) (tgt := 80) G dX10_invoiceOf_7 (by rw [c6]; decide) (by rw [c6]; decide) (by rw [c6]; rfl) rfl ?_
    refine z_aload3 (pc := 80) G vr_r dX10_invoiceOf_80 ?_
    refine z_g (pc := 81) (f := 106) (x := p1) (v := (.long (cj S 106 p1))) G kb_3 gb_X10_464 rfl hX.1 (hX.el25 c1) cr_106 dX10_invoiceOf_81 ?_
    exact x_lret (pc := 84) G B rfl dX10_invoiceOf_84 (by rw [k_invoiceOf, if_pos c1, if_neg c2, if_neg c3, if_neg c5, if_pos c6]; exact ⟨rfl, rfl⟩)
  rcases Decidable.em (p2 = 4) with c7 | c7
  · refine x_tableIn (pc := 7) (off := 78) (tgt := 85) G dX10_invoiceOf_7 (by rw [c7]; decide) (by rw [c7]; decide) (by rw [c7]; rfl) rfl ?_
    refine z_aload3 (pc := 85) G vr_r dX10_invoiceOf_85 ?_
    refine z_g (pc := 86) (f := 107) (x := p1) (v := (.long (cj S 107 p1))) G kb_3 gb_X10_467 rfl hX.1 (hX.el25 c1) cr_107 dX10_invoiceOf_86 ?_
    exact x_lret (pc := 89) G B rfl dX10_invoiceOf_89 (by rw [k_invoiceOf, if_pos c1, if_neg c2, if_neg c3, if_neg c5, if_neg c6, if_pos c7]; exact ⟨rfl, rfl⟩)
  rcases Decidable.em (p2 = 5) with c8 | c8
  · refine x_tableIn (pc := 7) (off := 83) (tgt := 90) G dX10_invoiceOf_7 (by rw [c8]; decide) (by rw [c8]; decide) (by rw [c8]; rfl) rfl ?_
    refine z_aload3 (pc := 90) G vr_r dX10_invoiceOf_90 ?_
    refine z_g (pc := 91) (f := 108) (x := p1) (v := (.long (cj S 108 p1))) G kb_3 gb_X10_383 rfl hX.1 (hX.el25 c1) cr_108 dX10_invoiceOf_91 ?_
    exact x_lret (pc := 94) G B rfl dX10_invoiceOf_94 (by rw [k_invoiceOf, if_pos c1, if_neg c2, if_neg c3, if_neg c5, if_neg c6, if_neg c7, if_pos c8]; exact ⟨rfl, rfl⟩)
  rcases Decidable.em (p2 = 6) with c9 | c9
  · refine x_tableIn (pc := 7) (off := 88) (tgt := 95) G dX10_invoiceOf_7 (by rw [c9]; decide) (by rw [c9]; decide) (by rw [c9]; rfl) rfl ?_
    refine z_aload3 (pc := 95) G vr_r dX10_invoiceOf_95 ?_
    refine z_g (pc := 96) (f := 110) (x := p1) (v := (.int (ci S 110 p1))) G kb_3 gb_X10_470 rfl hX.1 (hX.el25 c1) cr_110 dX10_invoiceOf_96 ?_
    refine x_i2l (pc := 99) G dX10_invoiceOf_99 ?_
    exact x_lret (pc := 100) G B rfl dX10_invoiceOf_100 (by rw [k_invoiceOf, if_pos c1, if_neg c2, if_neg c3, if_neg c5, if_neg c6, if_neg c7, if_neg c8, if_pos c9]; exact ⟨rfl, rfl⟩)
  rcases Decidable.em (p2 = 7) with c10 | c10
  · refine x_tableIn (pc := 7) (off := 94) (tgt := 101) G dX10_invoiceOf_7 (by rw [c10]; decide) (by rw [c10]; decide) (by rw [c10]; rfl) rfl ?_
    refine z_aload3 (pc := 101) G vr_r dX10_invoiceOf_101 ?_
    refine z_g (pc := 102) (f := 111) (x := p1) (v := (.int (ci S 111 p1))) G kb_3 gb_X10_386 rfl hX.1 (hX.el25 c1) cr_111 dX10_invoiceOf_102 ?_
    refine x_if_eq (pc := 105) (y := 0) (tgt := 112) G dX10_invoiceOf_105 rfl (fun c11 => ?_) (fun c11 => ?_)
    · refine x_lconst (pc := 112) (v := 0) G dX10_invoiceOf_112 lc_0 ?_
      exact x_lret (pc := 113) G B rfl dX10_invoiceOf_113 (by rw [k_invoiceOf, if_pos c1, if_neg c2, if_neg c3, if_neg c5, if_neg c6, if_neg c7, if_neg c8, if_neg c9, if_pos c10, if_pos c11]; exact ⟨rfl, rfl⟩)
    refine x_lconst (pc := 108) (v := 1) G dX10_invoiceOf_108 lc_1 ?_
    refine x_goto (pc := 109) (tgt := 113) G dX10_invoiceOf_109 rfl ?_
    exact x_lret (pc := 113) G B rfl dX10_invoiceOf_113 (by rw [k_invoiceOf, if_pos c1, if_neg c2, if_neg c3, if_neg c5, if_neg c6, if_neg c7, if_neg c8, if_neg c9, if_pos c10, if_neg c11]; exact ⟨rfl, rfl⟩)
  refine x_tableOut (pc := 7) (tgt := 114) G dX10_invoiceOf_7 (sw_out0_7 c2 c3 c5 c6 c7 c8 c9 c10) rfl ?_
  exact z_IAE (pc := 114) G B B2 hout (is := 473) (text := "what is 0 to 7") (by decide +kernel) dX10_invoiceOf_114 dX10_invoiceOf_117 (Or.inr ⟨dX10_invoiceOf_118, dX10_invoiceOf_121, dX10_invoiceOf_124⟩) ⟨Nat.le_of_ble_eq_true rfl, Nat.le_of_ble_eq_true rfl⟩ (Nat.le_of_ble_eq_true rfl) (Nat.le_of_ble_eq_true rfl) (by rw [k_invoiceOf, if_pos c1, if_neg c2, if_neg c3, if_neg c5, if_neg c6, if_neg c7, if_neg c8, if_neg c9, if_neg c10]; exact ⟨rfl, rfl⟩)
theorem dX10_staff_0 : decode cX10_staff 0 = .ok (.aload_n 0, 1) := by decide +kernel
theorem dX10_staff_1 : decode cX10_staff 1 = .ok (.iload_n 1, 1) := by decide +kernel
theorem dX10_staff_2 : decode cX10_staff 2 = .ok (.invokevirtual 87, 3) := by decide +kernel
theorem dX10_staff_5 : decode cX10_staff 5 = .ok (.astore_n 3, 1) := by decide +kernel
theorem dX10_staff_6 : decode cX10_staff 6 = .ok (.iload_n 2, 1) := by decide +kernel
theorem dX10_staff_7 : decode cX10_staff 7 = .ok (.iconst 0, 1) := by decide +kernel
theorem dX10_staff_8 : decode cX10_staff 8 = .ok (.iconst 1, 1) := by decide +kernel
theorem dX10_staff_9 : decode cX10_staff 9 = .ok (.invokestatic 92, 3) := by decide +kernel
theorem dX10_staff_12 : decode cX10_staff 12 = .ok (.iload_n 2, 1) := by decide +kernel
theorem dX10_staff_13 : decode cX10_staff 13 = .ok (.ifCond .ne 10, 3) := by decide +kernel
theorem dX10_staff_16 : decode cX10_staff 16 = .ok (.aload_n 3, 1) := by decide +kernel
theorem dX10_staff_17 : decode cX10_staff 17 = .ok (.getfield 410, 3) := by decide +kernel
theorem dX10_staff_20 : decode cX10_staff 20 = .ok (.goto 7, 3) := by decide +kernel
theorem dX10_staff_23 : decode cX10_staff 23 = .ok (.aload_n 3, 1) := by decide +kernel
theorem dX10_staff_24 : decode cX10_staff 24 = .ok (.getfield 417, 3) := by decide +kernel
theorem dX10_staff_27 : decode cX10_staff 27 = .ok (.lreturn, 1) := by decide +kernel
def k_staff (p1 : Int32) (p2 : Int32) (X : CX) (S : CT) : (Int64 × CT) ⊕ String :=
    if P_num p1 (nS X 20 0) then
      if P_in p2 0 1 then
        if p2 = 0 then
          .inl ((cj S 197 p1), S)
        else
        .inl ((cj S 198 p1), S)
      else
      .inr "java/lang/IllegalArgumentException"
    else
    .inr "java/lang/IndexOutOfBoundsException"
abbrev rm_X10_staff : Room := { frames := 8, cells := 0, slots := 0, locals := 132 }
abbrev rmt_X10_staff : Room := { frames := 8, cells := 1, slots := 6, locals := 132 }
set_option maxRecDepth 100000 in
set_option maxHeartbeats 4000000 in
theorem ck_staff {l : Launch} {k : KC} (hl : l.stackTraces = false) {X : CX} {S : CT} (hX : XOK X) {p1 : Int32} {p2 : Int32}  : MC l k yX10_staff (.code yX10_staff cX10_staff 4 (some .long)) rmt_X10_staff [(vr X 11 0), .int p1, .int p2] (cW k X S) (pOl k X S (k_staff p1 p2 X S)) := by
  refine MC.of 1 hl (by decide) (by simp only [lg_sl_vr, lg_sl_i, lg_sl_l, lg_sl_0]; exact Nat.le_of_ble_eq_true rfl) ?_
  intro p e s m args below meth c A Q G B B2 hout
  simp only [lp_args_vr, lp_args_i, lp_args_l, lp_args_0]
  show Wx p l e rmt_X10_staff s m args below meth c k A 4 Q 1 6 0 [some ((vr X 11 0)), some (.int p1), some (.int p2), none] [] (cW k X S)
  refine z_aload0 (pc := 0) G vr_r dX10_staff_0 ?_
  refine x_iload1 (pc := 1) G dX10_staff_1 ?_
  rcases Decidable.em (¬ (P_num p1 (nS X 20 0))) with c1 | c1
  · exact z_cVt1 (pc := 2) G kb_11 hX.1 hX.l11 B B2 hout (no_personAt hl hX  c1) rfl q_ml_X10_87 h_X10_personAt ⟨Nat.le_of_ble_eq_true rfl, Nat.le_of_ble_eq_true rfl⟩ (Nat.le_of_ble_eq_true rfl) (Nat.le_refl _) (Nat.le_refl _) dX10_staff_2 (by rw [k_staff, if_neg c1]; exact ⟨rfl, rfl⟩)
  have c1 := Decidable.not_not.mp c1
  refine z_cV1 (pc := 2) G kb_11 hX.1 hX.l11 (ok_personAt hl hX  c1) rfl q_ml_X10_87 h_X10_personAt ⟨Nat.le_of_ble_eq_true rfl, Nat.le_of_ble_eq_true rfl⟩ (Nat.le_of_ble_eq_true rfl) (Nat.le_refl _) (Nat.le_refl _) dX10_staff_2 ?_
  refine z_astore3 (pc := 5) G vr_r dX10_staff_5 (Nat.le_of_ble_eq_true rfl) rfl ?_
  refine x_iload2 (pc := 6) G dX10_staff_6 ?_
  refine x_iconst (pc := 7) (v := 0) G dX10_staff_7 ic_0 ?_
  refine x_iconst (pc := 8) (v := 1) G dX10_staff_8 ic_1 ?_
  rcases Decidable.em (¬ (P_in p2 0 1)) with c2 | c2
  · exact x_cSt3 (pc := 9) G B B2 hout (no_requireRange hl c2) q_ml_X10_92 h_X10_requireRange ⟨Nat.le_of_ble_eq_true rfl, Nat.le_of_ble_eq_true rfl⟩ (Nat.le_of_ble_eq_true rfl) (Nat.le_refl _) (Nat.le_refl _) dX10_staff_9 (by rw [k_staff, if_pos c1, if_neg c2]; exact ⟨rfl, rfl⟩)
  have c2 := Decidable.not_not.mp c2
  refine x_cSv3 (pc := 9) G (ok_requireRange hl c2) q_ml_X10_92 h_X10_requireRange ⟨Nat.le_of_ble_eq_true rfl, Nat.le_of_ble_eq_true rfl⟩ (Nat.le_of_ble_eq_true rfl) (Nat.le_refl _) (Nat.le_refl _) dX10_staff_9 ?_
  refine x_iload2 (pc := 12) G dX10_staff_12 ?_
  refine x_if_ne (pc := 13) (y := 0) (tgt := 23) G dX10_staff_13 rfl (fun c3 => ?_) (fun c3 => ?_)
  · refine z_aload3 (pc := 23) G vr_r dX10_staff_23 ?_
    refine z_g (pc := 24) (f := 198) (x := p1) (v := (.long (cj S 198 p1))) G kb_6 gb_X10_417 rfl hX.1 (hX.el20 c1) cr_198 dX10_staff_24 ?_
    exact x_lret (pc := 27) G B rfl dX10_staff_27 (by rw [k_staff, if_pos c1, if_pos c2, if_neg c3]; exact ⟨rfl, rfl⟩)
  refine z_aload3 (pc := 16) G vr_r dX10_staff_16 ?_
  refine z_g (pc := 17) (f := 197) (x := p1) (v := (.long (cj S 197 p1))) G kb_6 gb_X10_410 rfl hX.1 (hX.el20 c1) cr_197 dX10_staff_17 ?_
  refine x_goto (pc := 20) (tgt := 27) G dX10_staff_20 rfl ?_
  exact x_lret (pc := 27) G B rfl dX10_staff_27 (by rw [k_staff, if_pos c1, if_pos c2, if_pos c3]; exact ⟨rfl, rfl⟩)
theorem dX10_tripCost_0 : decode cX10_tripCost 0 = .ok (.iload_n 1, 1) := by decide +kernel
theorem dX10_tripCost_1 : decode cX10_tripCost 1 = .ok (.aload_n 0, 1) := by decide +kernel
theorem dX10_tripCost_2 : decode cX10_tripCost 2 = .ok (.getfield 31, 3) := by decide +kernel
theorem dX10_tripCost_5 : decode cX10_tripCost 5 = .ok (.invokevirtual 96, 3) := by decide +kernel
theorem dX10_tripCost_8 : decode cX10_tripCost 8 = .ok (.invokestatic 156, 3) := by decide +kernel
theorem dX10_tripCost_11 : decode cX10_tripCost 11 = .ok (.aload_n 0, 1) := by decide +kernel
theorem dX10_tripCost_12 : decode cX10_tripCost 12 = .ok (.getfield 31, 3) := by decide +kernel
theorem dX10_tripCost_15 : decode cX10_tripCost 15 = .ok (.iload_n 1, 1) := by decide +kernel
theorem dX10_tripCost_16 : decode cX10_tripCost 16 = .ok (.invokevirtual 364, 3) := by decide +kernel
theorem dX10_tripCost_19 : decode cX10_tripCost 19 = .ok (.checkcast 411, 3) := by decide +kernel
theorem dX10_tripCost_22 : decode cX10_tripCost 22 = .ok (.getfield 475, 3) := by decide +kernel
theorem dX10_tripCost_25 : decode cX10_tripCost 25 = .ok (.lreturn, 1) := by decide +kernel
def k_tripCost (p1 : Int32) (X : CX) (S : CT) : (Int64 × CT) ⊕ String :=
    if P_num p1 (nS X 26 0) then
      .inl ((xj X 320 p1), S)
    else
    .inr "java/lang/IndexOutOfBoundsException"
abbrev rm_X10_tripCost : Room := { frames := 7, cells := 0, slots := 0, locals := 111 }
abbrev rmt_X10_tripCost : Room := { frames := 7, cells := 1, slots := 6, locals := 111 }
set_option maxRecDepth 100000 in
set_option maxHeartbeats 4000000 in
theorem ck_tripCost {l : Launch} {k : KC} (hl : l.stackTraces = false) {X : CX} {S : CT} (hX : XOK X) {p1 : Int32}  : MC l k yX10_tripCost (.code yX10_tripCost cX10_tripCost 2 (some .long)) rmt_X10_tripCost [(vr X 11 0), .int p1] (cW k X S) (pOl k X S (k_tripCost p1 X S)) := by
  refine MC.of 0 hl (by decide) (by simp only [lg_sl_vr, lg_sl_i, lg_sl_l, lg_sl_0]; exact Nat.le_of_ble_eq_true rfl) ?_
  intro p e s m args below meth c A Q G B B2 hout
  simp only [lp_args_vr, lp_args_i, lp_args_l, lp_args_0]
  show Wx p l e rmt_X10_tripCost s m args below meth c k A 2 Q 1 6 0 [some ((vr X 11 0)), some (.int p1)] [] (cW k X S)
  refine x_iload1 (pc := 0) G dX10_tripCost_0 ?_
  refine z_aload0 (pc := 1) G vr_r dX10_tripCost_1 ?_
  refine z_g (pc := 2) (f := 358) (x := 0) (v := (aR X 26 0)) G kb_11 gb_X10_31 rfl hX.1 hX.l11 cr_358 dX10_tripCost_2 ?_
  refine z_size (pc := 5) (Li := 26) (x := 0) G hX.1 hX.lw26 q_ml_X10_96 ⟨Nat.le_of_ble_eq_true rfl, Nat.le_of_ble_eq_true rfl⟩ (Nat.le_of_ble_eq_true rfl) dX10_tripCost_5 ?_
  rcases Decidable.em (¬ (P_num p1 (nS X 26 0))) with c1 | c1
  · exact x_cSt2 (pc := 8) G B B2 hout (no_requireNumber hl c1) q_ml_X10_156 h_X10_requireNumber ⟨Nat.le_of_ble_eq_true rfl, Nat.le_of_ble_eq_true rfl⟩ (Nat.le_of_ble_eq_true rfl) (Nat.le_refl _) (Nat.le_refl _) dX10_tripCost_8 (by rw [k_tripCost, if_neg c1]; exact ⟨rfl, rfl⟩)
  have c1 := Decidable.not_not.mp c1
  refine x_cSv2 (pc := 8) G (ok_requireNumber hl c1) q_ml_X10_156 h_X10_requireNumber ⟨Nat.le_of_ble_eq_true rfl, Nat.le_of_ble_eq_true rfl⟩ (Nat.le_of_ble_eq_true rfl) (Nat.le_refl _) (Nat.le_refl _) dX10_tripCost_8 ?_
  refine z_aload0 (pc := 11) G vr_r dX10_tripCost_11 ?_
  refine z_g (pc := 12) (f := 358) (x := 0) (v := (aR X 26 0)) G kb_11 gb_X10_31 rfl hX.1 hX.l11 cr_358 dX10_tripCost_12 ?_
  refine x_iload1 (pc := 15) G dX10_tripCost_15 ?_
  refine z_get (pc := 16) (Li := 26) (kd := 10) (x := 0) (y := p1) (z := p1) G hX.1 hX.lw26 c1 (hX.el26 c1) rfl (hX.ei (by decide)) q_ml_X10_364 ⟨Nat.le_of_ble_eq_true rfl, Nat.le_of_ble_eq_true rfl⟩ (Nat.le_of_ble_eq_true rfl) dX10_tripCost_16 ?_
  refine z_cast (pc := 19) G kb_10 hX.1 (hX.el26 c1) q_cl_X10_411 dX10_tripCost_19 ?_
  refine z_g (pc := 22) (f := 320) (x := p1) (v := (.long (xj X 320 p1))) G kb_10 gb_X10_475 rfl hX.1 (hX.el26 c1) cr_320 dX10_tripCost_22 ?_
  exact x_lret (pc := 25) G B rfl dX10_tripCost_25 (by rw [k_tripCost, if_pos c1]; exact ⟨rfl, rfl⟩)
theorem dX10_isTold_0 : decode cX10_isTold 0 = .ok (.aload_n 0, 1) := by decide +kernel
theorem dX10_isTold_1 : decode cX10_isTold 1 = .ok (.iload_n 1, 1) := by decide +kernel
theorem dX10_isTold_2 : decode cX10_isTold 2 = .ok (.invokevirtual 427, 3) := by decide +kernel
theorem dX10_isTold_5 : decode cX10_isTold 5 = .ok (.getfield 434, 3) := by decide +kernel
theorem dX10_isTold_8 : decode cX10_isTold 8 = .ok (.ireturn, 1) := by decide +kernel
def k_isTold (p1 : Int32) (X : CX) (S : CT) : (Int32 × CT) ⊕ String :=
    if P_num p1 (nS X 27 0) then
      .inl ((ci S 66 p1), S)
    else
    .inr "java/lang/IndexOutOfBoundsException"
abbrev rm_X10_isTold : Room := { frames := 8, cells := 0, slots := 0, locals := 132 }
abbrev rmt_X10_isTold : Room := { frames := 8, cells := 1, slots := 6, locals := 132 }
set_option maxRecDepth 100000 in
set_option maxHeartbeats 4000000 in
theorem ck_isTold {l : Launch} {k : KC} (hl : l.stackTraces = false) {X : CX} {S : CT} (hX : XOK X) {p1 : Int32} (hv : P_num p1 (nS X 27 0) → narrow .boolean (.int (ci S 66 p1)) = .int (ci S 66 p1))  : MC l k yX10_isTold (.code yX10_isTold cX10_isTold 2 (some .boolean)) rmt_X10_isTold [(vr X 11 0), .int p1] (cW k X S) (pOi k X S (k_isTold p1 X S)) := by
  refine MC.of 0 hl (by decide) (by simp only [lg_sl_vr, lg_sl_i, lg_sl_l, lg_sl_0]; exact Nat.le_of_ble_eq_true rfl) ?_
  intro p e s m args below meth c A Q G B B2 hout
  simp only [lp_args_vr, lp_args_i, lp_args_l, lp_args_0]
  show Wx p l e rmt_X10_isTold s m args below meth c k A 2 Q 1 6 0 [some ((vr X 11 0)), some (.int p1)] [] (cW k X S)
  refine z_aload0 (pc := 0) G vr_r dX10_isTold_0 ?_
  refine x_iload1 (pc := 1) G dX10_isTold_1 ?_
  rcases Decidable.em (¬ (P_num p1 (nS X 27 0))) with c1 | c1
  · exact z_cVt1 (pc := 2) G kb_11 hX.1 hX.l11 B B2 hout (no_entryAt hl hX  c1) rfl q_ml_X10_427 h_X10_entryAt ⟨Nat.le_of_ble_eq_true rfl, Nat.le_of_ble_eq_true rfl⟩ (Nat.le_of_ble_eq_true rfl) (Nat.le_refl _) (Nat.le_refl _) dX10_isTold_2 (by rw [k_isTold, if_neg c1]; exact ⟨rfl, rfl⟩)
  have c1 := Decidable.not_not.mp c1
  refine z_cV1 (pc := 2) G kb_11 hX.1 hX.l11 (ok_entryAt hl hX  c1) rfl q_ml_X10_427 h_X10_entryAt ⟨Nat.le_of_ble_eq_true rfl, Nat.le_of_ble_eq_true rfl⟩ (Nat.le_of_ble_eq_true rfl) (Nat.le_refl _) (Nat.le_refl _) dX10_isTold_2 ?_
  refine z_g (pc := 5) (f := 66) (x := p1) (v := (.int (ci S 66 p1))) G kb_2 gb_X10_434 rfl hX.1 (hX.el27 c1) cr_66 dX10_isTold_5 ?_
  exact x_zret (pc := 8) G B rfl (by exact hv c1) dX10_isTold_8 (by rw [k_isTold, if_pos c1]; exact ⟨rfl, rfl⟩)
theorem dX10_account_0 : decode cX10_account 0 = .ok (.iload_n 1, 1) := by decide +kernel
theorem dX10_account_1 : decode cX10_account 1 = .ok (.ifCond .lt 12, 3) := by decide +kernel
theorem dX10_account_4 : decode cX10_account 4 = .ok (.iload_n 1, 1) := by decide +kernel
theorem dX10_account_5 : decode cX10_account 5 = .ok (.aload_n 0, 1) := by decide +kernel
theorem dX10_account_6 : decode cX10_account 6 = .ok (.getfield 41, 3) := by decide +kernel
theorem dX10_account_9 : decode cX10_account 9 = .ok (.arraylength, 1) := by decide +kernel
theorem dX10_account_10 : decode cX10_account 10 = .ok (.if_icmp .lt 14, 3) := by decide +kernel
theorem dX10_account_13 : decode cX10_account 13 = .ok (.new 180, 3) := by decide +kernel
theorem dX10_account_16 : decode cX10_account 16 = .ok (.dup, 1) := by decide +kernel
theorem dX10_account_17 : decode cX10_account 17 = .ok (.ldc_w 476, 3) := by decide +kernel
theorem dX10_account_20 : decode cX10_account 20 = .ok (.invokespecial 184, 3) := by decide +kernel
theorem dX10_account_23 : decode cX10_account 23 = .ok (.athrow, 1) := by decide +kernel
theorem dX10_account_24 : decode cX10_account 24 = .ok (.aload_n 0, 1) := by decide +kernel
theorem dX10_account_25 : decode cX10_account 25 = .ok (.getfield 41, 3) := by decide +kernel
theorem dX10_account_28 : decode cX10_account 28 = .ok (.iload_n 1, 1) := by decide +kernel
theorem dX10_account_29 : decode cX10_account 29 = .ok (.laload, 1) := by decide +kernel
theorem dX10_account_30 : decode cX10_account 30 = .ok (.lreturn, 1) := by decide +kernel
def k_account (p1 : Int32) (X : CX) (S : CT) : (Int64 × CT) ⊕ String :=
    if p1 < 0 then
      .inr "java/lang/IndexOutOfBoundsException"
    else
    if p1 < 9 then
      .inl ((cj S 1312 p1), S)
    else
    .inr "java/lang/IndexOutOfBoundsException"
abbrev rm_X10_account : Room := { frames := 6, cells := 0, slots := 0, locals := 90 }
abbrev rmt_X10_account : Room := { frames := 6, cells := 1, slots := 6, locals := 90 }
set_option maxRecDepth 100000 in
set_option maxHeartbeats 4000000 in
theorem ck_account {l : Launch} {k : KC} (hl : l.stackTraces = false) {X : CX} {S : CT} (hX : XOK X) {p1 : Int32}  : MC l k yX10_account (.code yX10_account cX10_account 2 (some .long)) rmt_X10_account [(vr X 11 0), .int p1] (cW k X S) (pOl k X S (k_account p1 X S)) := by
  refine MC.of 0 hl (by decide) (by simp only [lg_sl_vr, lg_sl_i, lg_sl_l, lg_sl_0]; exact Nat.le_of_ble_eq_true rfl) ?_
  intro p e s m args below meth c A Q G B B2 hout
  simp only [lp_args_vr, lp_args_i, lp_args_l, lp_args_0]
  show Wx p l e rmt_X10_account s m args below meth c k A 2 Q 1 6 0 [some ((vr X 11 0)), some (.int p1)] [] (cW k X S)
  refine x_iload1 (pc := 0) G dX10_account_0 ?_
  refine x_if_lt (pc := 1) (y := 0) (tgt := 13) G dX10_account_1 rfl (fun c1 => ?_) (fun c1 => ?_)
  · exact z_IOOBE (pc := 13) G B B2 hout (is := 476) (text := "no such account") (by decide +kernel) dX10_account_13 dX10_account_16 (Or.inr ⟨dX10_account_17, dX10_account_20, dX10_account_23⟩) ⟨Nat.le_of_ble_eq_true rfl, Nat.le_of_ble_eq_true rfl⟩ (Nat.le_of_ble_eq_true rfl) (Nat.le_of_ble_eq_true rfl) (by rw [k_account, if_pos c1]; exact ⟨rfl, rfl⟩)
  refine x_iload1 (pc := 4) G dX10_account_4 ?_
  refine z_aload0 (pc := 5) G vr_r dX10_account_5 ?_
  refine z_g (pc := 6) (f := 361) (x := 0) (v := (aR X 41 0)) G kb_11 gb_X10_41 rfl hX.1 hX.l11 cr_361 dX10_account_6 ?_
  refine z_llen (pc := 9) G hX.1 hX.l41 dX10_account_9 ?_
  refine x_icmp_lt (pc := 10) (tgt := 24) G dX10_account_10 rfl (fun c2 => ?_) (fun c2 => ?_)
  · refine z_aload0 (pc := 24) G vr_r dX10_account_24 ?_
    refine z_g (pc := 25) (f := 361) (x := 0) (v := (aR X 41 0)) G kb_11 gb_X10_41 rfl hX.1 hX.l11 cr_361 dX10_account_25 ?_
    refine x_iload1 (pc := 28) G dX10_account_28 ?_
    refine z_lald (pc := 29) (v := (cj S 1312 p1)) G hX.1 hX.l41 (lOK (n := 9) (by decide) c1 c2) rfl dX10_account_29 ?_
    exact x_lret (pc := 30) G B rfl dX10_account_30 (by rw [k_account, if_neg c1, if_pos c2]; exact ⟨rfl, rfl⟩)
  exact z_IOOBE (pc := 13) G B B2 hout (is := 476) (text := "no such account") (by decide +kernel) dX10_account_13 dX10_account_16 (Or.inr ⟨dX10_account_17, dX10_account_20, dX10_account_23⟩) ⟨Nat.le_of_ble_eq_true rfl, Nat.le_of_ble_eq_true rfl⟩ (Nat.le_of_ble_eq_true rfl) (Nat.le_of_ble_eq_true rfl) (by rw [k_account, if_neg c1, if_neg c2]; exact ⟨rfl, rfl⟩)
theorem dX10_isSampled_0 : decode cX10_isSampled 0 = .ok (.iload_n 1, 1) := by decide +kernel
theorem dX10_isSampled_1 : decode cX10_isSampled 1 = .ok (.iconst 0, 1) := by decide +kernel
theorem dX10_isSampled_2 : decode cX10_isSampled 2 = .ok (.iconst 2, 1) := by decide +kernel
theorem dX10_isSampled_3 : decode cX10_isSampled 3 = .ok (.invokestatic 92, 3) := by decide +kernel
theorem dX10_isSampled_6 : decode cX10_isSampled 6 = .ok (.iload_n 2, 1) := by decide +kernel
theorem dX10_isSampled_7 : decode cX10_isSampled 7 = .ok (.aload_n 0, 1) := by decide +kernel
theorem dX10_isSampled_8 : decode cX10_isSampled 8 = .ok (.iload_n 1, 1) := by decide +kernel
theorem dX10_isSampled_9 : decode cX10_isSampled 9 = .ok (.invokevirtual 478, 3) := by decide +kernel
theorem dX10_isSampled_12 : decode cX10_isSampled 12 = .ok (.invokestatic 156, 3) := by decide +kernel
theorem dX10_isSampled_15 : decode cX10_isSampled 15 = .ok (.ldc_w 482, 3) := by decide +kernel
theorem dX10_isSampled_18 : decode cX10_isSampled 18 = .ok (.bipush 100, 2) := by decide +kernel
theorem dX10_isSampled_20 : decode cX10_isSampled 20 = .ok (.iload_n 1, 1) := by decide +kernel
theorem dX10_isSampled_21 : decode cX10_isSampled 21 = .ok (.imul, 1) := by decide +kernel
theorem dX10_isSampled_22 : decode cX10_isSampled 22 = .ok (.iload_n 2, 1) := by decide +kernel
theorem dX10_isSampled_23 : decode cX10_isSampled 23 = .ok (.iadd, 1) := by decide +kernel
theorem dX10_isSampled_24 : decode cX10_isSampled 24 = .ok (.imul, 1) := by decide +kernel
theorem dX10_isSampled_25 : decode cX10_isSampled 25 = .ok (.aload_n 0, 1) := by decide +kernel
theorem dX10_isSampled_26 : decode cX10_isSampled 26 = .ok (.getfield 66, 3) := by decide +kernel
theorem dX10_isSampled_29 : decode cX10_isSampled 29 = .ok (.iadd, 1) := by decide +kernel
theorem dX10_isSampled_30 : decode cX10_isSampled 30 = .ok (.bipush 16, 2) := by decide +kernel
theorem dX10_isSampled_32 : decode cX10_isSampled 32 = .ok (.iushr, 1) := by decide +kernel
theorem dX10_isSampled_33 : decode cX10_isSampled 33 = .ok (.istore_n 3, 1) := by decide +kernel
theorem dX10_isSampled_34 : decode cX10_isSampled 34 = .ok (.iload_n 3, 1) := by decide +kernel
theorem dX10_isSampled_35 : decode cX10_isSampled 35 = .ok (.bipush 100, 2) := by decide +kernel
theorem dX10_isSampled_37 : decode cX10_isSampled 37 = .ok (.irem, 1) := by decide +kernel
theorem dX10_isSampled_38 : decode cX10_isSampled 38 = .ok (.aload_n 0, 1) := by decide +kernel
theorem dX10_isSampled_39 : decode cX10_isSampled 39 = .ok (.getfield 69, 3) := by decide +kernel
theorem dX10_isSampled_42 : decode cX10_isSampled 42 = .ok (.if_icmp .ge 7, 3) := by decide +kernel
theorem dX10_isSampled_45 : decode cX10_isSampled 45 = .ok (.iconst 1, 1) := by decide +kernel
theorem dX10_isSampled_46 : decode cX10_isSampled 46 = .ok (.goto 4, 3) := by decide +kernel
theorem dX10_isSampled_49 : decode cX10_isSampled 49 = .ok (.iconst 0, 1) := by decide +kernel
theorem dX10_isSampled_50 : decode cX10_isSampled 50 = .ok (.ireturn, 1) := by decide +kernel
def k_isSampled (p1 : Int32) (p2 : Int32) (X : CX) (S : CT) : (Int32 × CT) ⊕ String :=
    if P_in p1 0 2 then
      if P_num p2 (k_countOfKind p1 X S) then
        if (ci S 369 0) ≤ (((((1103515245 * ((100 * p1) + p2)) + (ci S 368 0)).toUInt32 >>> ((16 : Int32).toUInt32 &&& Int32.toUInt32 31)).toInt32) - ((((1103515245 * ((100 * p1) + p2)) + (ci S 368 0)).toUInt32 >>> ((16 : Int32).toUInt32 &&& Int32.toUInt32 31)).toInt32) / 100 * 100) then
          .inl (0, S)
        else
        .inl (1, S)
      else
      .inr "java/lang/IndexOutOfBoundsException"
    else
    .inr "java/lang/IllegalArgumentException"
abbrev rm_X10_isSampled : Room := { frames := 7, cells := 0, slots := 0, locals := 112 }
abbrev rmt_X10_isSampled : Room := { frames := 7, cells := 1, slots := 6, locals := 112 }
set_option maxRecDepth 100000 in
set_option maxHeartbeats 4000000 in
theorem ck_isSampled {l : Launch} {k : KC} (hl : l.stackTraces = false) {X : CX} {S : CT} (hX : XOK X) {p1 : Int32} {p2 : Int32}  : MC l k yX10_isSampled (.code yX10_isSampled cX10_isSampled 4 (some .boolean)) rmt_X10_isSampled [(vr X 11 0), .int p1, .int p2] (cW k X S) (pOi k X S (k_isSampled p1 p2 X S)) := by
  refine MC.of 1 hl (by decide) (by simp only [lg_sl_vr, lg_sl_i, lg_sl_l, lg_sl_0]; exact Nat.le_of_ble_eq_true rfl) ?_
  intro p e s m args below meth c A Q G B B2 hout
  simp only [lp_args_vr, lp_args_i, lp_args_l, lp_args_0]
  show Wx p l e rmt_X10_isSampled s m args below meth c k A 4 Q 1 6 0 [some ((vr X 11 0)), some (.int p1), some (.int p2), none] [] (cW k X S)
  refine x_iload1 (pc := 0) G dX10_isSampled_0 ?_
  refine x_iconst (pc := 1) (v := 0) G dX10_isSampled_1 ic_0 ?_
  refine x_iconst (pc := 2) (v := 2) G dX10_isSampled_2 ic_2 ?_
  rcases Decidable.em (¬ (P_in p1 0 2)) with c1 | c1
  · exact x_cSt3 (pc := 3) G B B2 hout (no_requireRange hl c1) q_ml_X10_92 h_X10_requireRange ⟨Nat.le_of_ble_eq_true rfl, Nat.le_of_ble_eq_true rfl⟩ (Nat.le_of_ble_eq_true rfl) (Nat.le_refl _) (Nat.le_refl _) dX10_isSampled_3 (by rw [k_isSampled, if_neg c1]; exact ⟨rfl, rfl⟩)
  have c1 := Decidable.not_not.mp c1
  refine x_cSv3 (pc := 3) G (ok_requireRange hl c1) q_ml_X10_92 h_X10_requireRange ⟨Nat.le_of_ble_eq_true rfl, Nat.le_of_ble_eq_true rfl⟩ (Nat.le_of_ble_eq_true rfl) (Nat.le_refl _) (Nat.le_refl _) dX10_isSampled_3 ?_
  refine x_iload2 (pc := 6) G dX10_isSampled_6 ?_
  refine z_aload0 (pc := 7) G vr_r dX10_isSampled_7 ?_
  refine x_iload1 (pc := 8) G dX10_isSampled_8 ?_
  refine z_cV1 (pc := 9) G kb_11 hX.1 hX.l11 (ck_countOfKind hl hX  ) rfl q_ml_X10_478 h_X10_countOfKind ⟨Nat.le_of_ble_eq_true rfl, Nat.le_of_ble_eq_true rfl⟩ (Nat.le_of_ble_eq_true rfl) (Nat.le_refl _) (Nat.le_refl _) dX10_isSampled_9 ?_
  rcases Decidable.em (¬ (P_num p2 (k_countOfKind p1 X S))) with c2 | c2
  · exact x_cSt2 (pc := 12) G B B2 hout (no_requireNumber hl c2) q_ml_X10_156 h_X10_requireNumber ⟨Nat.le_of_ble_eq_true rfl, Nat.le_of_ble_eq_true rfl⟩ (Nat.le_of_ble_eq_true rfl) (Nat.le_refl _) (Nat.le_refl _) dX10_isSampled_12 (by rw [k_isSampled, if_pos c1, if_neg c2]; exact ⟨rfl, rfl⟩)
  have c2 := Decidable.not_not.mp c2
  refine x_cSv2 (pc := 12) G (ok_requireNumber hl c2) q_ml_X10_156 h_X10_requireNumber ⟨Nat.le_of_ble_eq_true rfl, Nat.le_of_ble_eq_true rfl⟩ (Nat.le_of_ble_eq_true rfl) (Nat.le_refl _) (Nat.le_refl _) dX10_isSampled_12 ?_
  refine x_ldcw (pc := 15) G q_cs_X10_482 dX10_isSampled_15 ?_
  refine x_bipush (pc := 18) (v := 100) G dX10_isSampled_18 bp_100 ?_
  refine x_iload1 (pc := 20) G dX10_isSampled_20 ?_
  refine x_imul (pc := 21) G dX10_isSampled_21 ?_
  refine x_iload2 (pc := 22) G dX10_isSampled_22 ?_
  refine x_iadd (pc := 23) G dX10_isSampled_23 ?_
  refine x_imul (pc := 24) G dX10_isSampled_24 ?_
  refine z_aload0 (pc := 25) G vr_r dX10_isSampled_25 ?_
  refine z_g (pc := 26) (f := 368) (x := 0) (v := (.int (ci S 368 0))) G kb_11 gb_X10_66 rfl hX.1 hX.l11 cr_368 dX10_isSampled_26 ?_
  refine x_iadd (pc := 29) G dX10_isSampled_29 ?_
  refine x_bipush (pc := 30) (v := 16) G dX10_isSampled_30 bp_16 ?_
  refine x_iushr (pc := 32) (v := ((((1103515245 * ((100 * p1) + p2)) + (ci S 368 0)).toUInt32 >>> ((16 : Int32).toUInt32 &&& Int32.toUInt32 31)).toInt32)) G dX10_isSampled_32 rfl ?_
  refine x_istore3 (pc := 33) G dX10_isSampled_33 (Nat.le_of_ble_eq_true rfl) rfl ?_
  refine x_iload3 (pc := 34) G dX10_isSampled_34 ?_
  refine x_bipush (pc := 35) (v := 100) G dX10_isSampled_35 bp_100 ?_
  refine x_irem (pc := 37) G dX10_isSampled_37 (by decide) ?_
  refine z_aload0 (pc := 38) G vr_r dX10_isSampled_38 ?_
  refine z_g (pc := 39) (f := 369) (x := 0) (v := (.int (ci S 369 0))) G kb_11 gb_X10_69 rfl hX.1 hX.l11 cr_369 dX10_isSampled_39 ?_
  refine x_icmp_ge (pc := 42) (tgt := 49) G dX10_isSampled_42 rfl (fun c3 => ?_) (fun c3 => ?_)
  · refine x_iconst (pc := 49) (v := 0) G dX10_isSampled_49 ic_0 ?_
    exact x_zret (pc := 50) G B rfl (by decide) dX10_isSampled_50 (by rw [k_isSampled, if_pos c1, if_pos c2, if_pos c3]; exact ⟨rfl, rfl⟩)
  refine x_iconst (pc := 45) (v := 1) G dX10_isSampled_45 ic_1 ?_
  refine x_goto (pc := 46) (tgt := 50) G dX10_isSampled_46 rfl ?_
  exact x_zret (pc := 50) G B rfl (by decide) dX10_isSampled_50 (by rw [k_isSampled, if_pos c1, if_pos c2, if_neg c3]; exact ⟨rfl, rfl⟩)
