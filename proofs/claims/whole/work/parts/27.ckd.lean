theorem pn_lt {i n : Nat} (h : i < n) (hn : n < 2 ^ 30) : P_num (nI i) (nI n) := ⟨nI_pos' (by omega), nI_lt h (by omega)⟩
theorem dX7_total_0 : decode cX7_total 0 = .ok (.lconst 0, 1) := by decide +kernel
theorem dX7_total_1 : decode cX7_total 1 = .ok (.lstore_n 1, 1) := by decide +kernel
theorem dX7_total_2 : decode cX7_total 2 = .ok (.iconst 0, 1) := by decide +kernel
theorem dX7_total_3 : decode cX7_total 3 = .ok (.istore_n 3, 1) := by decide +kernel
theorem dX7_total_4 : decode cX7_total 4 = .ok (.iload_n 3, 1) := by decide +kernel
theorem dX7_total_5 : decode cX7_total 5 = .ok (.aload_n 0, 1) := by decide +kernel
theorem dX7_total_6 : decode cX7_total 6 = .ok (.getfield 12, 3) := by decide +kernel
theorem dX7_total_9 : decode cX7_total 9 = .ok (.invokevirtual 50, 3) := by decide +kernel
theorem dX7_total_12 : decode cX7_total 12 = .ok (.if_icmp .ge 38, 3) := by decide +kernel
theorem dX7_total_15 : decode cX7_total 15 = .ok (.aload_n 0, 1) := by decide +kernel
theorem dX7_total_16 : decode cX7_total 16 = .ok (.getfield 12, 3) := by decide +kernel
theorem dX7_total_19 : decode cX7_total 19 = .ok (.iload_n 3, 1) := by decide +kernel
theorem dX7_total_20 : decode cX7_total 20 = .ok (.invokevirtual 54, 3) := by decide +kernel
theorem dX7_total_23 : decode cX7_total 23 = .ok (.checkcast 58, 3) := by decide +kernel
theorem dX7_total_26 : decode cX7_total 26 = .ok (.astore 4, 2) := by decide +kernel
theorem dX7_total_28 : decode cX7_total 28 = .ok (.lload_n 1, 1) := by decide +kernel
theorem dX7_total_29 : decode cX7_total 29 = .ok (.aload 4, 2) := by decide +kernel
theorem dX7_total_31 : decode cX7_total 31 = .ok (.getfield 60, 3) := by decide +kernel
theorem dX7_total_34 : decode cX7_total 34 = .ok (.i2l, 1) := by decide +kernel
theorem dX7_total_35 : decode cX7_total 35 = .ok (.aload 4, 2) := by decide +kernel
theorem dX7_total_37 : decode cX7_total 37 = .ok (.getfield 63, 3) := by decide +kernel
theorem dX7_total_40 : decode cX7_total 40 = .ok (.i2l, 1) := by decide +kernel
theorem dX7_total_41 : decode cX7_total 41 = .ok (.lmul, 1) := by decide +kernel
theorem dX7_total_42 : decode cX7_total 42 = .ok (.ladd, 1) := by decide +kernel
theorem dX7_total_43 : decode cX7_total 43 = .ok (.lstore_n 1, 1) := by decide +kernel
theorem dX7_total_44 : decode cX7_total 44 = .ok (.iinc 3 1, 3) := by decide +kernel
theorem dX7_total_47 : decode cX7_total 47 = .ok (.goto (-43), 3) := by decide +kernel
theorem dX7_total_50 : decode cX7_total 50 = .ok (.lload_n 1, 1) := by decide +kernel
theorem dX7_total_51 : decode cX7_total 51 = .ok (.lreturn, 1) := by decide +kernel
def kst_total (t : Int32)  (X : CX) (S : CT) (x : Int32) (a0 : Int64)  : Int64 :=
    (a0 + (((ci S 130 (4 * t + x)).toInt64) * ((xi X 129 (4 * t + x)).toInt64)))
def kit_total (t : Int32)  (X : CX) (S : CT) : Nat → Int64
  | 0 => 0
  | i + 1 => kst_total t X S (nI i) (kit_total t X S i)
def k_total (t : Int32)  (X : CX) (S : CT) : Int64 :=
    kit_total t X S (xSz X 29 (t : Int32).toNatClampNeg)
abbrev rm_X7_total : Room := { frames := 3, cells := 0, slots := 0, locals := 64 }
set_option maxRecDepth 100000 in
set_option maxHeartbeats 40000000 in
theorem ck_total {l : Launch} {k : KC} (hl : l.stackTraces = false) {X : CX} {S : CT} (hX : XOK X) {t : Int32}  (ht : lI X 8 t)  : MC l k yX7_total (.code yX7_total cX7_total 5 (some .long)) rm_X7_total [(vr X 8 t)] (cW k X S) (pR (some (.long (k_total t X S))) (cW k X S)) := by
  refine MC.of 4 hl (by decide) (by simp only [lg_sl_vr, lg_sl_i, lg_sl_l, lg_sl_0]; exact Nat.le_of_ble_eq_true rfl) ?_
  intro p e s m args below meth c A Q G B B2 hout
  simp only [lp_args_vr, lp_args_i, lp_args_l, lp_args_0]
  show Wx p l e rm_X7_total s m args below meth c k A 5 Q 0 0 0 [some ((vr X 8 t)), none, none, none, none] [] (cW k X S)
  obtain ⟨n, en⟩ : ∃ n, n = (xSz X 29 (t : Int32).toNatClampNeg) := ⟨_, rfl⟩
  have hn : n < 2 ^ 30 := by rw [en]; exact Nat.lt_of_le_of_lt (hX.lw29 ht).2.2.1 (hX.lw29 ht).2.2.2.1
  have eN : nS X 29 t = nI n := by rw [en]; rfl
  refine x_lconst (pc := 0) (v := 0) G dX7_total_0 lc_0 ?_
  refine x_lstore1 (pc := 1) G dX7_total_1 (Nat.le_of_ble_eq_true rfl) lp_c2_vr ?_
  refine x_iconst (pc := 2) (v := 0) G dX7_total_2 ic_0 ?_
  refine x_istore3 (pc := 3) G dX7_total_3 (Nat.le_of_ble_eq_true rfl) rfl ?_
  have hF : k_total t X S = kit_total t X S n := by rw [k_total, ← en]
  have loop : ∀ f i : Nat, i ≤ n → n - i < f → Wx p l e rm_X7_total s m args below meth c k A 5 Q 0 0 4 [some ((vr X 8 t)), some (.long (kit_total t X S i)), none, some (.int (nI i)), none] [] (cW k X S) := by
    intro f
    induction f with
    | zero => intro i _ h9; omega
    | succ f ih =>
      intro i hi hf
      refine x_iload3 (pc := 4) G dX7_total_4 ?_
      refine z_aload0 (pc := 5) G vr_r dX7_total_5 ?_
      refine z_g (pc := 6) (f := 258) (x := t) (v := (aR X 29 t)) G kb_8 gb_X7_12 rfl hX.1 ht cr_258 dX7_total_6 ?_
      refine z_size (pc := 9) (Li := 29) (x := t) G hX.1 (hX.lw29 ht) q_ml_X7_50 ⟨Nat.le_of_ble_eq_true rfl, Nat.le_of_ble_eq_true rfl⟩ (Nat.le_of_ble_eq_true rfl) dX7_total_9 ?_
      refine x_icmp_ge (pc := 12) (tgt := 50) G dX7_total_12 rfl (fun c1 => ?_) (fun c1 => ?_)
      · have ei : i = n := lp_end eN c1 hi (by omega)
        refine x_lload1 (pc := 50) G dX7_total_50 ?_
        exact x_lret (pc := 51) G B rfl dX7_total_51 ⟨by rw [hF, ← ei], rfl⟩
      have hlt := lp_lt eN c1 hi (by omega)
      refine z_aload0 (pc := 15) G vr_r dX7_total_15 ?_
      refine z_g (pc := 16) (f := 258) (x := t) (v := (aR X 29 t)) G kb_8 gb_X7_12 rfl hX.1 ht cr_258 dX7_total_16 ?_
      refine x_iload3 (pc := 19) G dX7_total_19 ?_
      refine z_get (pc := 20) (Li := 29) (kd := 4) (x := t) (y := (nI i)) (z := (4 * t + (nI i))) G hX.1 (hX.lw29 ht) (by rw [eN]; exact pn_lt hlt hn) (hX.el29 ht (by rw [eN]; exact pn_lt hlt hn)) rfl (hX.ei29 ht (by rw [eN]; exact pn_lt hlt hn)) q_ml_X7_54 ⟨Nat.le_of_ble_eq_true rfl, Nat.le_of_ble_eq_true rfl⟩ (Nat.le_of_ble_eq_true rfl) dX7_total_20 ?_
      refine z_cast (pc := 23) G kb_4 hX.1 (hX.el29 ht (by rw [eN]; exact pn_lt hlt hn)) q_cl_X7_58 dX7_total_23 ?_
      refine z_astore4 (pc := 26) G vr_r dX7_total_26 (Nat.le_of_ble_eq_true rfl) rfl ?_
      refine x_lload1 (pc := 28) G dX7_total_28 ?_
      refine z_aload4 (pc := 29) G vr_r dX7_total_29 ?_
      refine z_g (pc := 31) (f := 130) (x := (4 * t + (nI i))) (v := (.int (ci S 130 (4 * t + (nI i))))) G kb_4 gb_X7_60 rfl hX.1 (hX.el29 ht (by rw [eN]; exact pn_lt hlt hn)) cr_130 dX7_total_31 ?_
      refine x_i2l (pc := 34) G dX7_total_34 ?_
      refine z_aload4 (pc := 35) G vr_r dX7_total_35 ?_
      refine z_g (pc := 37) (f := 129) (x := (4 * t + (nI i))) (v := (.int (xi X 129 (4 * t + (nI i))))) G kb_4 gb_X7_63 rfl hX.1 (hX.el29 ht (by rw [eN]; exact pn_lt hlt hn)) cr_129 dX7_total_37 ?_
      refine x_i2l (pc := 40) G dX7_total_40 ?_
      refine x_lmul (pc := 41) G dX7_total_41 ?_
      refine x_ladd (pc := 42) G dX7_total_42 ?_
      refine x_lstore1 (pc := 43) G dX7_total_43 (Nat.le_of_ble_eq_true rfl) lp_c2_vr ?_
      refine x_iinc3 (pc := 44) (v := ((nI i) + 1)) G dX7_total_44 (by rfl) (Nat.le_of_ble_eq_true rfl) rfl ?_
      refine x_goto (pc := 47) (tgt := 4) G dX7_total_47 rfl ?_
      refine xdrop4 ?_
      have h9 := ih (i + 1) (by omega) (by omega)
      rw [show kit_total t X S (i + 1) = ((kit_total t X S i) + (((ci S 130 (4 * t + (nI i))).toInt64) * ((xi X 129 (4 * t + (nI i))).toInt64))) from by show kst_total t X S (nI i) (kit_total t X S i) = _; rw [kst_total]] at h9
      rw [← nI_1 i] at h9
      exact h9
  exact loop (n + 1) 0 (by omega) (by omega)
theorem dX7_receivedUnbooked_0 : decode cX7_receivedUnbooked 0 = .ok (.lconst 0, 1) := by decide +kernel
theorem dX7_receivedUnbooked_1 : decode cX7_receivedUnbooked 1 = .ok (.lstore_n 1, 1) := by decide +kernel
theorem dX7_receivedUnbooked_2 : decode cX7_receivedUnbooked 2 = .ok (.iconst 0, 1) := by decide +kernel
theorem dX7_receivedUnbooked_3 : decode cX7_receivedUnbooked 3 = .ok (.istore_n 3, 1) := by decide +kernel
theorem dX7_receivedUnbooked_4 : decode cX7_receivedUnbooked 4 = .ok (.iload_n 3, 1) := by decide +kernel
theorem dX7_receivedUnbooked_5 : decode cX7_receivedUnbooked 5 = .ok (.aload_n 0, 1) := by decide +kernel
theorem dX7_receivedUnbooked_6 : decode cX7_receivedUnbooked 6 = .ok (.getfield 12, 3) := by decide +kernel
theorem dX7_receivedUnbooked_9 : decode cX7_receivedUnbooked 9 = .ok (.invokevirtual 50, 3) := by decide +kernel
theorem dX7_receivedUnbooked_12 : decode cX7_receivedUnbooked 12 = .ok (.if_icmp .ge 52, 3) := by decide +kernel
theorem dX7_receivedUnbooked_15 : decode cX7_receivedUnbooked 15 = .ok (.aload_n 0, 1) := by decide +kernel
theorem dX7_receivedUnbooked_16 : decode cX7_receivedUnbooked 16 = .ok (.getfield 12, 3) := by decide +kernel
theorem dX7_receivedUnbooked_19 : decode cX7_receivedUnbooked 19 = .ok (.iload_n 3, 1) := by decide +kernel
theorem dX7_receivedUnbooked_20 : decode cX7_receivedUnbooked 20 = .ok (.invokevirtual 54, 3) := by decide +kernel
theorem dX7_receivedUnbooked_23 : decode cX7_receivedUnbooked 23 = .ok (.checkcast 58, 3) := by decide +kernel
theorem dX7_receivedUnbooked_26 : decode cX7_receivedUnbooked 26 = .ok (.astore 4, 2) := by decide +kernel
theorem dX7_receivedUnbooked_28 : decode cX7_receivedUnbooked 28 = .ok (.aload 4, 2) := by decide +kernel
theorem dX7_receivedUnbooked_30 : decode cX7_receivedUnbooked 30 = .ok (.getfield 69, 3) := by decide +kernel
theorem dX7_receivedUnbooked_33 : decode cX7_receivedUnbooked 33 = .ok (.ifCond .ne 25, 3) := by decide +kernel
theorem dX7_receivedUnbooked_36 : decode cX7_receivedUnbooked 36 = .ok (.lload_n 1, 1) := by decide +kernel
theorem dX7_receivedUnbooked_37 : decode cX7_receivedUnbooked 37 = .ok (.aload 4, 2) := by decide +kernel
theorem dX7_receivedUnbooked_39 : decode cX7_receivedUnbooked 39 = .ok (.getfield 73, 3) := by decide +kernel
theorem dX7_receivedUnbooked_42 : decode cX7_receivedUnbooked 42 = .ok (.aload 4, 2) := by decide +kernel
theorem dX7_receivedUnbooked_44 : decode cX7_receivedUnbooked 44 = .ok (.getfield 76, 3) := by decide +kernel
theorem dX7_receivedUnbooked_47 : decode cX7_receivedUnbooked 47 = .ok (.isub, 1) := by decide +kernel
theorem dX7_receivedUnbooked_48 : decode cX7_receivedUnbooked 48 = .ok (.i2l, 1) := by decide +kernel
theorem dX7_receivedUnbooked_49 : decode cX7_receivedUnbooked 49 = .ok (.aload 4, 2) := by decide +kernel
theorem dX7_receivedUnbooked_51 : decode cX7_receivedUnbooked 51 = .ok (.getfield 63, 3) := by decide +kernel
theorem dX7_receivedUnbooked_54 : decode cX7_receivedUnbooked 54 = .ok (.i2l, 1) := by decide +kernel
theorem dX7_receivedUnbooked_55 : decode cX7_receivedUnbooked 55 = .ok (.lmul, 1) := by decide +kernel
theorem dX7_receivedUnbooked_56 : decode cX7_receivedUnbooked 56 = .ok (.ladd, 1) := by decide +kernel
theorem dX7_receivedUnbooked_57 : decode cX7_receivedUnbooked 57 = .ok (.lstore_n 1, 1) := by decide +kernel
theorem dX7_receivedUnbooked_58 : decode cX7_receivedUnbooked 58 = .ok (.iinc 3 1, 3) := by decide +kernel
theorem dX7_receivedUnbooked_61 : decode cX7_receivedUnbooked 61 = .ok (.goto (-57), 3) := by decide +kernel
theorem dX7_receivedUnbooked_64 : decode cX7_receivedUnbooked 64 = .ok (.lload_n 1, 1) := by decide +kernel
theorem dX7_receivedUnbooked_65 : decode cX7_receivedUnbooked 65 = .ok (.lreturn, 1) := by decide +kernel
def kst_receivedUnbooked (t : Int32)  (X : CX) (S : CT) (x : Int32) (a0 : Int64)  : Int64 :=
    if (xi X 128 (4 * t + x)) = 0 then
      (a0 + ((((ci S 131 (4 * t + x)) - (ci S 132 (4 * t + x))).toInt64) * ((xi X 129 (4 * t + x)).toInt64)))
    else
    a0
def kit_receivedUnbooked (t : Int32)  (X : CX) (S : CT) : Nat → Int64
  | 0 => 0
  | i + 1 => kst_receivedUnbooked t X S (nI i) (kit_receivedUnbooked t X S i)
def k_receivedUnbooked (t : Int32)  (X : CX) (S : CT) : Int64 :=
    kit_receivedUnbooked t X S (xSz X 29 (t : Int32).toNatClampNeg)
abbrev rm_X7_receivedUnbooked : Room := { frames := 3, cells := 0, slots := 0, locals := 64 }
set_option maxRecDepth 100000 in
set_option maxHeartbeats 40000000 in
theorem ck_receivedUnbooked {l : Launch} {k : KC} (hl : l.stackTraces = false) {X : CX} {S : CT} (hX : XOK X) {t : Int32}  (ht : lI X 8 t)  : MC l k yX7_receivedUnbooked (.code yX7_receivedUnbooked cX7_receivedUnbooked 5 (some .long)) rm_X7_receivedUnbooked [(vr X 8 t)] (cW k X S) (pR (some (.long (k_receivedUnbooked t X S))) (cW k X S)) := by
  refine MC.of 4 hl (by decide) (by simp only [lg_sl_vr, lg_sl_i, lg_sl_l, lg_sl_0]; exact Nat.le_of_ble_eq_true rfl) ?_
  intro p e s m args below meth c A Q G B B2 hout
  simp only [lp_args_vr, lp_args_i, lp_args_l, lp_args_0]
  show Wx p l e rm_X7_receivedUnbooked s m args below meth c k A 5 Q 0 0 0 [some ((vr X 8 t)), none, none, none, none] [] (cW k X S)
  obtain ⟨n, en⟩ : ∃ n, n = (xSz X 29 (t : Int32).toNatClampNeg) := ⟨_, rfl⟩
  have hn : n < 2 ^ 30 := by rw [en]; exact Nat.lt_of_le_of_lt (hX.lw29 ht).2.2.1 (hX.lw29 ht).2.2.2.1
  have eN : nS X 29 t = nI n := by rw [en]; rfl
  refine x_lconst (pc := 0) (v := 0) G dX7_receivedUnbooked_0 lc_0 ?_
  refine x_lstore1 (pc := 1) G dX7_receivedUnbooked_1 (Nat.le_of_ble_eq_true rfl) lp_c2_vr ?_
  refine x_iconst (pc := 2) (v := 0) G dX7_receivedUnbooked_2 ic_0 ?_
  refine x_istore3 (pc := 3) G dX7_receivedUnbooked_3 (Nat.le_of_ble_eq_true rfl) rfl ?_
  have hF : k_receivedUnbooked t X S = kit_receivedUnbooked t X S n := by rw [k_receivedUnbooked, ← en]
  have loop : ∀ f i : Nat, i ≤ n → n - i < f → Wx p l e rm_X7_receivedUnbooked s m args below meth c k A 5 Q 0 0 4 [some ((vr X 8 t)), some (.long (kit_receivedUnbooked t X S i)), none, some (.int (nI i)), none] [] (cW k X S) := by
    intro f
    induction f with
    | zero => intro i _ h9; omega
    | succ f ih =>
      intro i hi hf
      refine x_iload3 (pc := 4) G dX7_receivedUnbooked_4 ?_
      refine z_aload0 (pc := 5) G vr_r dX7_receivedUnbooked_5 ?_
      refine z_g (pc := 6) (f := 258) (x := t) (v := (aR X 29 t)) G kb_8 gb_X7_12 rfl hX.1 ht cr_258 dX7_receivedUnbooked_6 ?_
      refine z_size (pc := 9) (Li := 29) (x := t) G hX.1 (hX.lw29 ht) q_ml_X7_50 ⟨Nat.le_of_ble_eq_true rfl, Nat.le_of_ble_eq_true rfl⟩ (Nat.le_of_ble_eq_true rfl) dX7_receivedUnbooked_9 ?_
      refine x_icmp_ge (pc := 12) (tgt := 64) G dX7_receivedUnbooked_12 rfl (fun c1 => ?_) (fun c1 => ?_)
      · have ei : i = n := lp_end eN c1 hi (by omega)
        refine x_lload1 (pc := 64) G dX7_receivedUnbooked_64 ?_
        exact x_lret (pc := 65) G B rfl dX7_receivedUnbooked_65 ⟨by rw [hF, ← ei], rfl⟩
      have hlt := lp_lt eN c1 hi (by omega)
      refine z_aload0 (pc := 15) G vr_r dX7_receivedUnbooked_15 ?_
      refine z_g (pc := 16) (f := 258) (x := t) (v := (aR X 29 t)) G kb_8 gb_X7_12 rfl hX.1 ht cr_258 dX7_receivedUnbooked_16 ?_
      refine x_iload3 (pc := 19) G dX7_receivedUnbooked_19 ?_
      refine z_get (pc := 20) (Li := 29) (kd := 4) (x := t) (y := (nI i)) (z := (4 * t + (nI i))) G hX.1 (hX.lw29 ht) (by rw [eN]; exact pn_lt hlt hn) (hX.el29 ht (by rw [eN]; exact pn_lt hlt hn)) rfl (hX.ei29 ht (by rw [eN]; exact pn_lt hlt hn)) q_ml_X7_54 ⟨Nat.le_of_ble_eq_true rfl, Nat.le_of_ble_eq_true rfl⟩ (Nat.le_of_ble_eq_true rfl) dX7_receivedUnbooked_20 ?_
      refine z_cast (pc := 23) G kb_4 hX.1 (hX.el29 ht (by rw [eN]; exact pn_lt hlt hn)) q_cl_X7_58 dX7_receivedUnbooked_23 ?_
      refine z_astore4 (pc := 26) G vr_r dX7_receivedUnbooked_26 (Nat.le_of_ble_eq_true rfl) rfl ?_
      refine z_aload4 (pc := 28) G vr_r dX7_receivedUnbooked_28 ?_
      refine z_g (pc := 30) (f := 128) (x := (4 * t + (nI i))) (v := (.int (xi X 128 (4 * t + (nI i))))) G kb_4 gb_X7_69 rfl hX.1 (hX.el29 ht (by rw [eN]; exact pn_lt hlt hn)) cr_128 dX7_receivedUnbooked_30 ?_
      refine x_if_ne (pc := 33) (y := 0) (tgt := 58) G dX7_receivedUnbooked_33 rfl (fun c2 => ?_) (fun c2 => ?_)
      · refine x_iinc3 (pc := 58) (v := ((nI i) + 1)) G dX7_receivedUnbooked_58 (by rfl) (Nat.le_of_ble_eq_true rfl) rfl ?_
        refine x_goto (pc := 61) (tgt := 4) G dX7_receivedUnbooked_61 rfl ?_
        refine xdrop4 ?_
        have h9 := ih (i + 1) (by omega) (by omega)
        rw [show kit_receivedUnbooked t X S (i + 1) = (kit_receivedUnbooked t X S i) from by show kst_receivedUnbooked t X S (nI i) (kit_receivedUnbooked t X S i) = _; rw [kst_receivedUnbooked, if_neg c2]] at h9
        rw [← nI_1 i] at h9
        exact h9
      refine x_lload1 (pc := 36) G dX7_receivedUnbooked_36 ?_
      refine z_aload4 (pc := 37) G vr_r dX7_receivedUnbooked_37 ?_
      refine z_g (pc := 39) (f := 131) (x := (4 * t + (nI i))) (v := (.int (ci S 131 (4 * t + (nI i))))) G kb_4 gb_X7_73 rfl hX.1 (hX.el29 ht (by rw [eN]; exact pn_lt hlt hn)) cr_131 dX7_receivedUnbooked_39 ?_
      refine z_aload4 (pc := 42) G vr_r dX7_receivedUnbooked_42 ?_
      refine z_g (pc := 44) (f := 132) (x := (4 * t + (nI i))) (v := (.int (ci S 132 (4 * t + (nI i))))) G kb_4 gb_X7_76 rfl hX.1 (hX.el29 ht (by rw [eN]; exact pn_lt hlt hn)) cr_132 dX7_receivedUnbooked_44 ?_
      refine x_isub (pc := 47) G dX7_receivedUnbooked_47 ?_
      refine x_i2l (pc := 48) G dX7_receivedUnbooked_48 ?_
      refine z_aload4 (pc := 49) G vr_r dX7_receivedUnbooked_49 ?_
      refine z_g (pc := 51) (f := 129) (x := (4 * t + (nI i))) (v := (.int (xi X 129 (4 * t + (nI i))))) G kb_4 gb_X7_63 rfl hX.1 (hX.el29 ht (by rw [eN]; exact pn_lt hlt hn)) cr_129 dX7_receivedUnbooked_51 ?_
      refine x_i2l (pc := 54) G dX7_receivedUnbooked_54 ?_
      refine x_lmul (pc := 55) G dX7_receivedUnbooked_55 ?_
      refine x_ladd (pc := 56) G dX7_receivedUnbooked_56 ?_
      refine x_lstore1 (pc := 57) G dX7_receivedUnbooked_57 (Nat.le_of_ble_eq_true rfl) lp_c2_vr ?_
      refine x_iinc3 (pc := 58) (v := ((nI i) + 1)) G dX7_receivedUnbooked_58 (by rfl) (Nat.le_of_ble_eq_true rfl) rfl ?_
      refine x_goto (pc := 61) (tgt := 4) G dX7_receivedUnbooked_61 rfl ?_
      refine xdrop4 ?_
      have h9 := ih (i + 1) (by omega) (by omega)
      rw [show kit_receivedUnbooked t X S (i + 1) = ((kit_receivedUnbooked t X S i) + ((((ci S 131 (4 * t + (nI i))) - (ci S 132 (4 * t + (nI i)))).toInt64) * ((xi X 129 (4 * t + (nI i))).toInt64))) from by show kst_receivedUnbooked t X S (nI i) (kit_receivedUnbooked t X S i) = _; rw [kst_receivedUnbooked, if_pos c2]] at h9
      rw [← nI_1 i] at h9
      exact h9
  exact loop (n + 1) 0 (by omega) (by omega)
