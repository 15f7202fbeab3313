theorem pn_lt {i n : Nat} (h : i < n) (hn : n < 2 ^ 30) : P_num (nI i) (nI n) := ⟨nI_pos' (by omega), nI_lt h (by omega)⟩
theorem dX7_total_0 : decode cX7_total 0 = .ok (.lconst 0, 1) := by decide +kernel
theorem dX7_total_1 : decode cX7_total 1 = .ok (.lstore_n 1, 1) := by decide +kernel
theorem dX7_total_2 : decode cX7_total 2 = .ok (.iconst 0, 1) := by decide +kernel
theorem dX7_total_3 : decode cX7_total 3 = .ok (.istore_n 3, 1) := by decide +kernel
theorem dX7_total_4 : decode cX7_total 4 = .ok (.iload_n 3, 1) := by decide +kernel
theorem dX7_total_5 : decode cX7_total 5 = .ok (.aload_n 0, 1) := by decide +kernel
theorem dX7_total_6 : decode cX7_total 6 = .ok (.getfield 12, 3) := by decide +kernel
theorem dX7_total_9 : decode cX7_total 9 = .ok (.invokevirtual 50, 3) := by decide +kernel
theorem dX7_total_12 : decode cX7_total 12 = .ok (.if_icmp .ge 38, 3) := by decide +kernel
theorem dX7_total_15 : decode cX7_total 15 = .ok (.aload_n 0, 1) := by decide +kernel
theorem dX7_total_16 : decode cX7_total 16 = .ok (.getfield 12, 3) := by decide +kernel
theorem dX7_total_19 : decode cX7_total 19 = .ok (.iload_n 3, 1) := by decide +kernel
theorem dX7_total_20 : decode cX7_total 20 = .ok (.invokevirtual 54, 3) := by decide +kernel
theorem dX7_total_23 : decode cX7_total 23 = .ok (.checkcast 58, 3) := by decide +kernel
theorem dX7_total_26 : decode cX7_total 26 = .ok (.astore 4, 2) := by decide +kernel
theorem dX7_total_28 : decode cX7_total 28 = .ok (.lload_n 1, 1) := by decide +kernel
theorem dX7_total_29 : decode cX7_total 29 = .ok (.aload 4, 2) := by decide +kernel
theorem dX7_total_31 : decode cX7_total 31 = .ok (.getfield 60, 3) := by decide +kernel
theorem dX7_total_34 : decode cX7_total 34 = .ok (.i2l, 1) := by decide +kernel
theorem dX7_total_35 : decode cX7_total 35 = .ok (.aload 4, 2) := by decide +kernel
theorem dX7_total_37 : decode cX7_total 37 = .ok (.getfield 63, 3) := by decide +kernel
theorem dX7_total_40 : decode cX7_total 40 = .ok (.i2l, 1) := by decide +kernel
theorem dX7_total_41 : decode cX7_total 41 = .ok (.lmul, 1) := by decide +kernel
theorem dX7_total_42 : decode cX7_total 42 = .ok (.ladd, 1) := by decide +kernel
theorem dX7_total_43 : decode cX7_total 43 = .ok (.lstore_n 1, 1) := by decide +kernel
theorem dX7_total_44 : decode cX7_total 44 = .ok (.iinc 3 1, 3) := by decide +kernel
theorem dX7_total_47 : decode cX7_total 47 = .ok (.goto (-43), 3) := by decide +kernel
theorem dX7_total_50 : decode cX7_total 50 = .ok (.lload_n 1, 1) := by decide +kernel
theorem dX7_total_51 : decode cX7_total 51 = .ok (.lreturn, 1) := by decide +kernel
def kst_total (t : Int32)  (X : CX) (S : CT) (x : Int32) (a0 : Int64)  : Int64 :=
    (a0 + (((ci S 130 (4 * t + x)).toInt64) * ((xi X 129 (4 * t + x)).toInt64)))
def kit_total (t : Int32)  (X : CX) (S : CT) : Nat → Int64
  | 0 => 0
  | i + 1 => kst_total t X S (nI i) (kit_total t X S i)
def k_total (t : Int32)  (X : CX) (S : CT) : Int64 :=
    kit_total t X S (xSz X 29 (t : Int32).toNatClampNeg)
abbrev rm_X7_total : Room := { frames := 3, cells := 0, slots := 0, locals := 64 }
set_option maxRecDepth 100000 in
set_option maxHeartbeats 40000000 in
theorem ck_total {l : Launch} {k : KC} (hl : l.stackTraces = false) {X : CX} {S : CT} (hX : XOK X) {t : Int32}  (ht : lI X 8 t)  : MC l k yX7_total (.code yX7_total cX7_total 5 (some .long)) rm_X7_total [(vr X 8 t)] (cW k X S) (pR (some (.long (k_total t X S))) (cW k X S)) := by
  refine MC.of 4 hl (by decide) (by simp only [lg_sl_vr, lg_sl_i, lg_sl_l, lg_sl_0]; exact Nat.le_of_ble_eq_true rfl) ?_
  intro p e s m args below meth c A Q G B B2 hout
  simp only [lp_args_vr, lp_args_i, lp_args_l, lp_args_0]
  show Wx p l e rm_X7_total s m args below meth c k A 5 Q 0 0 0 [some ((vr X 8 t)), none, none, none, none] [] (cW k X S)
  obtain ⟨n, en⟩ : ∃ n, n = (xSz X 29 (t : Int32).toNatClampNeg) := ⟨_, rfl⟩
  have hn : n < 2 ^ 30 := by rw [en]; exact Nat.lt_of_le_of_lt (hX.lw29 ht).2.2.1 (hX.lw29 ht).2.2.2.1
  have eN : nS X 29 t = nI n := by rw [en]; rfl
  refine x_lconst (pc := 0) (v := 0) G dX7_total_0 lc_0 ?_
  refine x_lstore1 (pc := 1) G dX7_total_1 (Nat.le_of_ble_eq_true rfl) lp_c2_vr ?_
  refine x_iconst (pc := 2) (v := 0) G dX7_total_2 ic_0 ?_
  refine x_istore3 (pc := 3) G dX7_total_3 (Nat.le_of_ble_eq_true rfl) rfl ?_
  have hF : k_total t X S = kit_total t X S n := by rw [k_total, ← en]
  have loop : ∀ f i : Nat, i ≤ n → n - i < f → Wx p l e rm_X7_total s m args below meth c k A 5 Q 0 0 4 [some ((vr X 8 t)), some (.long (kit_total t X S i)), none, some (.int (nI i)), none] [] (cW k X S) := by
    intro f
    induction f with
    | zero => intro i _ h9; omega
    | succ f ih =>
      intro i hi hf
      refine x_iload3 (pc := 4) G dX7_total_4 ?_
      refine z_aload0 (pc := 5) G vr_r dX7_total_5 ?_
      refine z_g (pc := 6) (f := 258) (x := t) (v := (aR X 29 t)) G kb_8 gb_X7_12 rfl hX.1 ht cr_258 dX7_total_6 ?_
      refine z_size (pc := 9) (Li := 29) (x := t) G hX.1 (hX.lw29 ht) q_ml_X7_50 ⟨Nat.le_of_ble_eq_true rfl, Nat.le_of_ble_eq_true rfl⟩ (Nat.le_of_ble_eq_true rfl) dX7_total_9 ?_
      refine x_icmp_ge (pc := 12) (tgt := 50) G dX7_total_12 rfl (fun c1 => ?_) (fun c1 => ?_)
      · have ei : i = n := lp_end eN c1 hi (by omega)
        refine x_lload1 (pc := 50) G dX7_total_50 ?_
        exact x_lret (pc := 51) G B rfl dX7_total_51 ⟨by rw [hF, ← ei], rfl⟩
      have hlt := lp_lt eN c1 hi (by omega)
      refine z_aload0 (pc := 15) G vr_r dX7_total_15 ?_
      refine z_g (pc := 16) (f := 258) (x := t) (v := (aR X 29 t)) G kb_8 gb_X7_12 rfl hX.1 ht cr_258 dX7_total_16 ?_
      refine x_iload3 (pc := 19) G dX7_total_19 ?_
      refine z_get (pc := 20) (Li := 29) (kd := 4) (x := t) (y := (nI i)) (z := (4 * t + (nI i))) G hX.1 (hX.lw29 ht) (by rw [eN]; exact pn_lt hlt hn) (hX.el29 ht (by rw [eN]; exact pn_lt hlt hn)) rfl (hX.ei29 ht (by rw [eN]; exact pn_lt hlt hn)) q_ml_X7_54 ⟨Nat.le_of_ble_eq_true rfl, Nat.le_of_ble_eq_true rfl⟩ (Nat.le_of_ble_eq_true rfl) dX7_total_20 ?_
      refine z_cast (pc := 23) G kb_4 hX.1 (hX.el29 ht (by rw [eN]; exact pn_lt hlt hn)) q_cl_X7_58 dX7_total_23 ?_
      refine z_astore4 (pc := 26) G vr_r dX7_total_26 (Nat.le_of_ble_eq_true rfl) rfl ?_
      refine x_lload1 (pc := 28) G dX7_total_28 ?_
      refine z_aload4 (pc := 29) G vr_r dX7_total_29 ?_
      refine z_g (pc := 31) (f := 130) (x := (4 * t + (nI i))) (v := (.int (ci S 130 (4 * t + (nI i))))) G kb_4 gb_X7_60 rfl hX.1 (hX.el29 ht (by rw [eN]; exact pn_lt hlt hn)) cr_130 dX7_total_31 ?_
      refine x_i2l (pc := 34) G dX7_total_34 ?_
      refine z_aload4 (pc := 35) G vr_r dX7_total_35 ?_
      refine z_g (pc := 37) (f := 129) (x := (4 * t + (nI i))) (v := (.int (xi X 129 (4 * t + (nI i))))) G kb_4 gb_X7_63 rfl hX.1 (hX.el29 ht (by rw [eN]; exact pn_lt hlt hn)) cr_129 dX7_total_37 ?_
      refine x_i2l (pc := 40) G dX7_total_40 ?_
      refine x_lmul (pc := 41) G dX7_total_41 ?_
      refine x_ladd (pc := 42) G dX7_total_42 ?_
      refine x_lstore1 (pc := 43) G dX7_total_43 (Nat.le_of_ble_eq_true rfl) lp_c2_vr ?_
      refine x_iinc3 (pc := 44) (v := ((nI i) + 1)) G dX7_total_44 (by rfl) (Nat.le_of_ble_eq_true rfl) rfl ?_
      refine x_goto (pc := 47) (tgt := 4) G dX7_total_47 rfl ?_
      refine xdrop4 ?_
      have h9 := ih (i + 1) (by omega) (by omega)
      rw [show kit_total t X S (i + 1) = ((kit_total t X S i) + (((ci S 130 (4 * t + (nI i))).toInt64) * ((xi X 129 (4 * t + (nI i))).toInt64))) from by show kst_total t X S (nI i) (kit_total t X S i) = _; rw [kst_total]] at h9
      rw [← nI_1 i] at h9
      exact h9
  exact loop (n + 1) 0 (by omega) (by omega)
theorem dX7_receivedUnbooked_0 : decode cX7_receivedUnbooked 0 = .ok (.lconst 0, 1) := by decide +kernel
theorem dX7_receivedUnbooked_1 : decode cX7_receivedUnbooked 1 = .ok (.lstore_n 1, 1) := by decide +kernel
theorem dX7_receivedUnbooked_2 : decode cX7_receivedUnbooked 2 = .ok (.iconst 0, 1) := by decide +kernel
theorem dX7_receivedUnbooked_3 : decode cX7_receivedUnbooked 3 = .ok (.istore_n 3, 1) := by decide +kernel
theorem dX7_receivedUnbooked_4 : decode cX7_receivedUnbooked 4 = .ok (.iload_n 3, 1) := by decide +kernel
theorem dX7_receivedUnbooked_5 : decode cX7_receivedUnbooked 5 = .ok (.aload_n 0, 1) := by decide +kernel
theorem dX7_receivedUnbooked_6 : decode cX7_receivedUnbooked 6 = .ok (.getfield 12, 3) := by decide +kernel
theorem dX7_receivedUnbooked_9 : decode cX7_receivedUnbooked 9 = .ok (.invokevirtual 50, 3) := by decide +kernel
theorem dX7_receivedUnbooked_12 : decode cX7_receivedUnbooked 12 = .ok (.if_icmp .ge 52, 3) := by decide +kernel
theorem dX7_receivedUnbooked_15 : decode cX7_receivedUnbooked 15 = .ok (.aload_n 0, 1) := by decide +kernel
theorem dX7_receivedUnbooked_16 : decode cX7_receivedUnbooked 16 = .ok (.getfield 12, 3) := by decide +kernel
theorem dX7_receivedUnbooked_19 : decode cX7_receivedUnbooked 19 = .ok (.iload_n 3, 1) := by decide +kernel
theorem dX7_receivedUnbooked_20 : decode cX7_receivedUnbooked 20 = .ok (.invokevirtual 54, 3) := by decide +kernel
theorem dX7_receivedUnbooked_23 : decode cX7_receivedUnbooked 23 = .ok (.checkcast 58, 3) := by decide +kernel
theorem dX7_receivedUnbooked_26 : decode cX7_receivedUnbooked 26 = .ok (.astore 4, 2) := by decide +kernel
theorem dX7_receivedUnbooked_28 : decode cX7_receivedUnbooked 28 = .ok (.aload 4, 2) := by decide +kernel
theorem dX7_receivedUnbooked_30 : decode cX7_receivedUnbooked 30 = .ok (.getfield 69, 3) := by decide +kernel
theorem dX7_receivedUnbooked_33 : decode cX7_receivedUnbooked 33 = .ok (.ifCond .ne 25, 3) := by decide +kernel
theorem dX7_receivedUnbooked_36 : decode cX7_receivedUnbooked 36 = .ok (.lload_n 1, 1) := by decide +kernel
theorem dX7_receivedUnbooked_37 : decode cX7_receivedUnbooked 37 = .ok (.aload 4, 2) := by decide +kernel
theorem dX7_receivedUnbooked_39 : decode cX7_receivedUnbooked 39 = .ok (.getfield 73, 3) := by decide +kernel
theorem dX7_receivedUnbooked_42 : decode cX7_receivedUnbooked 42 = .ok (.aload 4, 2) := by decide +kernel
theorem dX7_receivedUnbooked_44 : decode cX7_receivedUnbooked 44 = .ok (.getfield 76, 3) := by decide +kernel
theorem dX7_receivedUnbooked_47 : decode cX7_receivedUnbooked 47 = .ok (.isub, 1) := by decide +kernel
theorem dX7_receivedUnbooked_48 : decode cX7_receivedUnbooked 48 = .ok (.i2l, 1) := by decide +kernel
theorem dX7_receivedUnbooked_49 : decode cX7_receivedUnbooked 49 = .ok (.aload 4, 2) := by decide +kernel
theorem dX7_receivedUnbooked_51 : decode cX7_receivedUnbooked 51 = .ok (.getfield 63, 3) := by decide +kernel
theorem dX7_receivedUnbooked_54 : decode cX7_receivedUnbooked 54 = .ok (.i2l, 1) := by decide +kernel
theorem dX7_receivedUnbooked_55 : decode cX7_receivedUnbooked 55 = .ok (.lmul, 1) := by decide +kernel
theorem dX7_receivedUnbooked_56 : decode cX7_receivedUnbooked 56 = .ok (.ladd, 1) := by decide +kernel
theorem dX7_receivedUnbooked_57 : decode cX7_receivedUnbooked 57 = .ok (.lstore_n 1, 1) := by decide +kernel
theorem dX7_receivedUnbooked_58 : decode cX7_receivedUnbooked 58 = .ok (.iinc 3 1, 3) := by decide +kernel
theorem dX7_receivedUnbooked_61 : decode cX7_receivedUnbooked 61 = .ok (.goto (-57), 3) := by decide +kernel
theorem dX7_receivedUnbooked_64 : decode cX7_receivedUnbooked 64 = .ok (.lload_n 1, 1) := by decide +kernel
theorem dX7_receivedUnbooked_65 : decode cX7_receivedUnbooked 65 = .ok (.lreturn, 1) := by decide +kernel
def kst_receivedUnbooked (t : Int32)  (X : CX) (S : CT) (x : Int32) (a0 : Int64)  : Int64 :=
    if (xi X 128 (4 * t + x)) = 0 then
      (a0 + ((((ci S 131 (4 * t + x)) - (ci S 132 (4 * t + x))).toInt64) * ((xi X 129 (4 * t + x)).toInt64)))
    else
    a0
def kit_receivedUnbooked (t : Int32)  (X : CX) (S : CT) : Nat → Int64
  | 0 => 0
  | i + 1 => kst_receivedUnbooked t X S (nI i) (kit_receivedUnbooked t X S i)
def k_receivedUnbooked (t : Int32)  (X : CX) (S : CT) : Int64 :=
    kit_receivedUnbooked t X S (xSz X 29 (t : Int32).toNatClampNeg)
abbrev rm_X7_receivedUnbooked : Room := { frames := 3, cells := 0, slots := 0, locals := 64 }
set_option maxRecDepth 100000 in
set_option maxHeartbeats 40000000 in
theorem ck_receivedUnbooked {l : Launch} {k : KC} (hl : l.stackTraces = false) {X : CX} {S : CT} (hX : XOK X) {t : Int32}  (ht : lI X 8 t)  : MC l k yX7_receivedUnbooked (.code yX7_receivedUnbooked cX7_receivedUnbooked 5 (some .long)) rm_X7_receivedUnbooked [(vr X 8 t)] (cW k X S) (pR (some (.long (k_receivedUnbooked t X S))) (cW k X S)) := by
  refine MC.of 4 hl (by decide) (by simp only [lg_sl_vr, lg_sl_i, lg_sl_l, lg_sl_0]; exact Nat.le_of_ble_eq_true rfl) ?_
  intro p e s m args below meth c A Q G B B2 hout
  simp only [lp_args_vr, lp_args_i, lp_args_l, lp_args_0]
  show Wx p l e rm_X7_receivedUnbooked s m args below meth c k A 5 Q 0 0 0 [some ((vr X 8 t)), none, none, none, none] [] (cW k X S)
  obtain ⟨n, en⟩ : ∃ n, n = (xSz X 29 (t : Int32).toNatClampNeg) := ⟨_, rfl⟩
  have hn : n < 2 ^ 30 := by rw [en]; exact Nat.lt_of_le_of_lt (hX.lw29 ht).2.2.1 (hX.lw29 ht).2.2.2.1
  have eN : nS X 29 t = nI n := by rw [en]; rfl
  refine x_lconst (pc := 0) (v := 0) G dX7_receivedUnbooked_0 lc_0 ?_
  refine x_lstore1 (pc := 1) G dX7_receivedUnbooked_1 (Nat.le_of_ble_eq_true rfl) lp_c2_vr ?_
  refine x_iconst (pc := 2) (v := 0) G dX7_receivedUnbooked_2 ic_0 ?_
  refine x_istore3 (pc := 3) G dX7_receivedUnbooked_3 (Nat.le_of_ble_eq_true rfl) rfl ?_
  have hF : k_receivedUnbooked t X S = kit_receivedUnbooked t X S n := by rw [k_receivedUnbooked, ← en]
  have loop : ∀ f i : Nat, i ≤ n → n - i < f → Wx p l e rm_X7_receivedUnbooked s m args below meth c k A 5 Q 0 0 4 [some ((vr X 8 t)), some (.long (kit_receivedUnbooked t X S i)), none, some (.int (nI i)), none] [] (cW k X S) := by
    intro f
    induction f with
    | zero => intro i _ h9; omega
    | succ f ih =>
      intro i hi hf
      refine x_iload3 (pc := 4) G dX7_receivedUnbooked_4 ?_
      refine z_aload0 (pc := 5) G vr_r dX7_receivedUnbooked_5 ?_
      refine z_g (pc := 6) (f := 258) (x := t) (v := (aR X 29 t)) G kb_8 gb_X7_12 rfl hX.1 ht cr_258 dX7_receivedUnbooked_6 ?_
      refine z_size (pc := 9) (Li := 29) (x := t) G hX.1 (hX.lw29 ht) q_ml_X7_50 ⟨Nat.le_of_ble_eq_true rfl, Nat.le_of_ble_eq_true rfl⟩ (Nat.le_of_ble_eq_true rfl) dX7_receivedUnbooked_9 ?_
      refine x_icmp_ge (pc := 12) (tgt := 64) G dX7_receivedUnbooked_12 rfl (fun c1 => ?_) (fun c1 => ?_)
      · have ei : i = n := lp_end eN c1 hi (by omega)
        refine x_lload1 (pc := 64) G dX7_receivedUnbooked_64 ?_
        exact x_lret (pc := 65) G B rfl dX7_receivedUnbooked_65 ⟨by rw [hF, ← ei], rfl⟩
      have hlt := lp_lt eN c1 hi (by omega)
      refine z_aload0 (pc := 15) G vr_r dX7_receivedUnbooked_15 ?_
      refine z_g (pc := 16) (f := 258) (x := t) (v := (aR X 29 t)) G kb_8 gb_X7_12 rfl hX.1 ht cr_258 dX7_receivedUnbooked_16 ?_
      refine x_iload3 (pc := 19) G dX7_receivedUnbooked_19 ?_
      refine z_get (pc := 20) (Li := 29) (kd := 4) (x := t) (y := (nI i)) (z := (4 * t + (nI i))) G hX.1 (hX.lw29 ht) (by rw [eN]; exact pn_lt hlt hn) (hX.el29 ht (by rw [eN]; exact pn_lt hlt hn)) rfl (hX.ei29 ht (by rw [eN]; exact pn_lt hlt hn)) q_ml_X7_54 ⟨Nat.le_of_ble_eq_true rfl, Nat.le_of_ble_eq_true rfl⟩ (Nat.le_of_ble_eq_true rfl) dX7_receivedUnbooked_20 ?_
      refine z_cast (pc := 23) G kb_4 hX.1 (hX.el29 ht (by rw [eN]; exact pn_lt hlt hn)) q_cl_X7_58 dX7_receivedUnbooked_23 ?_
      refine z_astore4 (pc := 26) G vr_r dX7_receivedUnbooked_26 (Nat.le_of_ble_eq_true rfl) rfl ?_
      refine z_aload4 (pc := 28) G vr_r dX7_receivedUnbooked_28 ?_
      refine z_g (pc := 30) (f := 128) (x := (4 * t + (nI i))) (v := (.int (xi X 128 (4 * t + (nI i))))) G kb_4 gb_X7_69 rfl hX.1 (hX.el29 ht (by rw [eN]; exact pn_lt hlt hn)) cr_128 dX7_receivedUnbooked_30 ?_
      refine x_if_ne (pc := 33) (y := 0) (tgt := 58) G dX7_receivedUnbooked_33 rfl (fun c2 => ?_) (fun c2 => ?_)
      · refine x_iinc3 (pc := 58) (v := ((nI i) + 1)) G dX7_receivedUnbooked_58 (by rfl) (Nat.le_of_ble_eq_true rfl) rfl ?_
        refine x_goto (pc := 61) (tgt := 4) G dX7_receivedUnbooked_61 rfl ?_
        refine xdrop4 ?_
        have h9 := ih (i + 1) (by omega) (by omega)
        rw [show kit_receivedUnbooked t X S (i + 1) = (kit_receivedUnbooked t X S i) from by show kst_receivedUnbooked t X S (nI i) (kit_receivedUnbooked t X S i) = _; rw [kst_receivedUnbooked, if_neg c2]] at h9
        rw [← nI_1 i] at h9
        exact h9
      refine x_lload1 (pc := 36) G dX7_receivedUnbooked_36 ?_
      refine z_aload4 (pc := 37) G vr_r dX7_receivedUnbooked_37 ?_
      refine z_g (pc := 39) (f := 131) (x := (4 * t + (nI i))) (v := (.int (ci S 131 (4 * t + (nI i))))) G kb_4 gb_X7_73 rfl hX.1 (hX.el29 ht (by rw [eN]; exact pn_lt hlt hn)) cr_131 dX7_receivedUnbooked_39 ?_
      refine z_aload4 (pc := 42) G vr_r dX7_receivedUnbooked_42 ?_
      refine z_g (pc := 44) (f := 132) (x := (4 * t + (nI i))) (v := (.int (ci S 132 (4 * t + (nI i))))) G kb_4 gb_X7_76 rfl hX.1 (hX.el29 ht (by rw [eN]; exact pn_lt hlt hn)) cr_132 dX7_receivedUnbooked_44 ?_
      refine x_isub (pc := 47) G dX7_receivedUnbooked_47 ?_
      refine x_i2l (pc := 48) G dX7_receivedUnbooked_48 ?_
      refine z_aload4 (pc := 49) G vr_r dX7_receivedUnbooked_49 ?_
      refine z_g (pc := 51) (f := 129) (x := (4 * t + (nI i))) (v := (.int (xi X 129 (4 * t + (nI i))))) G kb_4 gb_X7_63 rfl hX.1 (hX.el29 ht (by rw [eN]; exact pn_lt hlt hn)) cr_129 dX7_receivedUnbooked_51 ?_
      refine x_i2l (pc := 54) G dX7_receivedUnbooked_54 ?_
      refine x_lmul (pc := 55) G dX7_receivedUnbooked_55 ?_
      refine x_ladd (pc := 56) G dX7_receivedUnbooked_56 ?_
      refine x_lstore1 (pc := 57) G dX7_receivedUnbooked_57 (Nat.le_of_ble_eq_true rfl) lp_c2_vr ?_
      refine x_iinc3 (pc := 58) (v := ((nI i) + 1)) G dX7_receivedUnbooked_58 (by rfl) (Nat.le_of_ble_eq_true rfl) rfl ?_
      refine x_goto (pc := 61) (tgt := 4) G dX7_receivedUnbooked_61 rfl ?_
      refine xdrop4 ?_
      have h9 := ih (i + 1) (by omega) (by omega)
      rw [show kit_receivedUnbooked t X S (i + 1) = ((kit_receivedUnbooked t X S i) + ((((ci S 131 (4 * t + (nI i))) - (ci S 132 (4 * t + (nI i)))).toInt64) * ((xi X 129 (4 * t + (nI i))).toInt64))) from by show kst_receivedUnbooked t X S (nI i) (kit_receivedUnbooked t X S i) = _; rw [kst_receivedUnbooked, if_pos c2]] at h9
      rw [← nI_1 i] at h9
      exact h9
  exact loop (n + 1) 0 (by omega) (by omega)
theorem dX7_hasHeldInvoices_0 : decode cX7_hasHeldInvoices 0 = .ok (.iconst 0, 1) := by decide +kernel
theorem dX7_hasHeldInvoices_1 : decode cX7_hasHeldInvoices 1 = .ok (.istore_n 1, 1) := by decide +kernel
theorem dX7_hasHeldInvoices_2 : decode cX7_hasHeldInvoices 2 = .ok (.iload_n 1, 1) := by decide +kernel
theorem dX7_hasHeldInvoices_3 : decode cX7_hasHeldInvoices 3 = .ok (.aload_n 0, 1) := by decide +kernel
theorem dX7_hasHeldInvoices_4 : decode cX7_hasHeldInvoices 4 = .ok (.getfield 12, 3) := by decide +kernel
theorem dX7_hasHeldInvoices_7 : decode cX7_hasHeldInvoices 7 = .ok (.invokevirtual 50, 3) := by decide +kernel
theorem dX7_hasHeldInvoices_10 : decode cX7_hasHeldInvoices 10 = .ok (.if_icmp .ge 28, 3) := by decide +kernel
theorem dX7_hasHeldInvoices_13 : decode cX7_hasHeldInvoices 13 = .ok (.aload_n 0, 1) := by decide +kernel
theorem dX7_hasHeldInvoices_14 : decode cX7_hasHeldInvoices 14 = .ok (.getfield 12, 3) := by decide +kernel
theorem dX7_hasHeldInvoices_17 : decode cX7_hasHeldInvoices 17 = .ok (.iload_n 1, 1) := by decide +kernel
theorem dX7_hasHeldInvoices_18 : decode cX7_hasHeldInvoices 18 = .ok (.invokevirtual 54, 3) := by decide +kernel
theorem dX7_hasHeldInvoices_21 : decode cX7_hasHeldInvoices 21 = .ok (.checkcast 58, 3) := by decide +kernel
theorem dX7_hasHeldInvoices_24 : decode cX7_hasHeldInvoices 24 = .ok (.getfield 66, 3) := by decide +kernel
theorem dX7_hasHeldInvoices_27 : decode cX7_hasHeldInvoices 27 = .ok (.ifCond .le 5, 3) := by decide +kernel
theorem dX7_hasHeldInvoices_30 : decode cX7_hasHeldInvoices 30 = .ok (.iconst 1, 1) := by decide +kernel
theorem dX7_hasHeldInvoices_31 : decode cX7_hasHeldInvoices 31 = .ok (.ireturn, 1) := by decide +kernel
theorem dX7_hasHeldInvoices_32 : decode cX7_hasHeldInvoices 32 = .ok (.iinc 1 1, 3) := by decide +kernel
theorem dX7_hasHeldInvoices_35 : decode cX7_hasHeldInvoices 35 = .ok (.goto (-33), 3) := by decide +kernel
theorem dX7_hasHeldInvoices_38 : decode cX7_hasHeldInvoices 38 = .ok (.iconst 0, 1) := by decide +kernel
theorem dX7_hasHeldInvoices_39 : decode cX7_hasHeldInvoices 39 = .ok (.ireturn, 1) := by decide +kernel
def hh_run (t : Int32) (X : CX) (S : CT) : Nat → Nat → Int32
  | 0, _ => 0
  | f + 1, i =>
    if (ci S 133 (4 * t + (nI i))) ≤ 0 then
      hh_run t X S f (i + 1)
    else
    1
def k_hasHeldInvoices (t : Int32) (X : CX) (S : CT) : Int32 := hh_run t X S (xSz X 29 t.toNatClampNeg) 0
abbrev rm_X7_hasHeldInvoices : Room := { frames := 3, cells := 0, slots := 0, locals := 64 }
set_option maxRecDepth 100000 in
set_option maxHeartbeats 4000000 in
theorem ck_hasHeldInvoices {l : Launch} {k : KC} (hl : l.stackTraces = false) {X : CX} {S : CT} (hX : XOK X) {t : Int32} (ht : lI X 8 t) : MC l k yX7_hasHeldInvoices (.code yX7_hasHeldInvoices cX7_hasHeldInvoices 2 (some .boolean)) rm_X7_hasHeldInvoices [(vr X 8 t)] (cW k X S) (pR (some (.int (k_hasHeldInvoices t X S))) (cW k X S)) := by
  refine MC.of 1 hl (by decide) (by simp only [lg_sl_vr, lg_sl_i, lg_sl_l, lg_sl_0]; exact Nat.le_of_ble_eq_true rfl) ?_
  intro p e s m args below meth c A Q G B B2 hout
  simp only [lp_args_vr, lp_args_i, lp_args_l, lp_args_0]
  show Wx p l e rm_X7_hasHeldInvoices s m args below meth c k A 2 Q 0 0 0 [some ((vr X 8 t)), none] [] (cW k X S)
  obtain ⟨n, en⟩ : ∃ n, n = (xSz X 29 (t : Int32).toNatClampNeg) := ⟨_, rfl⟩
  have hn : n < 2 ^ 30 := by rw [en]; exact Nat.lt_of_le_of_lt (hX.lw29 ht).2.2.1 (hX.lw29 ht).2.2.2.1
  have eN : nS X 29 t = nI n := by rw [en]; rfl
  have loop : ∀ F i : Nat, n - i < F → i ≤ n → hh_run t X S (n - i) i = k_hasHeldInvoices t X S → Wx p l e rm_X7_hasHeldInvoices s m args below meth c k A 2 Q 0 0 2 [some ((vr X 8 t)), some (.int (nI i))] [] (cW k X S) := by
    intro F
    induction F with
    | zero => intro i h9; omega
    | succ F ih =>
      intro i hF hi hE
      refine x_iload1 (pc := 2) G dX7_hasHeldInvoices_2 ?_
      refine z_aload0 (pc := 3) G vr_r dX7_hasHeldInvoices_3 ?_
      refine z_g (pc := 4) (f := 258) (x := t) (v := (aR X 29 t)) G kb_8 gb_X7_12 rfl hX.1 ht cr_258 dX7_hasHeldInvoices_4 ?_
      refine z_size (pc := 7) (Li := 29) (x := t) G hX.1 (hX.lw29 ht) q_ml_X7_50 ⟨Nat.le_of_ble_eq_true rfl, Nat.le_of_ble_eq_true rfl⟩ (Nat.le_of_ble_eq_true rfl) dX7_hasHeldInvoices_7 ?_
      refine x_icmp_ge (pc := 10) (tgt := 38) G dX7_hasHeldInvoices_10 rfl (fun c1 => ?_) (fun c1 => ?_)
      · have ei : i = n := lp_end eN c1 hi (by omega)
        refine x_iconst (pc := 38) (v := 0) G dX7_hasHeldInvoices_38 ic_0 ?_
        exact x_zret (pc := 39) G B rfl (by decide) dX7_hasHeldInvoices_39 ⟨by rw [← hE, ei, Nat.sub_self]; rfl, rfl⟩
      have hlt := lp_lt eN c1 hi (by omega)
      rw [show n - i = (n - (i + 1)) + 1 by omega] at hE
      refine z_aload0 (pc := 13) G vr_r dX7_hasHeldInvoices_13 ?_
      refine z_g (pc := 14) (f := 258) (x := t) (v := (aR X 29 t)) G kb_8 gb_X7_12 rfl hX.1 ht cr_258 dX7_hasHeldInvoices_14 ?_
      refine x_iload1 (pc := 17) G dX7_hasHeldInvoices_17 ?_
      refine z_get (pc := 18) (Li := 29) (kd := 4) (x := t) (y := (nI i)) (z := (4 * t + (nI i))) G hX.1 (hX.lw29 ht) (by rw [eN]; exact pn_lt hlt hn) (hX.el29 ht (by rw [eN]; exact pn_lt hlt hn)) rfl (hX.ei29 ht (by rw [eN]; exact pn_lt hlt hn)) q_ml_X7_54 ⟨Nat.le_of_ble_eq_true rfl, Nat.le_of_ble_eq_true rfl⟩ (Nat.le_of_ble_eq_true rfl) dX7_hasHeldInvoices_18 ?_
      refine z_cast (pc := 21) G kb_4 hX.1 (hX.el29 ht (by rw [eN]; exact pn_lt hlt hn)) q_cl_X7_58 dX7_hasHeldInvoices_21 ?_
      refine z_g (pc := 24) (f := 133) (x := (4 * t + (nI i))) (v := (.int (ci S 133 (4 * t + (nI i))))) G kb_4 gb_X7_66 rfl hX.1 (hX.el29 ht (by rw [eN]; exact pn_lt hlt hn)) cr_133 dX7_hasHeldInvoices_24 ?_
      refine x_if_le (pc := 27) (y := 0) (tgt := 32) G dX7_hasHeldInvoices_27 rfl (fun c2 => ?_) (fun c2 => ?_)
      · refine x_iinc1 (pc := 32) (v := ((nI i) + 1)) G dX7_hasHeldInvoices_32 (by rfl) (Nat.le_of_ble_eq_true rfl) lp_c2_vr ?_
        refine x_goto (pc := 35) (tgt := 2) G dX7_hasHeldInvoices_35 rfl ?_
        have h9 := ih (i + 1) (by omega) (by omega) (by rw [← hE, hh_run, if_pos c2])
        rw [← nI_1 i] at h9
        exact h9
      refine x_iconst (pc := 30) (v := 1) G dX7_hasHeldInvoices_30 ic_1 ?_
      exact x_zret (pc := 31) G B rfl (by decide) dX7_hasHeldInvoices_31 ⟨by rw [← hE, hh_run, if_neg c2], rfl⟩
  refine x_iconst (pc := 0) (v := 0) G dX7_hasHeldInvoices_0 ic_0 ?_
  refine x_istore1 (pc := 1) G dX7_hasHeldInvoices_1 (Nat.le_of_ble_eq_true rfl) lp_c2_vr ?_
  exact loop (n + 1) 0 (by omega) (by omega) (by rw [k_hasHeldInvoices, Nat.sub_zero, en])
theorem hh_01 {t : Int32} {X : CX} {S : CT} : ∀ f i : Nat, hh_run t X S f i = 0 ∨ hh_run t X S f i = 1
  | 0, _ => Or.inl rfl
  | f + 1, i => by
    unfold hh_run
    repeat' split
    all_goals first | exact Or.inr rfl | exact Or.inl rfl | exact hh_01 f (i + 1)
abbrev K_hasHeldInvoices (t : Int32) (X : CX) (S : CT) : Prop := k_hasHeldInvoices t X S = 1
theorem bk_hasHeldInvoices {l : Launch} {k : KC} (hl : l.stackTraces = false) {X : CX} {S : CT} (hX : XOK X) {t : Int32} (ht : lI X 8 t) : (K_hasHeldInvoices t X S → MC l k yX7_hasHeldInvoices (.code yX7_hasHeldInvoices cX7_hasHeldInvoices 2 (some .boolean)) rm_X7_hasHeldInvoices [(vr X 8 t)] (cW k X S) (pR (some (.int 1)) (cW k X S))) ∧ (¬ K_hasHeldInvoices t X S → MC l k yX7_hasHeldInvoices (.code yX7_hasHeldInvoices cX7_hasHeldInvoices 2 (some .boolean)) rm_X7_hasHeldInvoices [(vr X 8 t)] (cW k X S) (pR (some (.int 0)) (cW k X S))) := MC.bool (by
  have h9 := ck_hasHeldInvoices (k := k) hl hX (S := S) ht
  rw [show k_hasHeldInvoices t X S = (if K_hasHeldInvoices t X S then 1 else 0) from by rcases hh_01 (t := t) (X := X) (S := S) (xSz X 29 t.toNatClampNeg) 0 with h | h <;> simp [K_hasHeldInvoices, k_hasHeldInvoices, h]] at h9
  exact h9)
/-- bosses come before those whose bosses they are -/
def BS (X : CX) : Prop := ∀ j, lv X 6 j → j < 12 ∧ (xi X 193 (nI j) = -1 ∨ ∃ j2, j2 < j ∧ xi X 193 (nI j) = nI j2)
def CB (X : CX) (f : Nat) (b : Int32) : Prop := (b = -1 ∧ 1 ≤ f) ∨ ∃ j, j < 2 ^ 30 ∧ b = nI j ∧ j + 2 ≤ f ∧ lv X 6 j
theorem CB.o {X : CX} {f : Nat} {b : Int32} (h : CB X f b) : oI X 6 b := by
  rcases h with ⟨e, -⟩ | ⟨j, h1, h2, -, h3⟩
  · exact Or.inl e
  · exact Or.inr ⟨j, h1, h2, h3⟩
theorem CB.no {X : CX} {b : Int32} (h : CB X 0 b) : False := by
  rcases h with ⟨-, h⟩ | ⟨j, -, -, h, -⟩ <;> omega
theorem CB.start {X : CX} (hB : BS X) {b : Int32} (h : oI X 6 b) : CB X 13 b := by
  rcases h with h | h
  · exact Or.inl ⟨h, by omega⟩
  · obtain ⟨n, hn, e, hl⟩ := h
    exact Or.inr ⟨n, hn, e, by have := (hB n hl).1; omega, hl⟩
theorem CB.next {X : CX} {S : CT} (hX : XOK X) (hB : BS X) {f : Nat} {b : Int32} {t : Int64} (h : CB X (f + 1) b) (hb : ¬ b = -1) : CB X f (k_bossAfter b t X S) := by
  obtain ⟨j, hj0, e, hj, hl⟩ := h.resolve_left (fun q => hb q.1)
  have ho := hX.boss (x := b) ⟨j, hj0, e, hl⟩
  unfold k_bossAfter
  split
  · rcases (hB j hl).2 with h7 | ⟨j2, h7, h8⟩
    · rw [e]
      exact Or.inl ⟨h7, by omega⟩
    · have h6 : xi X 193 b = nI j2 := by rw [e]; exact h8
      have h5 : ¬ xi X 193 b = -1 := by rw [h6]; exact nI_neg (by have := (hB j hl).1; omega)
      obtain ⟨n, hn, e3, hl3⟩ := ho.lI h5
      have h4 : n = j2 := by
        have h9 := congrArg Int32.toNatClampNeg (e3.symm.trans h6)
        rwa [nI_clamp (by omega), nI_clamp (by have := (hB j hl).1; omega)] at h9
      subst h4
      exact Or.inr ⟨n, hn, e3, by omega, hl3⟩
  · exact Or.inl ⟨rfl, by omega⟩
theorem dX10_missingApprovals_0 : decode cX10_missingApprovals 0 = .ok (.aload_n 0, 1) := by decide +kernel
theorem dX10_missingApprovals_1 : decode cX10_missingApprovals 1 = .ok (.invokevirtual 228, 3) := by decide +kernel
theorem dX10_missingApprovals_4 : decode cX10_missingApprovals 4 = .ok (.lstore_n 1, 1) := by decide +kernel
theorem dX10_missingApprovals_5 : decode cX10_missingApprovals 5 = .ok (.aload_n 0, 1) := by decide +kernel
theorem dX10_missingApprovals_6 : decode cX10_missingApprovals 6 = .ok (.getfield 266, 3) := by decide +kernel
theorem dX10_missingApprovals_9 : decode cX10_missingApprovals 9 = .ok (.ifnonnull 7, 3) := by decide +kernel
theorem dX10_missingApprovals_12 : decode cX10_missingApprovals 12 = .ok (.iconst 0, 1) := by decide +kernel
theorem dX10_missingApprovals_13 : decode cX10_missingApprovals 13 = .ok (.goto 4, 3) := by decide +kernel
theorem dX10_missingApprovals_16 : decode cX10_missingApprovals 16 = .ok (.iconst 1, 1) := by decide +kernel
theorem dX10_missingApprovals_17 : decode cX10_missingApprovals 17 = .ok (.istore_n 3, 1) := by decide +kernel
theorem dX10_missingApprovals_18 : decode cX10_missingApprovals 18 = .ok (.aload_n 0, 1) := by decide +kernel
theorem dX10_missingApprovals_19 : decode cX10_missingApprovals 19 = .ok (.getfield 255, 3) := by decide +kernel
theorem dX10_missingApprovals_22 : decode cX10_missingApprovals 22 = .ok (.astore 4, 2) := by decide +kernel
theorem dX10_missingApprovals_24 : decode cX10_missingApprovals 24 = .ok (.aload 4, 2) := by decide +kernel
theorem dX10_missingApprovals_26 : decode cX10_missingApprovals 26 = .ok (.ifnull 17, 3) := by decide +kernel
theorem dX10_missingApprovals_29 : decode cX10_missingApprovals 29 = .ok (.iinc 3 1, 3) := by decide +kernel
theorem dX10_missingApprovals_32 : decode cX10_missingApprovals 32 = .ok (.aload 4, 2) := by decide +kernel
theorem dX10_missingApprovals_34 : decode cX10_missingApprovals 34 = .ok (.lload_n 1, 1) := by decide +kernel
theorem dX10_missingApprovals_35 : decode cX10_missingApprovals 35 = .ok (.invokestatic 262, 3) := by decide +kernel
theorem dX10_missingApprovals_38 : decode cX10_missingApprovals 38 = .ok (.astore 4, 2) := by decide +kernel
theorem dX10_missingApprovals_40 : decode cX10_missingApprovals 40 = .ok (.goto (-16), 3) := by decide +kernel
theorem dX10_missingApprovals_43 : decode cX10_missingApprovals 43 = .ok (.iload_n 3, 1) := by decide +kernel
theorem dX10_missingApprovals_44 : decode cX10_missingApprovals 44 = .ok (.ireturn, 1) := by decide +kernel
def ma_run (q : Int64) (X : CX) (S : CT) : Nat → Int32 → Int32 → Int32
  | 0, _, a => a
  | f + 1, b, a =>
    if b = -1 then
      a
    else
    ma_run q X S f (k_bossAfter b q X S) (a + 1)
def k_missingApprovals (p1 : Int32) (X : CX) (S : CT) : Int32 :=
    if (ci S 263 p1) = -1 then
      ma_run (k_total p1 X S) X S 13 (ci S 262 p1) 0
    else
    ma_run (k_total p1 X S) X S 13 (ci S 262 p1) 1
abbrev rm_X10_missingApprovals : Room := { frames := 4, cells := 0, slots := 0, locals := 88 }
set_option maxRecDepth 100000 in
set_option maxHeartbeats 4000000 in
theorem ck_missingApprovals {l : Launch} {k : KC} (hl : l.stackTraces = false) {X : CX} {S : CT} (hX : XOK X) {p1 : Int32} (hp1 : lI X 8 p1) (hB : BS X) (h6 : oI X 6 (ci S 262 p1)) : MC l k yX10_missingApprovals (.code yX10_missingApprovals cX10_missingApprovals 5 (some .int)) rm_X10_missingApprovals [(vr X 8 p1)] (cW k X S) (pR (some (.int (k_missingApprovals p1 X S))) (cW k X S)) := by
  refine MC.of 4 hl (by decide) (by simp only [lg_sl_vr, lg_sl_i, lg_sl_l, lg_sl_0]; exact Nat.le_of_ble_eq_true rfl) ?_
  intro p e s m args below meth c A Q G B B2 hout
  simp only [lp_args_vr, lp_args_i, lp_args_l, lp_args_0]
  show Wx p l e rm_X10_missingApprovals s m args below meth c k A 5 Q 0 0 0 [some ((vr X 8 p1)), none, none, none, none] [] (cW k X S)
  have loop : ∀ (f : Nat) (b a : Int32), CB X f b → ma_run (k_total p1 X S) X S f b a = k_missingApprovals p1 X S → Wx p l e rm_X10_missingApprovals s m args below meth c k A 5 Q 0 0 24 [some ((vr X 8 p1)), some (.long (k_total p1 X S)), none, some (.int a), some ((vr X 6 b))] [] (cW k X S) := by
    intro f
    induction f with
    | zero => intro b a hb; exact hb.no.elim
    | succ f ih =>
      intro b a hb hE
      refine z_aload4 (pc := 24) G vr_r dX10_missingApprovals_24 ?_
      refine z_ifnull (pc := 26) (tgt := 43) (kd := 6) (x := b) G dX10_missingApprovals_26 rfl (fun c1 => ?_) (fun c1 => ?_)
      · refine x_iload3 (pc := 43) G dX10_missingApprovals_43 ?_
        exact x_iret (pc := 44) G B rfl dX10_missingApprovals_44 ⟨by rw [← hE, ma_run, if_pos c1], rfl⟩
      refine x_iinc3 (pc := 29) (v := (a + 1)) G dX10_missingApprovals_29 (by rfl) (Nat.le_of_ble_eq_true rfl) rfl ?_
      refine z_aload4 (pc := 32) G vr_r dX10_missingApprovals_32 ?_
      refine x_lload1 (pc := 34) G dX10_missingApprovals_34 ?_
      refine x_cS2 (pc := 35) G (ck_bossAfter hl hX (oI.lI hb.o c1) ) q_ml_X10_262 h_X10_bossAfter ⟨Nat.le_of_ble_eq_true rfl, Nat.le_of_ble_eq_true rfl⟩ (Nat.le_of_ble_eq_true rfl) (Nat.le_refl _) (Nat.le_refl _) dX10_missingApprovals_35 ?_
      refine z_astore4 (pc := 38) G vr_r dX10_missingApprovals_38 (Nat.le_of_ble_eq_true rfl) rfl ?_
      refine x_goto (pc := 40) (tgt := 24) G dX10_missingApprovals_40 rfl ?_
      exact ih (k_bossAfter b (k_total p1 X S) X S) (a + 1) (CB.next hX hB hb c1) (by rw [← hE, ma_run, if_neg c1])
  refine z_aload0 (pc := 0) G vr_r dX10_missingApprovals_0 ?_
  refine z_cV0 (pc := 1) G kb_8 hX.1 hp1 (ck_total hl hX hp1 ) rfl q_ml_X10_228 h_X7_total ⟨Nat.le_of_ble_eq_true rfl, Nat.le_of_ble_eq_true rfl⟩ (Nat.le_of_ble_eq_true rfl) (Nat.le_refl _) (Nat.le_refl _) dX10_missingApprovals_1 ?_
  refine x_lstore1 (pc := 4) G dX10_missingApprovals_4 (Nat.le_of_ble_eq_true rfl) lp_c2_vr ?_
  refine z_aload0 (pc := 5) G vr_r dX10_missingApprovals_5 ?_
  refine z_g (pc := 6) (f := 263) (x := p1) (v := (vr X 6 (ci S 263 p1))) G kb_8 gb_X10_266 rfl hX.1 hp1 cr_263 dX10_missingApprovals_6 ?_
  refine z_ifnonnull (pc := 9) (tgt := 16) (kd := 6) (x := (ci S 263 p1)) G dX10_missingApprovals_9 rfl (fun c1 => ?_) (fun c1 => ?_)
  · refine x_iconst (pc := 16) (v := 1) G dX10_missingApprovals_16 ic_1 ?_
    refine x_istore3 (pc := 17) G dX10_missingApprovals_17 (Nat.le_of_ble_eq_true rfl) rfl ?_
    refine z_aload0 (pc := 18) G vr_r dX10_missingApprovals_18 ?_
    refine z_g (pc := 19) (f := 262) (x := p1) (v := (vr X 6 (ci S 262 p1))) G kb_8 gb_X10_255 rfl hX.1 hp1 cr_262 dX10_missingApprovals_19 ?_
    refine z_astore4 (pc := 22) G vr_r dX10_missingApprovals_22 (Nat.le_of_ble_eq_true rfl) rfl ?_
    exact loop 13 (ci S 262 p1) 1 (CB.start hB h6) (by rw [k_missingApprovals, if_neg c1])
  refine x_iconst (pc := 12) (v := 0) G dX10_missingApprovals_12 ic_0 ?_
  refine x_goto (pc := 13) (tgt := 17) G dX10_missingApprovals_13 rfl ?_
  refine x_istore3 (pc := 17) G dX10_missingApprovals_17 (Nat.le_of_ble_eq_true rfl) rfl ?_
  refine z_aload0 (pc := 18) G vr_r dX10_missingApprovals_18 ?_
  refine z_g (pc := 19) (f := 262) (x := p1) (v := (vr X 6 (ci S 262 p1))) G kb_8 gb_X10_255 rfl hX.1 hp1 cr_262 dX10_missingApprovals_19 ?_
  refine z_astore4 (pc := 22) G vr_r dX10_missingApprovals_22 (Nat.le_of_ble_eq_true rfl) rfl ?_
  exact loop 13 (ci S 262 p1) 0 (CB.start hB h6) (by rw [k_missingApprovals, if_pos c1])
theorem dX10_isAmongBosses_0 : decode cX10_isAmongBosses 0 = .ok (.aload_n 0, 1) := by decide +kernel
theorem dX10_isAmongBosses_1 : decode cX10_isAmongBosses 1 = .ok (.invokevirtual 228, 3) := by decide +kernel
theorem dX10_isAmongBosses_4 : decode cX10_isAmongBosses 4 = .ok (.lstore_n 2, 1) := by decide +kernel
theorem dX10_isAmongBosses_5 : decode cX10_isAmongBosses 5 = .ok (.aload_n 0, 1) := by decide +kernel
theorem dX10_isAmongBosses_6 : decode cX10_isAmongBosses 6 = .ok (.getfield 255, 3) := by decide +kernel
theorem dX10_isAmongBosses_9 : decode cX10_isAmongBosses 9 = .ok (.astore 4, 2) := by decide +kernel
theorem dX10_isAmongBosses_11 : decode cX10_isAmongBosses 11 = .ok (.aload 4, 2) := by decide +kernel
theorem dX10_isAmongBosses_13 : decode cX10_isAmongBosses 13 = .ok (.ifnull 22, 3) := by decide +kernel
theorem dX10_isAmongBosses_16 : decode cX10_isAmongBosses 16 = .ok (.aload 4, 2) := by decide +kernel
theorem dX10_isAmongBosses_18 : decode cX10_isAmongBosses 18 = .ok (.aload_n 1, 1) := by decide +kernel
theorem dX10_isAmongBosses_19 : decode cX10_isAmongBosses 19 = .ok (.if_acmp .ne 5, 3) := by decide +kernel
theorem dX10_isAmongBosses_22 : decode cX10_isAmongBosses 22 = .ok (.iconst 1, 1) := by decide +kernel
theorem dX10_isAmongBosses_23 : decode cX10_isAmongBosses 23 = .ok (.ireturn, 1) := by decide +kernel
theorem dX10_isAmongBosses_24 : decode cX10_isAmongBosses 24 = .ok (.aload 4, 2) := by decide +kernel
theorem dX10_isAmongBosses_26 : decode cX10_isAmongBosses 26 = .ok (.lload_n 2, 1) := by decide +kernel
theorem dX10_isAmongBosses_27 : decode cX10_isAmongBosses 27 = .ok (.invokestatic 262, 3) := by decide +kernel
theorem dX10_isAmongBosses_30 : decode cX10_isAmongBosses 30 = .ok (.astore 4, 2) := by decide +kernel
theorem dX10_isAmongBosses_32 : decode cX10_isAmongBosses 32 = .ok (.goto (-21), 3) := by decide +kernel
theorem dX10_isAmongBosses_35 : decode cX10_isAmongBosses 35 = .ok (.iconst 0, 1) := by decide +kernel
theorem dX10_isAmongBosses_36 : decode cX10_isAmongBosses 36 = .ok (.ireturn, 1) := by decide +kernel
def ab_run (p2 : Int32) (q : Int64) (X : CX) (S : CT) : Nat → Int32 → Int32
  | 0, _ => 0
  | f + 1, b =>
    if b = -1 then
      0
    else
    if b = p2 then
      1
    else
    ab_run p2 q X S f (k_bossAfter b q X S)
def k_isAmongBosses (p1 : Int32) (p2 : Int32) (X : CX) (S : CT) : Int32 :=
    ab_run p2 (k_total p1 X S) X S 13 (ci S 262 p1)
abbrev rm_X10_isAmongBosses : Room := { frames := 4, cells := 0, slots := 0, locals := 88 }
set_option maxRecDepth 100000 in
set_option maxHeartbeats 4000000 in
theorem ck_isAmongBosses {l : Launch} {k : KC} (hl : l.stackTraces = false) {X : CX} {S : CT} (hX : XOK X) {p1 : Int32} {p2 : Int32} (hp1 : lI X 8 p1) (hp2 : oI X 6 p2) (hB : BS X) (h6 : oI X 6 (ci S 262 p1)) : MC l k yX10_isAmongBosses (.code yX10_isAmongBosses cX10_isAmongBosses 5 (some .boolean)) rm_X10_isAmongBosses [(vr X 8 p1), (vr X 6 p2)] (cW k X S) (pR (some (.int (k_isAmongBosses p1 p2 X S))) (cW k X S)) := by
  refine MC.of 3 hl (by decide) (by simp only [lg_sl_vr, lg_sl_i, lg_sl_l, lg_sl_0]; exact Nat.le_of_ble_eq_true rfl) ?_
  intro p e s m args below meth c A Q G B B2 hout
  simp only [lp_args_vr, lp_args_i, lp_args_l, lp_args_0]
  show Wx p l e rm_X10_isAmongBosses s m args below meth c k A 5 Q 0 0 0 [some ((vr X 8 p1)), some ((vr X 6 p2)), none, none, none] [] (cW k X S)
  have loop : ∀ (f : Nat) (b : Int32), CB X f b → ab_run p2 (k_total p1 X S) X S f b = k_isAmongBosses p1 p2 X S → Wx p l e rm_X10_isAmongBosses s m args below meth c k A 5 Q 0 0 11 [some ((vr X 8 p1)), some ((vr X 6 p2)), some (.long (k_total p1 X S)), none, some ((vr X 6 b))] [] (cW k X S) := by
    intro f
    induction f with
    | zero => intro b hb; exact hb.no.elim
    | succ f ih =>
      intro b hb hE
      refine z_aload4 (pc := 11) G vr_r dX10_isAmongBosses_11 ?_
      refine z_ifnull (pc := 13) (tgt := 35) (kd := 6) (x := b) G dX10_isAmongBosses_13 rfl (fun c1 => ?_) (fun c1 => ?_)
      · refine x_iconst (pc := 35) (v := 0) G dX10_isAmongBosses_35 ic_0 ?_
        exact x_zret (pc := 36) G B rfl (by decide) dX10_isAmongBosses_36 ⟨by rw [← hE, ab_run, if_pos c1], rfl⟩
      refine z_aload4 (pc := 16) G vr_r dX10_isAmongBosses_16 ?_
      refine z_aload1 (pc := 18) G vr_r dX10_isAmongBosses_18 ?_
      refine z_acmp_ne (pc := 19) (tgt := 24) (kd := 6) (x := b) (y := p2) G hb.o hp2 dX10_isAmongBosses_19 rfl (fun c2 => ?_) (fun c2 => ?_)
      · refine z_aload4 (pc := 24) G vr_r dX10_isAmongBosses_24 ?_
        refine x_lload2 (pc := 26) G dX10_isAmongBosses_26 ?_
        refine x_cS2 (pc := 27) G (ck_bossAfter hl hX (oI.lI hb.o c1) ) q_ml_X10_262 h_X10_bossAfter ⟨Nat.le_of_ble_eq_true rfl, Nat.le_of_ble_eq_true rfl⟩ (Nat.le_of_ble_eq_true rfl) (Nat.le_refl _) (Nat.le_refl _) dX10_isAmongBosses_27 ?_
        refine z_astore4 (pc := 30) G vr_r dX10_isAmongBosses_30 (Nat.le_of_ble_eq_true rfl) rfl ?_
        refine x_goto (pc := 32) (tgt := 11) G dX10_isAmongBosses_32 rfl ?_
        exact ih (k_bossAfter b (k_total p1 X S) X S) (CB.next hX hB hb c1) (by rw [← hE, ab_run, if_neg c1, if_neg c2])
      refine x_iconst (pc := 22) (v := 1) G dX10_isAmongBosses_22 ic_1 ?_
      exact x_zret (pc := 23) G B rfl (by decide) dX10_isAmongBosses_23 ⟨by rw [← hE, ab_run, if_neg c1, if_pos c2], rfl⟩
  refine z_aload0 (pc := 0) G vr_r dX10_isAmongBosses_0 ?_
  refine z_cV0 (pc := 1) G kb_8 hX.1 hp1 (ck_total hl hX hp1 ) rfl q_ml_X10_228 h_X7_total ⟨Nat.le_of_ble_eq_true rfl, Nat.le_of_ble_eq_true rfl⟩ (Nat.le_of_ble_eq_true rfl) (Nat.le_refl _) (Nat.le_refl _) dX10_isAmongBosses_1 ?_
  refine x_lstore2 (pc := 4) G dX10_isAmongBosses_4 (Nat.le_of_ble_eq_true rfl) lp_c2_vr ?_
  refine z_aload0 (pc := 5) G vr_r dX10_isAmongBosses_5 ?_
  refine z_g (pc := 6) (f := 262) (x := p1) (v := (vr X 6 (ci S 262 p1))) G kb_8 gb_X10_255 rfl hX.1 hp1 cr_262 dX10_isAmongBosses_6 ?_
  refine z_astore4 (pc := 9) G vr_r dX10_isAmongBosses_9 (Nat.le_of_ble_eq_true rfl) rfl ?_
  exact loop 13 (ci S 262 p1) (CB.start hB h6) (by rw [k_isAmongBosses])
theorem ab_01 {p2 : Int32} {q : Int64} {X : CX} {S : CT} : ∀ (f : Nat) (b : Int32), ab_run p2 q X S f b = 0 ∨ ab_run p2 q X S f b = 1
  | 0, _ => Or.inl rfl
  | f + 1, b => by
    unfold ab_run
    repeat' split
    all_goals first | exact Or.inr rfl | exact Or.inl rfl | exact ab_01 f _
abbrev K_isAmongBosses (p1 : Int32) (p2 : Int32) (X : CX) (S : CT) : Prop := k_isAmongBosses p1 p2 X S = 1
theorem bk_isAmongBosses {l : Launch} {k : KC} (hl : l.stackTraces = false) {X : CX} {S : CT} (hX : XOK X) {p1 : Int32} {p2 : Int32} (hp1 : lI X 8 p1) (hp2 : oI X 6 p2) (hB : BS X) (h6 : oI X 6 (ci S 262 p1)) : (K_isAmongBosses p1 p2 X S → MC l k yX10_isAmongBosses (.code yX10_isAmongBosses cX10_isAmongBosses 5 (some .boolean)) rm_X10_isAmongBosses [(vr X 8 p1), (vr X 6 p2)] (cW k X S) (pR (some (.int 1)) (cW k X S))) ∧ (¬ K_isAmongBosses p1 p2 X S → MC l k yX10_isAmongBosses (.code yX10_isAmongBosses cX10_isAmongBosses 5 (some .boolean)) rm_X10_isAmongBosses [(vr X 8 p1), (vr X 6 p2)] (cW k X S) (pR (some (.int 0)) (cW k X S))) := MC.bool (by
  have h9 := ck_isAmongBosses (k := k) hl hX (S := S) hp1 hp2 hB h6
  rw [show k_isAmongBosses p1 p2 X S = (if K_isAmongBosses p1 p2 X S then 1 else 0) from by rcases ab_01 (p2 := p2) (q := k_total p1 X S) (X := X) (S := S) 13 (ci S 262 p1) with h | h <;> simp [K_isAmongBosses, k_isAmongBosses, h]] at h9
  exact h9)
