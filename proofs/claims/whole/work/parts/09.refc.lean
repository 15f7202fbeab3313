theorem lp_end {x : Int32} {n i : Nat} (e : x = nI n) (h : x ≤ nI i) (hi : i ≤ n) (hn : n < 2 ^ 31) : i = n := by
  rw [e, nI_leI (by omega) (by omega)] at h
  omega
theorem lp_lt {x : Int32} {n i : Nat} (e : x = nI n) (h : ¬ x ≤ nI i) (hi : i ≤ n) (hn : n < 2 ^ 31) : i < n := by
  rw [e, nI_leI (by omega) (by omega)] at h
  omega
theorem dX11_bookedPieces_0 : decode cX11_bookedPieces 0 = .ok (.iconst 0, 1) := by decide +kernel
theorem dX11_bookedPieces_1 : decode cX11_bookedPieces 1 = .ok (.istore_n 2, 1) := by decide +kernel
theorem dX11_bookedPieces_2 : decode cX11_bookedPieces 2 = .ok (.iconst 0, 1) := by decide +kernel
theorem dX11_bookedPieces_3 : decode cX11_bookedPieces 3 = .ok (.istore_n 3, 1) := by decide +kernel
theorem dX11_bookedPieces_4 : decode cX11_bookedPieces 4 = .ok (.iload_n 3, 1) := by decide +kernel
theorem dX11_bookedPieces_5 : decode cX11_bookedPieces 5 = .ok (.aload_n 0, 1) := by decide +kernel
theorem dX11_bookedPieces_6 : decode cX11_bookedPieces 6 = .ok (.getfield 192, 3) := by decide +kernel
theorem dX11_bookedPieces_9 : decode cX11_bookedPieces 9 = .ok (.if_icmp .ge 41, 3) := by decide +kernel
theorem dX11_bookedPieces_12 : decode cX11_bookedPieces 12 = .ok (.iload_n 2, 1) := by decide +kernel
theorem dX11_bookedPieces_13 : decode cX11_bookedPieces 13 = .ok (.aload_n 0, 1) := by decide +kernel
theorem dX11_bookedPieces_14 : decode cX11_bookedPieces 14 = .ok (.getfield 112, 3) := by decide +kernel
theorem dX11_bookedPieces_17 : decode cX11_bookedPieces 17 = .ok (.iload_n 3, 1) := by decide +kernel
theorem dX11_bookedPieces_18 : decode cX11_bookedPieces 18 = .ok (.iaload, 1) := by decide +kernel
theorem dX11_bookedPieces_19 : decode cX11_bookedPieces 19 = .ok (.iload_n 1, 1) := by decide +kernel
theorem dX11_bookedPieces_20 : decode cX11_bookedPieces 20 = .ok (.if_icmp .ne 21, 3) := by decide +kernel
theorem dX11_bookedPieces_23 : decode cX11_bookedPieces 23 = .ok (.aload_n 0, 1) := by decide +kernel
theorem dX11_bookedPieces_24 : decode cX11_bookedPieces 24 = .ok (.getfield 124, 3) := by decide +kernel
theorem dX11_bookedPieces_27 : decode cX11_bookedPieces 27 = .ok (.iload_n 3, 1) := by decide +kernel
theorem dX11_bookedPieces_28 : decode cX11_bookedPieces 28 = .ok (.iaload, 1) := by decide +kernel
theorem dX11_bookedPieces_29 : decode cX11_bookedPieces 29 = .ok (.ifCond .eq 12, 3) := by decide +kernel
theorem dX11_bookedPieces_32 : decode cX11_bookedPieces 32 = .ok (.aload_n 0, 1) := by decide +kernel
theorem dX11_bookedPieces_33 : decode cX11_bookedPieces 33 = .ok (.getfield 115, 3) := by decide +kernel
theorem dX11_bookedPieces_36 : decode cX11_bookedPieces 36 = .ok (.iload_n 3, 1) := by decide +kernel
theorem dX11_bookedPieces_37 : decode cX11_bookedPieces 37 = .ok (.iaload, 1) := by decide +kernel
theorem dX11_bookedPieces_38 : decode cX11_bookedPieces 38 = .ok (.goto 4, 3) := by decide +kernel
theorem dX11_bookedPieces_41 : decode cX11_bookedPieces 41 = .ok (.iconst 0, 1) := by decide +kernel
theorem dX11_bookedPieces_42 : decode cX11_bookedPieces 42 = .ok (.iadd, 1) := by decide +kernel
theorem dX11_bookedPieces_43 : decode cX11_bookedPieces 43 = .ok (.istore_n 2, 1) := by decide +kernel
theorem dX11_bookedPieces_44 : decode cX11_bookedPieces 44 = .ok (.iinc 3 1, 3) := by decide +kernel
theorem dX11_bookedPieces_47 : decode cX11_bookedPieces 47 = .ok (.goto (-43), 3) := by decide +kernel
theorem dX11_bookedPieces_50 : decode cX11_bookedPieces 50 = .ok (.iload_n 2, 1) := by decide +kernel
theorem dX11_bookedPieces_51 : decode cX11_bookedPieces 51 = .ok (.ireturn, 1) := by decide +kernel
def st_bookedPieces (p1 : Int32) (M : MS) (x : Int32) (a : Int32) : Int32 :=
    if (gI M 40 x) = p1 then
      if (gI M 44 x) = 0 then
        (a + 0)
      else
      (a + (gI M 41 x))
    else
    (a + 0)
def it_bookedPieces (p1 : Int32) (M : MS) : Nat → Int32
  | 0 => 0
  | i + 1 => st_bookedPieces p1 M (nI i) (it_bookedPieces p1 M i)
def f_bookedPieces (p1 : Int32) (M : MS) : Int32 := it_bookedPieces p1 M (mI M 39).toNatClampNeg
abbrev rm_X11_bookedPieces : Room := { frames := 0, cells := 0, slots := 0, locals := 0 }
set_option maxRecDepth 100000 in
set_option maxHeartbeats 4000000 in
theorem c_bookedPieces {l : Launch} {k : KC} {mo : Nat} {ad : Nat → Nat} (hl : l.stackTraces = false) (hM : HM mo ad) {M : MS} {p1 : Int32} (h39 : LE (mI M 39) 60) : CM l k mo ad yX11_bookedPieces (.code yX11_bookedPieces cX11_bookedPieces 4 (some .int)) rm_X11_bookedPieces [.int p1] M (some (.int (f_bookedPieces p1 M))) M := by
  refine MC.of 2 hl (by decide) (Nat.le_of_ble_eq_true rfl) ?_
  intro p e s m args below meth c A Q G B _ _
  show Wx p l e rm_X11_bookedPieces s m args below meth c k A 4 Q 0 0 0 [some (.ref mo), some (.int p1), none, none] [] (mW k mo ad M)
  obtain ⟨n, hn, e39⟩ := h39
  have loop : ∀ f i : Nat, i ≤ n → n - i < f → Wx p l e rm_X11_bookedPieces s m args below meth c k A 4 Q 0 0 4 [some (.ref mo), some (.int p1), some (.int (it_bookedPieces p1 M i)), some (.int (nI i))] [] (mW k mo ad M) := by
    intro f
    induction f with
    | zero => intro i _ h9; omega
    | succ f ih =>
      intro i hi hf
      refine x_iload3 (pc := 4) G dX11_bookedPieces_4 ?_
      refine x_aload0 (pc := 5) G dX11_bookedPieces_5 ?_
      refine y_gI (pc := 6) (v := (mI M 39)) G g_192 mG_39 rfl dX11_bookedPieces_6 ?_
      refine x_icmp_ge (pc := 9) (tgt := 50) G dX11_bookedPieces_9 rfl (fun c1 => ?_) (fun c1 => ?_)
      · have ei := lp_end e39 c1 hi (by omega)
        refine x_iload2 (pc := 50) G dX11_bookedPieces_50 ?_
        exact x_iret (pc := 51) G B rfl dX11_bookedPieces_51 ⟨by rw [f_bookedPieces, e39, nI_clamp (by omega), ei], rfl⟩
      have hlt := lp_lt e39 c1 hi (by omega)
      refine x_iload2 (pc := 12) G dX11_bookedPieces_12 ?_
      refine x_aload0 (pc := 13) G dX11_bookedPieces_13 ?_
      refine y_gA (pc := 14) G g_112 mG_40 dX11_bookedPieces_14 ?_
      refine x_iload3 (pc := 17) G dX11_bookedPieces_17 ?_
      refine y_iald (pc := 18) (v := (gI M 40 (nI i))) G hM a_40 (by exact vp_in_nI (N := 60) (by omega) (by decide)) rfl dX11_bookedPieces_18 ?_
      refine x_iload1 (pc := 19) G dX11_bookedPieces_19 ?_
      refine x_icmp_ne (pc := 20) (tgt := 41) G dX11_bookedPieces_20 rfl (fun c2 => ?_) (fun c2 => ?_)
      · refine x_iconst (pc := 41) (v := 0) G dX11_bookedPieces_41 ic_0 ?_
        refine x_iadd (pc := 42) G dX11_bookedPieces_42 ?_
        refine x_istore2 (pc := 43) G dX11_bookedPieces_43 (Nat.le_of_ble_eq_true rfl) rfl ?_
        refine x_iinc3 (pc := 44) (v := ((nI i) + 1)) G dX11_bookedPieces_44 (by rfl) (Nat.le_of_ble_eq_true rfl) rfl ?_
        refine x_goto (pc := 47) (tgt := 4) G dX11_bookedPieces_47 rfl ?_
        have h9 := ih (i + 1) (by omega) (by omega)
        rw [show it_bookedPieces p1 M (i + 1) = ((it_bookedPieces p1 M i) + 0) from by rw [it_bookedPieces, st_bookedPieces, if_neg c2]] at h9
        rw [← nI_1 i] at h9
        exact h9
      refine x_aload0 (pc := 23) G dX11_bookedPieces_23 ?_
      refine y_gA (pc := 24) G g_124 mG_44 dX11_bookedPieces_24 ?_
      refine x_iload3 (pc := 27) G dX11_bookedPieces_27 ?_
      refine y_iald (pc := 28) (v := (gI M 44 (nI i))) G hM a_44 (by exact vp_in_nI (N := 60) (by omega) (by decide)) rfl dX11_bookedPieces_28 ?_
      refine x_if_eq (pc := 29) (y := 0) (tgt := 41) G dX11_bookedPieces_29 rfl (fun c3 => ?_) (fun c3 => ?_)
      · refine x_iconst (pc := 41) (v := 0) G dX11_bookedPieces_41 ic_0 ?_
        refine x_iadd (pc := 42) G dX11_bookedPieces_42 ?_
        refine x_istore2 (pc := 43) G dX11_bookedPieces_43 (Nat.le_of_ble_eq_true rfl) rfl ?_
        refine x_iinc3 (pc := 44) (v := ((nI i) + 1)) G dX11_bookedPieces_44 (by rfl) (Nat.le_of_ble_eq_true rfl) rfl ?_
        refine x_goto (pc := 47) (tgt := 4) G dX11_bookedPieces_47 rfl ?_
        have h9 := ih (i + 1) (by omega) (by omega)
        rw [show it_bookedPieces p1 M (i + 1) = ((it_bookedPieces p1 M i) + 0) from by rw [it_bookedPieces, st_bookedPieces, if_pos c2, if_pos c3]] at h9
        rw [← nI_1 i] at h9
        exact h9
      refine x_aload0 (pc := 32) G dX11_bookedPieces_32 ?_
      refine y_gA (pc := 33) G g_115 mG_41 dX11_bookedPieces_33 ?_
      refine x_iload3 (pc := 36) G dX11_bookedPieces_36 ?_
      refine y_iald (pc := 37) (v := (gI M 41 (nI i))) G hM a_41 (by exact vp_in_nI (N := 60) (by omega) (by decide)) rfl dX11_bookedPieces_37 ?_
      refine x_goto (pc := 38) (tgt := 42) G dX11_bookedPieces_38 rfl ?_
      refine x_iadd (pc := 42) G dX11_bookedPieces_42 ?_
      refine x_istore2 (pc := 43) G dX11_bookedPieces_43 (Nat.le_of_ble_eq_true rfl) rfl ?_
      refine x_iinc3 (pc := 44) (v := ((nI i) + 1)) G dX11_bookedPieces_44 (by rfl) (Nat.le_of_ble_eq_true rfl) rfl ?_
      refine x_goto (pc := 47) (tgt := 4) G dX11_bookedPieces_47 rfl ?_
      have h9 := ih (i + 1) (by omega) (by omega)
      rw [show it_bookedPieces p1 M (i + 1) = ((it_bookedPieces p1 M i) + (gI M 41 (nI i))) from by rw [it_bookedPieces, st_bookedPieces, if_pos c2, if_neg c3]] at h9
      rw [← nI_1 i] at h9
      exact h9
  refine x_iconst (pc := 0) (v := 0) G dX11_bookedPieces_0 ic_0 ?_
  refine x_istore2 (pc := 1) G dX11_bookedPieces_1 (Nat.le_of_ble_eq_true rfl) rfl ?_
  refine x_iconst (pc := 2) (v := 0) G dX11_bookedPieces_2 ic_0 ?_
  refine x_istore3 (pc := 3) G dX11_bookedPieces_3 (Nat.le_of_ble_eq_true rfl) rfl ?_
  exact loop (n + 1) 0 (by omega) (by omega)
theorem dX11_heldPieces_0 : decode cX11_heldPieces 0 = .ok (.iconst 0, 1) := by decide +kernel
theorem dX11_heldPieces_1 : decode cX11_heldPieces 1 = .ok (.istore_n 2, 1) := by decide +kernel
theorem dX11_heldPieces_2 : decode cX11_heldPieces 2 = .ok (.iconst 0, 1) := by decide +kernel
theorem dX11_heldPieces_3 : decode cX11_heldPieces 3 = .ok (.istore_n 3, 1) := by decide +kernel
theorem dX11_heldPieces_4 : decode cX11_heldPieces 4 = .ok (.iload_n 3, 1) := by decide +kernel
theorem dX11_heldPieces_5 : decode cX11_heldPieces 5 = .ok (.aload_n 0, 1) := by decide +kernel
theorem dX11_heldPieces_6 : decode cX11_heldPieces 6 = .ok (.getfield 192, 3) := by decide +kernel
theorem dX11_heldPieces_9 : decode cX11_heldPieces 9 = .ok (.if_icmp .ge 41, 3) := by decide +kernel
theorem dX11_heldPieces_12 : decode cX11_heldPieces 12 = .ok (.iload_n 2, 1) := by decide +kernel
theorem dX11_heldPieces_13 : decode cX11_heldPieces 13 = .ok (.aload_n 0, 1) := by decide +kernel
theorem dX11_heldPieces_14 : decode cX11_heldPieces 14 = .ok (.getfield 112, 3) := by decide +kernel
theorem dX11_heldPieces_17 : decode cX11_heldPieces 17 = .ok (.iload_n 3, 1) := by decide +kernel
theorem dX11_heldPieces_18 : decode cX11_heldPieces 18 = .ok (.iaload, 1) := by decide +kernel
theorem dX11_heldPieces_19 : decode cX11_heldPieces 19 = .ok (.iload_n 1, 1) := by decide +kernel
theorem dX11_heldPieces_20 : decode cX11_heldPieces 20 = .ok (.if_icmp .ne 21, 3) := by decide +kernel
theorem dX11_heldPieces_23 : decode cX11_heldPieces 23 = .ok (.aload_n 0, 1) := by decide +kernel
theorem dX11_heldPieces_24 : decode cX11_heldPieces 24 = .ok (.getfield 124, 3) := by decide +kernel
theorem dX11_heldPieces_27 : decode cX11_heldPieces 27 = .ok (.iload_n 3, 1) := by decide +kernel
theorem dX11_heldPieces_28 : decode cX11_heldPieces 28 = .ok (.iaload, 1) := by decide +kernel
theorem dX11_heldPieces_29 : decode cX11_heldPieces 29 = .ok (.ifCond .ne 12, 3) := by decide +kernel
theorem dX11_heldPieces_32 : decode cX11_heldPieces 32 = .ok (.aload_n 0, 1) := by decide +kernel
theorem dX11_heldPieces_33 : decode cX11_heldPieces 33 = .ok (.getfield 115, 3) := by decide +kernel
theorem dX11_heldPieces_36 : decode cX11_heldPieces 36 = .ok (.iload_n 3, 1) := by decide +kernel
theorem dX11_heldPieces_37 : decode cX11_heldPieces 37 = .ok (.iaload, 1) := by decide +kernel
theorem dX11_heldPieces_38 : decode cX11_heldPieces 38 = .ok (.goto 4, 3) := by decide +kernel
theorem dX11_heldPieces_41 : decode cX11_heldPieces 41 = .ok (.iconst 0, 1) := by decide +kernel
theorem dX11_heldPieces_42 : decode cX11_heldPieces 42 = .ok (.iadd, 1) := by decide +kernel
theorem dX11_heldPieces_43 : decode cX11_heldPieces 43 = .ok (.istore_n 2, 1) := by decide +kernel
theorem dX11_heldPieces_44 : decode cX11_heldPieces 44 = .ok (.iinc 3 1, 3) := by decide +kernel
theorem dX11_heldPieces_47 : decode cX11_heldPieces 47 = .ok (.goto (-43), 3) := by decide +kernel
theorem dX11_heldPieces_50 : decode cX11_heldPieces 50 = .ok (.iload_n 2, 1) := by decide +kernel
theorem dX11_heldPieces_51 : decode cX11_heldPieces 51 = .ok (.ireturn, 1) := by decide +kernel
def st_heldPieces (p1 : Int32) (M : MS) (x : Int32) (a : Int32) : Int32 :=
    if (gI M 40 x) = p1 then
      if (gI M 44 x) = 0 then
        (a + (gI M 41 x))
      else
      (a + 0)
    else
    (a + 0)
def it_heldPieces (p1 : Int32) (M : MS) : Nat → Int32
  | 0 => 0
  | i + 1 => st_heldPieces p1 M (nI i) (it_heldPieces p1 M i)
def f_heldPieces (p1 : Int32) (M : MS) : Int32 := it_heldPieces p1 M (mI M 39).toNatClampNeg
abbrev rm_X11_heldPieces : Room := { frames := 0, cells := 0, slots := 0, locals := 0 }
set_option maxRecDepth 100000 in
set_option maxHeartbeats 4000000 in
theorem c_heldPieces {l : Launch} {k : KC} {mo : Nat} {ad : Nat → Nat} (hl : l.stackTraces = false) (hM : HM mo ad) {M : MS} {p1 : Int32} (h39 : LE (mI M 39) 60) : CM l k mo ad yX11_heldPieces (.code yX11_heldPieces cX11_heldPieces 4 (some .int)) rm_X11_heldPieces [.int p1] M (some (.int (f_heldPieces p1 M))) M := by
  refine MC.of 2 hl (by decide) (Nat.le_of_ble_eq_true rfl) ?_
  intro p e s m args below meth c A Q G B _ _
  show Wx p l e rm_X11_heldPieces s m args below meth c k A 4 Q 0 0 0 [some (.ref mo), some (.int p1), none, none] [] (mW k mo ad M)
  obtain ⟨n, hn, e39⟩ := h39
  have loop : ∀ f i : Nat, i ≤ n → n - i < f → Wx p l e rm_X11_heldPieces s m args below meth c k A 4 Q 0 0 4 [some (.ref mo), some (.int p1), some (.int (it_heldPieces p1 M i)), some (.int (nI i))] [] (mW k mo ad M) := by
    intro f
    induction f with
    | zero => intro i _ h9; omega
    | succ f ih =>
      intro i hi hf
      refine x_iload3 (pc := 4) G dX11_heldPieces_4 ?_
      refine x_aload0 (pc := 5) G dX11_heldPieces_5 ?_
      refine y_gI (pc := 6) (v := (mI M 39)) G g_192 mG_39 rfl dX11_heldPieces_6 ?_
      refine x_icmp_ge (pc := 9) (tgt := 50) G dX11_heldPieces_9 rfl (fun c1 => ?_) (fun c1 => ?_)
      · have ei := lp_end e39 c1 hi (by omega)
        refine x_iload2 (pc := 50) G dX11_heldPieces_50 ?_
        exact x_iret (pc := 51) G B rfl dX11_heldPieces_51 ⟨by rw [f_heldPieces, e39, nI_clamp (by omega), ei], rfl⟩
      have hlt := lp_lt e39 c1 hi (by omega)
      refine x_iload2 (pc := 12) G dX11_heldPieces_12 ?_
      refine x_aload0 (pc := 13) G dX11_heldPieces_13 ?_
      refine y_gA (pc := 14) G g_112 mG_40 dX11_heldPieces_14 ?_
      refine x_iload3 (pc := 17) G dX11_heldPieces_17 ?_
      refine y_iald (pc := 18) (v := (gI M 40 (nI i))) G hM a_40 (by exact vp_in_nI (N := 60) (by omega) (by decide)) rfl dX11_heldPieces_18 ?_
      refine x_iload1 (pc := 19) G dX11_heldPieces_19 ?_
      refine x_icmp_ne (pc := 20) (tgt := 41) G dX11_heldPieces_20 rfl (fun c2 => ?_) (fun c2 => ?_)
      · refine x_iconst (pc := 41) (v := 0) G dX11_heldPieces_41 ic_0 ?_
        refine x_iadd (pc := 42) G dX11_heldPieces_42 ?_
        refine x_istore2 (pc := 43) G dX11_heldPieces_43 (Nat.le_of_ble_eq_true rfl) rfl ?_
        refine x_iinc3 (pc := 44) (v := ((nI i) + 1)) G dX11_heldPieces_44 (by rfl) (Nat.le_of_ble_eq_true rfl) rfl ?_
        refine x_goto (pc := 47) (tgt := 4) G dX11_heldPieces_47 rfl ?_
        have h9 := ih (i + 1) (by omega) (by omega)
        rw [show it_heldPieces p1 M (i + 1) = ((it_heldPieces p1 M i) + 0) from by rw [it_heldPieces, st_heldPieces, if_neg c2]] at h9
        rw [← nI_1 i] at h9
        exact h9
      refine x_aload0 (pc := 23) G dX11_heldPieces_23 ?_
      refine y_gA (pc := 24) G g_124 mG_44 dX11_heldPieces_24 ?_
      refine x_iload3 (pc := 27) G dX11_heldPieces_27 ?_
      refine y_iald (pc := 28) (v := (gI M 44 (nI i))) G hM a_44 (by exact vp_in_nI (N := 60) (by omega) (by decide)) rfl dX11_heldPieces_28 ?_
      refine x_if_ne (pc := 29) (y := 0) (tgt := 41) G dX11_heldPieces_29 rfl (fun c3 => ?_) (fun c3 => ?_)
      · refine x_iconst (pc := 41) (v := 0) G dX11_heldPieces_41 ic_0 ?_
        refine x_iadd (pc := 42) G dX11_heldPieces_42 ?_
        refine x_istore2 (pc := 43) G dX11_heldPieces_43 (Nat.le_of_ble_eq_true rfl) rfl ?_
        refine x_iinc3 (pc := 44) (v := ((nI i) + 1)) G dX11_heldPieces_44 (by rfl) (Nat.le_of_ble_eq_true rfl) rfl ?_
        refine x_goto (pc := 47) (tgt := 4) G dX11_heldPieces_47 rfl ?_
        have h9 := ih (i + 1) (by omega) (by omega)
        rw [show it_heldPieces p1 M (i + 1) = ((it_heldPieces p1 M i) + 0) from by rw [it_heldPieces, st_heldPieces, if_pos c2, if_neg c3]] at h9
        rw [← nI_1 i] at h9
        exact h9
      refine x_aload0 (pc := 32) G dX11_heldPieces_32 ?_
      refine y_gA (pc := 33) G g_115 mG_41 dX11_heldPieces_33 ?_
      refine x_iload3 (pc := 36) G dX11_heldPieces_36 ?_
      refine y_iald (pc := 37) (v := (gI M 41 (nI i))) G hM a_41 (by exact vp_in_nI (N := 60) (by omega) (by decide)) rfl dX11_heldPieces_37 ?_
      refine x_goto (pc := 38) (tgt := 42) G dX11_heldPieces_38 rfl ?_
      refine x_iadd (pc := 42) G dX11_heldPieces_42 ?_
      refine x_istore2 (pc := 43) G dX11_heldPieces_43 (Nat.le_of_ble_eq_true rfl) rfl ?_
      refine x_iinc3 (pc := 44) (v := ((nI i) + 1)) G dX11_heldPieces_44 (by rfl) (Nat.le_of_ble_eq_true rfl) rfl ?_
      refine x_goto (pc := 47) (tgt := 4) G dX11_heldPieces_47 rfl ?_
      have h9 := ih (i + 1) (by omega) (by omega)
      rw [show it_heldPieces p1 M (i + 1) = ((it_heldPieces p1 M i) + (gI M 41 (nI i))) from by rw [it_heldPieces, st_heldPieces, if_pos c2, if_pos c3]] at h9
      rw [← nI_1 i] at h9
      exact h9
  refine x_iconst (pc := 0) (v := 0) G dX11_heldPieces_0 ic_0 ?_
  refine x_istore2 (pc := 1) G dX11_heldPieces_1 (Nat.le_of_ble_eq_true rfl) rfl ?_
  refine x_iconst (pc := 2) (v := 0) G dX11_heldPieces_2 ic_0 ?_
  refine x_istore3 (pc := 3) G dX11_heldPieces_3 (Nat.le_of_ble_eq_true rfl) rfl ?_
  exact loop (n + 1) 0 (by omega) (by omega)
theorem dX11_total_0 : decode cX11_total 0 = .ok (.lconst 0, 1) := by decide +kernel
theorem dX11_total_1 : decode cX11_total 1 = .ok (.lstore_n 2, 1) := by decide +kernel
theorem dX11_total_2 : decode cX11_total 2 = .ok (.iconst 4, 1) := by decide +kernel
theorem dX11_total_3 : decode cX11_total 3 = .ok (.iload_n 1, 1) := by decide +kernel
theorem dX11_total_4 : decode cX11_total 4 = .ok (.imul, 1) := by decide +kernel
theorem dX11_total_5 : decode cX11_total 5 = .ok (.istore 4, 2) := by decide +kernel
theorem dX11_total_7 : decode cX11_total 7 = .ok (.iload 4, 2) := by decide +kernel
theorem dX11_total_9 : decode cX11_total 9 = .ok (.iconst 4, 1) := by decide +kernel
theorem dX11_total_10 : decode cX11_total 10 = .ok (.iload_n 1, 1) := by decide +kernel
theorem dX11_total_11 : decode cX11_total 11 = .ok (.imul, 1) := by decide +kernel
theorem dX11_total_12 : decode cX11_total 12 = .ok (.aload_n 0, 1) := by decide +kernel
theorem dX11_total_13 : decode cX11_total 13 = .ok (.getfield 48, 3) := by decide +kernel
theorem dX11_total_16 : decode cX11_total 16 = .ok (.iload_n 1, 1) := by decide +kernel
theorem dX11_total_17 : decode cX11_total 17 = .ok (.iaload, 1) := by decide +kernel
theorem dX11_total_18 : decode cX11_total 18 = .ok (.iadd, 1) := by decide +kernel
theorem dX11_total_19 : decode cX11_total 19 = .ok (.if_icmp .ge 29, 3) := by decide +kernel
theorem dX11_total_22 : decode cX11_total 22 = .ok (.lload_n 2, 1) := by decide +kernel
theorem dX11_total_23 : decode cX11_total 23 = .ok (.aload_n 0, 1) := by decide +kernel
theorem dX11_total_24 : decode cX11_total 24 = .ok (.getfield 78, 3) := by decide +kernel
theorem dX11_total_27 : decode cX11_total 27 = .ok (.iload 4, 2) := by decide +kernel
theorem dX11_total_29 : decode cX11_total 29 = .ok (.iaload, 1) := by decide +kernel
theorem dX11_total_30 : decode cX11_total 30 = .ok (.i2l, 1) := by decide +kernel
theorem dX11_total_31 : decode cX11_total 31 = .ok (.aload_n 0, 1) := by decide +kernel
theorem dX11_total_32 : decode cX11_total 32 = .ok (.getfield 81, 3) := by decide +kernel
theorem dX11_total_35 : decode cX11_total 35 = .ok (.iload 4, 2) := by decide +kernel
theorem dX11_total_37 : decode cX11_total 37 = .ok (.iaload, 1) := by decide +kernel
theorem dX11_total_38 : decode cX11_total 38 = .ok (.i2l, 1) := by decide +kernel
theorem dX11_total_39 : decode cX11_total 39 = .ok (.lmul, 1) := by decide +kernel
theorem dX11_total_40 : decode cX11_total 40 = .ok (.ladd, 1) := by decide +kernel
theorem dX11_total_41 : decode cX11_total 41 = .ok (.lstore_n 2, 1) := by decide +kernel
theorem dX11_total_42 : decode cX11_total 42 = .ok (.iinc 4 1, 3) := by decide +kernel
theorem dX11_total_45 : decode cX11_total 45 = .ok (.goto (-38), 3) := by decide +kernel
theorem dX11_total_48 : decode cX11_total 48 = .ok (.lload_n 2, 1) := by decide +kernel
theorem dX11_total_49 : decode cX11_total 49 = .ok (.lreturn, 1) := by decide +kernel
def st_total (p1 : Int32) (M : MS) (x : Int32) (a : Int64) : Int64 :=
    (a + (((gI M 28 x).toInt64) * ((gI M 29 x).toInt64)))
def it_total (p1 : Int32) (M : MS) : Nat → Int64
  | 0 => 0
  | i + 1 => st_total p1 M (4 * p1 + nI i) (it_total p1 M i)
def f_total (p1 : Int32) (M : MS) : Int64 := it_total p1 M (gI M 18 p1).toNatClampNeg
abbrev rm_X11_total : Room := { frames := 0, cells := 0, slots := 0, locals := 0 }
set_option maxRecDepth 100000 in
set_option maxHeartbeats 4000000 in
theorem c_total {l : Launch} {k : KC} {mo : Nat} {ad : Nat → Nat} (hl : l.stackTraces = false) (hM : HM mo ad) {M : MS} {p1 : Int32} (h1 : vp_in p1 40) (h2 : LE (gI M 18 p1) 4) : CM l k mo ad yX11_total (.code yX11_total cX11_total 5 (some .long)) rm_X11_total [.int p1] M (some (.long (f_total p1 M))) M := by
  refine MC.of 3 hl (by decide) (Nat.le_of_ble_eq_true rfl) ?_
  intro p e s m args below meth c A Q G B _ _
  show Wx p l e rm_X11_total s m args below meth c k A 5 Q 0 0 0 [some (.ref mo), some (.int p1), none, none, none] [] (mW k mo ad M)
  obtain ⟨r, hr, er⟩ := vp_in_of h1 (by decide)
  obtain ⟨n, hn, e18⟩ := h2
  have e4 : (4 : Int32) * p1 = nI (4 * r) := by rw [er, show (4 : Int32) = nI 4 from rfl, pk_mul]
  have hx : ∀ i : Nat, (4 : Int32) * p1 + nI i = nI (4 * r + i) := fun i => by rw [e4, nI_add]
  have eb : (4 : Int32) * p1 + gI M 18 p1 = nI (4 * r + n) := by rw [e18, hx]
  have loop : ∀ f i : Nat, i ≤ n → n - i < f → Wx p l e rm_X11_total s m args below meth c k A 5 Q 0 0 7 [some (.ref mo), some (.int p1), some (.long (it_total p1 M i)), none, some (.int (nI (4 * r + i)))] [] (mW k mo ad M) := by
    intro f
    induction f with
    | zero => intro i _ h9; omega
    | succ f ih =>
      intro i hi hf
      refine x_iload4 (pc := 7) G dX11_total_7 ?_
      refine x_iconst (pc := 9) (v := 4) G dX11_total_9 ic_4 ?_
      refine x_iload1 (pc := 10) G dX11_total_10 ?_
      refine x_imul (pc := 11) G dX11_total_11 ?_
      refine x_aload0 (pc := 12) G dX11_total_12 ?_
      refine y_gA (pc := 13) G g_48 mG_18 dX11_total_13 ?_
      refine x_iload1 (pc := 16) G dX11_total_16 ?_
      refine y_iald (pc := 17) (v := (gI M 18 p1)) G hM a_18 (by first | exact h1 | exact vp_in_nI (N := 160) (by omega) (by decide)) rfl dX11_total_17 ?_
      refine x_iadd (pc := 18) G dX11_total_18 ?_
      refine x_icmp_ge (pc := 19) (tgt := 48) G dX11_total_19 rfl (fun c1 => ?_) (fun c1 => ?_)
      · have ei : i = n := by have := lp_end (i := 4 * r + i) eb c1 (by omega) (by omega); omega
        refine x_lload2 (pc := 48) G dX11_total_48 ?_
        exact x_lret (pc := 49) G B rfl dX11_total_49 ⟨by rw [f_total, e18, nI_clamp (by omega), ei], rfl⟩
      have hlt : i < n := by have := lp_lt (i := 4 * r + i) eb c1 (by omega) (by omega); omega
      refine x_lload2 (pc := 22) G dX11_total_22 ?_
      refine x_aload0 (pc := 23) G dX11_total_23 ?_
      refine y_gA (pc := 24) G g_78 mG_28 dX11_total_24 ?_
      refine x_iload4 (pc := 27) G dX11_total_27 ?_
      refine y_iald (pc := 29) (v := (gI M 28 (nI (4 * r + i)))) G hM a_28 (by first | exact h1 | exact vp_in_nI (N := 160) (by omega) (by decide)) rfl dX11_total_29 ?_
      refine x_i2l (pc := 30) G dX11_total_30 ?_
      refine x_aload0 (pc := 31) G dX11_total_31 ?_
      refine y_gA (pc := 32) G g_81 mG_29 dX11_total_32 ?_
      refine x_iload4 (pc := 35) G dX11_total_35 ?_
      refine y_iald (pc := 37) (v := (gI M 29 (nI (4 * r + i)))) G hM a_29 (by first | exact h1 | exact vp_in_nI (N := 160) (by omega) (by decide)) rfl dX11_total_37 ?_
      refine x_i2l (pc := 38) G dX11_total_38 ?_
      refine x_lmul (pc := 39) G dX11_total_39 ?_
      refine x_ladd (pc := 40) G dX11_total_40 ?_
      refine x_lstore2 (pc := 41) G dX11_total_41 (Nat.le_of_ble_eq_true rfl) rfl ?_
      refine x_iinc4 (pc := 42) (v := ((nI (4 * r + i)) + 1)) G dX11_total_42 (by rfl) (Nat.le_of_ble_eq_true rfl) rfl ?_
      refine x_goto (pc := 45) (tgt := 7) G dX11_total_45 rfl ?_
      have h9 := ih (i + 1) (by omega) (by omega)
      rw [show it_total p1 M (i + 1) = ((it_total p1 M i) + (((gI M 28 (nI (4 * r + i))).toInt64) * ((gI M 29 (nI (4 * r + i))).toInt64))) from by rw [it_total, st_total, hx]] at h9
      rw [show 4 * r + (i + 1) = (4 * r + i) + 1 by omega, ← nI_1] at h9
      exact h9
  refine x_lconst (pc := 0) (v := 0) G dX11_total_0 lc_0 ?_
  refine x_lstore2 (pc := 1) G dX11_total_1 (Nat.le_of_ble_eq_true rfl) rfl ?_
  refine x_iconst (pc := 2) (v := 4) G dX11_total_2 ic_4 ?_
  refine x_iload1 (pc := 3) G dX11_total_3 ?_
  refine x_imul (pc := 4) G dX11_total_4 ?_
  refine x_istore4 (pc := 5) G dX11_total_5 (Nat.le_of_ble_eq_true rfl) rfl ?_
  rw [e4]; exact loop (n + 1) 0 (by omega) (by omega)
