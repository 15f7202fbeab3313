theorem dX11_laysChain_0 : decode cX11_laysChain 0 = .ok (.iconst 0, 1) := by decide +kernel
theorem dX11_laysChain_1 : decode cX11_laysChain 1 = .ok (.istore 4, 2) := by decide +kernel
theorem dX11_laysChain_3 : decode cX11_laysChain 3 = .ok (.aload_n 0, 1) := by decide +kernel
theorem dX11_laysChain_4 : decode cX11_laysChain 4 = .ok (.getfield 13, 3) := by decide +kernel
theorem dX11_laysChain_7 : decode cX11_laysChain 7 = .ok (.aload_n 0, 1) := by decide +kernel
theorem dX11_laysChain_8 : decode cX11_laysChain 8 = .ok (.getfield 39, 3) := by decide +kernel
theorem dX11_laysChain_11 : decode cX11_laysChain 11 = .ok (.iload_n 1, 1) := by decide +kernel
theorem dX11_laysChain_12 : decode cX11_laysChain 12 = .ok (.iaload, 1) := by decide +kernel
theorem dX11_laysChain_13 : decode cX11_laysChain 13 = .ok (.iaload, 1) := by decide +kernel
theorem dX11_laysChain_14 : decode cX11_laysChain 14 = .ok (.istore 5, 2) := by decide +kernel
theorem dX11_laysChain_16 : decode cX11_laysChain 16 = .ok (.aload_n 0, 1) := by decide +kernel
theorem dX11_laysChain_17 : decode cX11_laysChain 17 = .ok (.getfield 213, 3) := by decide +kernel
theorem dX11_laysChain_20 : decode cX11_laysChain 20 = .ok (.aload_n 0, 1) := by decide +kernel
theorem dX11_laysChain_21 : decode cX11_laysChain 21 = .ok (.getfield 39, 3) := by decide +kernel
theorem dX11_laysChain_24 : decode cX11_laysChain 24 = .ok (.iload_n 1, 1) := by decide +kernel
theorem dX11_laysChain_25 : decode cX11_laysChain 25 = .ok (.iaload, 1) := by decide +kernel
theorem dX11_laysChain_26 : decode cX11_laysChain 26 = .ok (.if_icmp .ne 7, 3) := by decide +kernel
theorem dX11_laysChain_29 : decode cX11_laysChain 29 = .ok (.iconst 1, 1) := by decide +kernel
theorem dX11_laysChain_30 : decode cX11_laysChain 30 = .ok (.goto 4, 3) := by decide +kernel
theorem dX11_laysChain_33 : decode cX11_laysChain 33 = .ok (.iconst 0, 1) := by decide +kernel
theorem dX11_laysChain_34 : decode cX11_laysChain 34 = .ok (.istore 6, 2) := by decide +kernel
theorem dX11_laysChain_36 : decode cX11_laysChain 36 = .ok (.iload 5, 2) := by decide +kernel
theorem dX11_laysChain_38 : decode cX11_laysChain 38 = .ok (.iconst (-1), 1) := by decide +kernel
theorem dX11_laysChain_39 : decode cX11_laysChain 39 = .ok (.if_icmp .eq 70, 3) := by decide +kernel
theorem dX11_laysChain_42 : decode cX11_laysChain 42 = .ok (.aload_n 0, 1) := by decide +kernel
theorem dX11_laysChain_43 : decode cX11_laysChain 43 = .ok (.getfield 63, 3) := by decide +kernel
theorem dX11_laysChain_46 : decode cX11_laysChain 46 = .ok (.bipush 12, 2) := by decide +kernel
theorem dX11_laysChain_48 : decode cX11_laysChain 48 = .ok (.iload_n 1, 1) := by decide +kernel
theorem dX11_laysChain_49 : decode cX11_laysChain 49 = .ok (.imul, 1) := by decide +kernel
theorem dX11_laysChain_50 : decode cX11_laysChain 50 = .ok (.iload 4, 2) := by decide +kernel
theorem dX11_laysChain_52 : decode cX11_laysChain 52 = .ok (.iadd, 1) := by decide +kernel
theorem dX11_laysChain_53 : decode cX11_laysChain 53 = .ok (.iload 5, 2) := by decide +kernel
theorem dX11_laysChain_55 : decode cX11_laysChain 55 = .ok (.iastore, 1) := by decide +kernel
theorem dX11_laysChain_56 : decode cX11_laysChain 56 = .ok (.iinc 4 1, 3) := by decide +kernel
theorem dX11_laysChain_59 : decode cX11_laysChain 59 = .ok (.iload 6, 2) := by decide +kernel
theorem dX11_laysChain_61 : decode cX11_laysChain 61 = .ok (.ifCond .ne 12, 3) := by decide +kernel
theorem dX11_laysChain_64 : decode cX11_laysChain 64 = .ok (.iload 5, 2) := by decide +kernel
theorem dX11_laysChain_66 : decode cX11_laysChain 66 = .ok (.aload_n 0, 1) := by decide +kernel
theorem dX11_laysChain_67 : decode cX11_laysChain 67 = .ok (.getfield 213, 3) := by decide +kernel
theorem dX11_laysChain_70 : decode cX11_laysChain 70 = .ok (.if_icmp .ne 7, 3) := by decide +kernel
theorem dX11_laysChain_73 : decode cX11_laysChain 73 = .ok (.iconst 1, 1) := by decide +kernel
theorem dX11_laysChain_74 : decode cX11_laysChain 74 = .ok (.goto 4, 3) := by decide +kernel
theorem dX11_laysChain_77 : decode cX11_laysChain 77 = .ok (.iconst 0, 1) := by decide +kernel
theorem dX11_laysChain_78 : decode cX11_laysChain 78 = .ok (.istore 6, 2) := by decide +kernel
theorem dX11_laysChain_80 : decode cX11_laysChain 80 = .ok (.aload_n 0, 1) := by decide +kernel
theorem dX11_laysChain_81 : decode cX11_laysChain 81 = .ok (.getfield 17, 3) := by decide +kernel
theorem dX11_laysChain_84 : decode cX11_laysChain 84 = .ok (.iload 5, 2) := by decide +kernel
theorem dX11_laysChain_86 : decode cX11_laysChain 86 = .ok (.iaload, 1) := by decide +kernel
theorem dX11_laysChain_87 : decode cX11_laysChain 87 = .ok (.i2l, 1) := by decide +kernel
theorem dX11_laysChain_88 : decode cX11_laysChain 88 = .ok (.lload_n 2, 1) := by decide +kernel
theorem dX11_laysChain_89 : decode cX11_laysChain 89 = .ok (.lcmp, 1) := by decide +kernel
theorem dX11_laysChain_90 : decode cX11_laysChain 90 = .ok (.ifCond .lt 7, 3) := by decide +kernel
theorem dX11_laysChain_93 : decode cX11_laysChain 93 = .ok (.iconst (-1), 1) := by decide +kernel
theorem dX11_laysChain_94 : decode cX11_laysChain 94 = .ok (.goto 10, 3) := by decide +kernel
theorem dX11_laysChain_97 : decode cX11_laysChain 97 = .ok (.aload_n 0, 1) := by decide +kernel
theorem dX11_laysChain_98 : decode cX11_laysChain 98 = .ok (.getfield 13, 3) := by decide +kernel
theorem dX11_laysChain_101 : decode cX11_laysChain 101 = .ok (.iload 5, 2) := by decide +kernel
theorem dX11_laysChain_103 : decode cX11_laysChain 103 = .ok (.iaload, 1) := by decide +kernel
theorem dX11_laysChain_104 : decode cX11_laysChain 104 = .ok (.istore 5, 2) := by decide +kernel
theorem dX11_laysChain_106 : decode cX11_laysChain 106 = .ok (.goto (-70), 3) := by decide +kernel
theorem dX11_laysChain_109 : decode cX11_laysChain 109 = .ok (.aload_n 0, 1) := by decide +kernel
theorem dX11_laysChain_110 : decode cX11_laysChain 110 = .ok (.getfield 66, 3) := by decide +kernel
theorem dX11_laysChain_113 : decode cX11_laysChain 113 = .ok (.iload_n 1, 1) := by decide +kernel
theorem dX11_laysChain_114 : decode cX11_laysChain 114 = .ok (.iload 4, 2) := by decide +kernel
theorem dX11_laysChain_116 : decode cX11_laysChain 116 = .ok (.iastore, 1) := by decide +kernel
theorem dX11_laysChain_117 : decode cX11_laysChain 117 = .ok (.aload_n 0, 1) := by decide +kernel
theorem dX11_laysChain_118 : decode cX11_laysChain 118 = .ok (.getfield 69, 3) := by decide +kernel
theorem dX11_laysChain_121 : decode cX11_laysChain 121 = .ok (.iload_n 1, 1) := by decide +kernel
theorem dX11_laysChain_122 : decode cX11_laysChain 122 = .ok (.iconst 0, 1) := by decide +kernel
theorem dX11_laysChain_123 : decode cX11_laysChain 123 = .ok (.iastore, 1) := by decide +kernel
theorem dX11_laysChain_124 : decode cX11_laysChain 124 = .ok (.aload_n 0, 1) := by decide +kernel
theorem dX11_laysChain_125 : decode cX11_laysChain 125 = .ok (.getfield 72, 3) := by decide +kernel
theorem dX11_laysChain_128 : decode cX11_laysChain 128 = .ok (.iload_n 1, 1) := by decide +kernel
theorem dX11_laysChain_129 : decode cX11_laysChain 129 = .ok (.lload_n 2, 1) := by decide +kernel
theorem dX11_laysChain_130 : decode cX11_laysChain 130 = .ok (.ldc2_w 244, 3) := by decide +kernel
theorem dX11_laysChain_133 : decode cX11_laysChain 133 = .ok (.lcmp, 1) := by decide +kernel
theorem dX11_laysChain_134 : decode cX11_laysChain 134 = .ok (.ifCond .lt 15, 3) := by decide +kernel
theorem dX11_laysChain_137 : decode cX11_laysChain 137 = .ok (.iload 6, 2) := by decide +kernel
theorem dX11_laysChain_139 : decode cX11_laysChain 139 = .ok (.ifCond .ne 10, 3) := by decide +kernel
theorem dX11_laysChain_142 : decode cX11_laysChain 142 = .ok (.aload_n 0, 1) := by decide +kernel
theorem dX11_laysChain_143 : decode cX11_laysChain 143 = .ok (.getfield 213, 3) := by decide +kernel
theorem dX11_laysChain_146 : decode cX11_laysChain 146 = .ok (.goto 4, 3) := by decide +kernel
theorem dX11_laysChain_149 : decode cX11_laysChain 149 = .ok (.iconst (-1), 1) := by decide +kernel
theorem dX11_laysChain_150 : decode cX11_laysChain 150 = .ok (.iastore, 1) := by decide +kernel
theorem dX11_laysChain_151 : decode cX11_laysChain 151 = .ok (.return_, 1) := by decide +kernel
def lc_run (p1 : Int32) (p2 : Int64) : Nat → Int32 → Int32 → Int32 → MS → MS
  | 0, _, _, _, Mi => Mi
  | f + 1, m, b, h, Mi =>
    if b = (-1) then
      if (lg_cmp p2 100000) < 0 then
        (rI (rI (rI Mi 24 p1 m) 25 p1 0) 26 p1 (-1))
      else
      if h = 0 then
        (rI (rI (rI Mi 24 p1 m) 25 p1 0) 26 p1 (mI Mi 10))
      else
      (rI (rI (rI Mi 24 p1 m) 25 p1 0) 26 p1 (-1))
    else
    if h = 0 then
      if b = (mI Mi 10) then
        if (lg_cmp ((gI Mi 5 b).toInt64) p2) < 0 then
          lc_run p1 p2 f (m + 1) (gI Mi 4 b) 1 (rI Mi 23 ((12 * p1) + m) b)
        else
        lc_run p1 p2 f (m + 1) (-1) 1 (rI Mi 23 ((12 * p1) + m) b)
      else
      if (lg_cmp ((gI Mi 5 b).toInt64) p2) < 0 then
        lc_run p1 p2 f (m + 1) (gI Mi 4 b) 0 (rI Mi 23 ((12 * p1) + m) b)
      else
      lc_run p1 p2 f (m + 1) (-1) 0 (rI Mi 23 ((12 * p1) + m) b)
    else
    if (lg_cmp ((gI Mi 5 b).toInt64) p2) < 0 then
      lc_run p1 p2 f (m + 1) (gI Mi 4 b) 1 (rI Mi 23 ((12 * p1) + m) b)
    else
    lc_run p1 p2 f (m + 1) (-1) 1 (rI Mi 23 ((12 * p1) + m) b)
def f_laysChain (p1 : Int32) (p2 : Int64) (M : MS) : MS :=
    if (mI M 10) = (gI M 15 p1) then
      lc_run p1 p2 13 0 (gI M 4 (gI M 15 p1)) 1 M
    else
    lc_run p1 p2 13 0 (gI M 4 (gI M 15 p1)) 0 M
abbrev rm_X11_laysChain : Room := { frames := 0, cells := 0, slots := 0, locals := 0 }
set_option maxRecDepth 100000 in
set_option maxHeartbeats 40000000 in
theorem c_laysChain {l : Launch} {k : KC} {mo : Nat} {ad : Nat → Nat} (hl : l.stackTraces = false) (hM : HM mo ad) {M : MS} {p1 : Int32} {p2 : Int64} (h1 : vp_in p1 40) (h2 : vp_in (gI M 15 p1) 12) (hbs : ∀ j, j < 12 → gI M 4 (nI j) = -1 ∨ ∃ j2, j2 < j ∧ gI M 4 (nI j) = nI j2) : CM l k mo ad yX11_laysChain (.code yX11_laysChain cX11_laysChain 7 none) rm_X11_laysChain [.int p1, .long p2] M none (f_laysChain p1 p2 M) := by
  refine MC.of 3 hl (by decide) (Nat.le_of_ble_eq_true rfl) ?_
  intro p e s m9 args below meth c A Q G B _ _
  show Wx p l e rm_X11_laysChain s m9 args below meth c k A 7 Q 0 0 0 [some (.ref mo), some (.int p1), some (.long p2), none, none, none, none] [] (mW k mo ad M)
  obtain ⟨r, hr, er⟩ := vp_in_of h1 (by decide)
  obtain ⟨w, hw, ew⟩ := vp_in_of h2 (by decide)
  have loop : ∀ (f q : Nat) (m b h : Int32) (Mi : MS), m = nI q → ((b = -1 ∧ 1 ≤ f) ∨ ∃ j, b = nI j ∧ j + 2 ≤ f ∧ q + j ≤ 11) → (∀ x, gI Mi 4 x = gI M 4 x) → lc_run p1 p2 f m b h Mi = f_laysChain p1 p2 M → Wx p l e rm_X11_laysChain s m9 args below meth c k A 7 Q 0 0 36 [some (.ref mo), some (.int p1), some (.long p2), none, some (.int m), some (.int b), some (.int h)] [] (mW k mo ad Mi) := by
    intro f
    induction f with
    | zero =>
      intro q m b h Mi _ hb _ _
      rcases hb with ⟨_, hb⟩ | ⟨j, _, hb, _⟩ <;> omega
    | succ f ih =>
      intro q m b h Mi hm hb h4 hE
      refine x_iload5 (pc := 36) G dX11_laysChain_36 ?_
      refine x_iconst (pc := 38) (v := (-1)) G dX11_laysChain_38 ic_m1 ?_
      refine x_icmp_eq (pc := 39) (tgt := 109) G dX11_laysChain_39 rfl (fun c1 => ?_) (fun c1 => ?_)
      · refine x_aload0 (pc := 109) G dX11_laysChain_109 ?_
        refine y_gA (pc := 110) G g_66 mG_24 dX11_laysChain_110 ?_
        refine x_iload1 (pc := 113) G dX11_laysChain_113 ?_
        refine x_iload4 (pc := 114) G dX11_laysChain_114 ?_
        refine y_iast (pc := 116) G hM a_24 (h1) dX11_laysChain_116 ?_
        refine x_aload0 (pc := 117) G dX11_laysChain_117 ?_
        refine y_gA (pc := 118) G g_69 mG_25 dX11_laysChain_118 ?_
        refine x_iload1 (pc := 121) G dX11_laysChain_121 ?_
        refine x_iconst (pc := 122) (v := 0) G dX11_laysChain_122 ic_0 ?_
        refine y_iast (pc := 123) G hM a_25 (h1) dX11_laysChain_123 ?_
        refine x_aload0 (pc := 124) G dX11_laysChain_124 ?_
        refine y_gA (pc := 125) G g_72 mG_26 dX11_laysChain_125 ?_
        refine x_iload1 (pc := 128) G dX11_laysChain_128 ?_
        refine x_lload2 (pc := 129) G dX11_laysChain_129 ?_
        refine x_ldc2 (pc := 130) G q_cL_X11_244 dX11_laysChain_130 ?_
        refine x_lcmp (pc := 133) G dX11_laysChain_133 ?_
        refine x_if_lt (pc := 134) (y := 0) (tgt := 149) G dX11_laysChain_134 rfl (fun c2 => ?_) (fun c2 => ?_)
        · refine x_iconst (pc := 149) (v := (-1)) G dX11_laysChain_149 ic_m1 ?_
          refine y_iast (pc := 150) G hM a_26 (h1) dX11_laysChain_150 ?_
          exact x_vret (pc := 151) G B rfl dX11_laysChain_151 ⟨rfl, by rw [← hE, lc_run, if_pos c1, if_pos c2]⟩
        refine x_iload6 (pc := 137) G dX11_laysChain_137 ?_
        refine x_if_ne (pc := 139) (y := 0) (tgt := 149) G dX11_laysChain_139 rfl (fun c3 => ?_) (fun c3 => ?_)
        · refine x_iconst (pc := 149) (v := (-1)) G dX11_laysChain_149 ic_m1 ?_
          refine y_iast (pc := 150) G hM a_26 (h1) dX11_laysChain_150 ?_
          exact x_vret (pc := 151) G B rfl dX11_laysChain_151 ⟨rfl, by rw [← hE, lc_run, if_pos c1, if_neg c2, if_neg c3]⟩
        refine x_aload0 (pc := 142) G dX11_laysChain_142 ?_
        refine y_gI (pc := 143) (v := (mI Mi 10)) G g_213 mG_10 (mI_rI.trans mI_rI) dX11_laysChain_143 ?_
        refine x_goto (pc := 146) (tgt := 150) G dX11_laysChain_146 rfl ?_
        refine y_iast (pc := 150) G hM a_26 (h1) dX11_laysChain_150 ?_
        exact x_vret (pc := 151) G B rfl dX11_laysChain_151 ⟨rfl, by rw [← hE, lc_run, if_pos c1, if_neg c2, if_pos c3]⟩
      obtain ⟨j, hj, hf9, hq9⟩ := hb.resolve_left (fun q9 => c1 q9.1)
      have hv12 : vp_in b 12 := by rw [hj]; exact vp_in_nI (by omega) (by decide)
      have hv480 : vp_in (12 * p1 + m) 480 := by rw [er, hm, show (12 : Int32) = nI 12 from rfl, pk_mul, nI_add]; exact vp_in_nI (by omega) (by decide)
      have hnx : gI Mi 4 b = -1 ∨ ∃ j2, j2 < j ∧ gI Mi 4 b = nI j2 := by rw [h4, hj]; exact hbs j (by omega)
      refine x_aload0 (pc := 42) G dX11_laysChain_42 ?_
      refine y_gA (pc := 43) G g_63 mG_23 dX11_laysChain_43 ?_
      refine x_bipush (pc := 46) (v := 12) G dX11_laysChain_46 bp_12 ?_
      refine x_iload1 (pc := 48) G dX11_laysChain_48 ?_
      refine x_imul (pc := 49) G dX11_laysChain_49 ?_
      refine x_iload4 (pc := 50) G dX11_laysChain_50 ?_
      refine x_iadd (pc := 52) G dX11_laysChain_52 ?_
      refine x_iload5 (pc := 53) G dX11_laysChain_53 ?_
      refine y_iast (pc := 55) G hM a_23 (hv480) dX11_laysChain_55 ?_
      refine x_iinc4 (pc := 56) (v := (m + 1)) G dX11_laysChain_56 (by rfl) (Nat.le_of_ble_eq_true rfl) rfl ?_
      refine x_iload6 (pc := 59) G dX11_laysChain_59 ?_
      refine x_if_ne (pc := 61) (y := 0) (tgt := 73) G dX11_laysChain_61 rfl (fun c4 => ?_) (fun c4 => ?_)
      · refine x_iconst (pc := 73) (v := 1) G dX11_laysChain_73 ic_1 ?_
        refine x_goto (pc := 74) (tgt := 78) G dX11_laysChain_74 rfl ?_
        refine x_istore6 (pc := 78) G dX11_laysChain_78 (Nat.le_of_ble_eq_true rfl) rfl ?_
        refine x_aload0 (pc := 80) G dX11_laysChain_80 ?_
        refine y_gA (pc := 81) G g_17 mG_5 dX11_laysChain_81 ?_
        refine x_iload5 (pc := 84) G dX11_laysChain_84 ?_
        refine y_iald (pc := 86) (v := (gI Mi 5 b)) G hM a_5 (hv12) (gI_rIn rfl) dX11_laysChain_86 ?_
        refine x_i2l (pc := 87) G dX11_laysChain_87 ?_
        refine x_lload2 (pc := 88) G dX11_laysChain_88 ?_
        refine x_lcmp (pc := 89) G dX11_laysChain_89 ?_
        refine x_if_lt (pc := 90) (y := 0) (tgt := 97) G dX11_laysChain_90 rfl (fun c5 => ?_) (fun c5 => ?_)
        · refine x_aload0 (pc := 97) G dX11_laysChain_97 ?_
          refine y_gA (pc := 98) G g_13 mG_4 dX11_laysChain_98 ?_
          refine x_iload5 (pc := 101) G dX11_laysChain_101 ?_
          refine y_iald (pc := 103) (v := (gI Mi 4 b)) G hM a_4 (hv12) (gI_rIn rfl) dX11_laysChain_103 ?_
          refine x_istore5 (pc := 104) G dX11_laysChain_104 (Nat.le_of_ble_eq_true rfl) rfl ?_
          refine x_goto (pc := 106) (tgt := 36) G dX11_laysChain_106 rfl ?_
          exact ih (q + 1) (m + 1) (gI Mi 4 b) 1 (rI Mi 23 ((12 * p1) + m) b) (by rw [hm]; exact nI_1 q) (by rcases hnx with e9 | ⟨j2, g9, e9⟩ <;> first | exact Or.inl ⟨e9, by omega⟩ | exact Or.inr ⟨j2, e9, by omega, by omega⟩) (fun x => by rw [gI_rIn rfl]; exact h4 x) (by rw [← hE, lc_run, if_neg c1, if_neg c4, if_pos c5])
        refine x_iconst (pc := 93) (v := (-1)) G dX11_laysChain_93 ic_m1 ?_
        refine x_goto (pc := 94) (tgt := 104) G dX11_laysChain_94 rfl ?_
        refine x_istore5 (pc := 104) G dX11_laysChain_104 (Nat.le_of_ble_eq_true rfl) rfl ?_
        refine x_goto (pc := 106) (tgt := 36) G dX11_laysChain_106 rfl ?_
        exact ih (q + 1) (m + 1) (-1) 1 (rI Mi 23 ((12 * p1) + m) b) (by rw [hm]; exact nI_1 q) (Or.inl ⟨rfl, by omega⟩) (fun x => by rw [gI_rIn rfl]; exact h4 x) (by rw [← hE, lc_run, if_neg c1, if_neg c4, if_neg c5])
      refine x_iload5 (pc := 64) G dX11_laysChain_64 ?_
      refine x_aload0 (pc := 66) G dX11_laysChain_66 ?_
      refine y_gI (pc := 67) (v := (mI Mi 10)) G g_213 mG_10 mI_rI dX11_laysChain_67 ?_
      refine x_icmp_ne (pc := 70) (tgt := 77) G dX11_laysChain_70 rfl (fun c6 => ?_) (fun c6 => ?_)
      · refine x_iconst (pc := 77) (v := 0) G dX11_laysChain_77 ic_0 ?_
        refine x_istore6 (pc := 78) G dX11_laysChain_78 (Nat.le_of_ble_eq_true rfl) rfl ?_
        refine x_aload0 (pc := 80) G dX11_laysChain_80 ?_
        refine y_gA (pc := 81) G g_17 mG_5 dX11_laysChain_81 ?_
        refine x_iload5 (pc := 84) G dX11_laysChain_84 ?_
        refine y_iald (pc := 86) (v := (gI Mi 5 b)) G hM a_5 (hv12) (gI_rIn rfl) dX11_laysChain_86 ?_
        refine x_i2l (pc := 87) G dX11_laysChain_87 ?_
        refine x_lload2 (pc := 88) G dX11_laysChain_88 ?_
        refine x_lcmp (pc := 89) G dX11_laysChain_89 ?_
        refine x_if_lt (pc := 90) (y := 0) (tgt := 97) G dX11_laysChain_90 rfl (fun c7 => ?_) (fun c7 => ?_)
        · refine x_aload0 (pc := 97) G dX11_laysChain_97 ?_
          refine y_gA (pc := 98) G g_13 mG_4 dX11_laysChain_98 ?_
          refine x_iload5 (pc := 101) G dX11_laysChain_101 ?_
          refine y_iald (pc := 103) (v := (gI Mi 4 b)) G hM a_4 (hv12) (gI_rIn rfl) dX11_laysChain_103 ?_
          refine x_istore5 (pc := 104) G dX11_laysChain_104 (Nat.le_of_ble_eq_true rfl) rfl ?_
          refine x_goto (pc := 106) (tgt := 36) G dX11_laysChain_106 rfl ?_
          exact ih (q + 1) (m + 1) (gI Mi 4 b) 0 (rI Mi 23 ((12 * p1) + m) b) (by rw [hm]; exact nI_1 q) (by rcases hnx with e9 | ⟨j2, g9, e9⟩ <;> first | exact Or.inl ⟨e9, by omega⟩ | exact Or.inr ⟨j2, e9, by omega, by omega⟩) (fun x => by rw [gI_rIn rfl]; exact h4 x) (by rw [← hE, lc_run, if_neg c1, if_pos c4, if_neg c6, if_pos c7])
        refine x_iconst (pc := 93) (v := (-1)) G dX11_laysChain_93 ic_m1 ?_
        refine x_goto (pc := 94) (tgt := 104) G dX11_laysChain_94 rfl ?_
        refine x_istore5 (pc := 104) G dX11_laysChain_104 (Nat.le_of_ble_eq_true rfl) rfl ?_
        refine x_goto (pc := 106) (tgt := 36) G dX11_laysChain_106 rfl ?_
        exact ih (q + 1) (m + 1) (-1) 0 (rI Mi 23 ((12 * p1) + m) b) (by rw [hm]; exact nI_1 q) (Or.inl ⟨rfl, by omega⟩) (fun x => by rw [gI_rIn rfl]; exact h4 x) (by rw [← hE, lc_run, if_neg c1, if_pos c4, if_neg c6, if_neg c7])
      refine x_iconst (pc := 73) (v := 1) G dX11_laysChain_73 ic_1 ?_
      refine x_goto (pc := 74) (tgt := 78) G dX11_laysChain_74 rfl ?_
      refine x_istore6 (pc := 78) G dX11_laysChain_78 (Nat.le_of_ble_eq_true rfl) rfl ?_
      refine x_aload0 (pc := 80) G dX11_laysChain_80 ?_
      refine y_gA (pc := 81) G g_17 mG_5 dX11_laysChain_81 ?_
      refine x_iload5 (pc := 84) G dX11_laysChain_84 ?_
      refine y_iald (pc := 86) (v := (gI Mi 5 b)) G hM a_5 (hv12) (gI_rIn rfl) dX11_laysChain_86 ?_
      refine x_i2l (pc := 87) G dX11_laysChain_87 ?_
      refine x_lload2 (pc := 88) G dX11_laysChain_88 ?_
      refine x_lcmp (pc := 89) G dX11_laysChain_89 ?_
      refine x_if_lt (pc := 90) (y := 0) (tgt := 97) G dX11_laysChain_90 rfl (fun c8 => ?_) (fun c8 => ?_)
      · refine x_aload0 (pc := 97) G dX11_laysChain_97 ?_
        refine y_gA (pc := 98) G g_13 mG_4 dX11_laysChain_98 ?_
        refine x_iload5 (pc := 101) G dX11_laysChain_101 ?_
        refine y_iald (pc := 103) (v := (gI Mi 4 b)) G hM a_4 (hv12) (gI_rIn rfl) dX11_laysChain_103 ?_
        refine x_istore5 (pc := 104) G dX11_laysChain_104 (Nat.le_of_ble_eq_true rfl) rfl ?_
        refine x_goto (pc := 106) (tgt := 36) G dX11_laysChain_106 rfl ?_
        exact ih (q + 1) (m + 1) (gI Mi 4 b) 1 (rI Mi 23 ((12 * p1) + m) b) (by rw [hm]; exact nI_1 q) (by rcases hnx with e9 | ⟨j2, g9, e9⟩ <;> first | exact Or.inl ⟨e9, by omega⟩ | exact Or.inr ⟨j2, e9, by omega, by omega⟩) (fun x => by rw [gI_rIn rfl]; exact h4 x) (by rw [← hE, lc_run, if_neg c1, if_pos c4, if_pos c6, if_pos c8])
      refine x_iconst (pc := 93) (v := (-1)) G dX11_laysChain_93 ic_m1 ?_
      refine x_goto (pc := 94) (tgt := 104) G dX11_laysChain_94 rfl ?_
      refine x_istore5 (pc := 104) G dX11_laysChain_104 (Nat.le_of_ble_eq_true rfl) rfl ?_
      refine x_goto (pc := 106) (tgt := 36) G dX11_laysChain_106 rfl ?_
      exact ih (q + 1) (m + 1) (-1) 1 (rI Mi 23 ((12 * p1) + m) b) (by rw [hm]; exact nI_1 q) (Or.inl ⟨rfl, by omega⟩) (fun x => by rw [gI_rIn rfl]; exact h4 x) (by rw [← hE, lc_run, if_neg c1, if_pos c4, if_pos c6, if_neg c8])
  have hb0 : (gI M 4 (gI M 15 p1) = -1 ∧ 1 ≤ 13) ∨ ∃ j, gI M 4 (gI M 15 p1) = nI j ∧ j + 2 ≤ 13 ∧ 0 + j ≤ 11 := by
    rw [ew]
    rcases hbs w hw with e9 | ⟨j2, g9, e9⟩
    · exact Or.inl ⟨e9, by omega⟩
    · exact Or.inr ⟨j2, e9, by omega, by omega⟩
  refine x_iconst (pc := 0) (v := 0) G dX11_laysChain_0 ic_0 ?_
  refine x_istore4 (pc := 1) G dX11_laysChain_1 (Nat.le_of_ble_eq_true rfl) rfl ?_
  refine x_aload0 (pc := 3) G dX11_laysChain_3 ?_
  refine y_gA (pc := 4) G g_13 mG_4 dX11_laysChain_4 ?_
  refine x_aload0 (pc := 7) G dX11_laysChain_7 ?_
  refine y_gA (pc := 8) G g_39 mG_15 dX11_laysChain_8 ?_
  refine x_iload1 (pc := 11) G dX11_laysChain_11 ?_
  refine y_iald (pc := 12) (v := (gI M 15 p1)) G hM a_15 (h1) rfl dX11_laysChain_12 ?_
  refine y_iald (pc := 13) (v := (gI M 4 (gI M 15 p1))) G hM a_4 (h2) rfl dX11_laysChain_13 ?_
  refine x_istore5 (pc := 14) G dX11_laysChain_14 (Nat.le_of_ble_eq_true rfl) rfl ?_
  refine x_aload0 (pc := 16) G dX11_laysChain_16 ?_
  refine y_gI (pc := 17) (v := (mI M 10)) G g_213 mG_10 rfl dX11_laysChain_17 ?_
  refine x_aload0 (pc := 20) G dX11_laysChain_20 ?_
  refine y_gA (pc := 21) G g_39 mG_15 dX11_laysChain_21 ?_
  refine x_iload1 (pc := 24) G dX11_laysChain_24 ?_
  refine y_iald (pc := 25) (v := (gI M 15 p1)) G hM a_15 (h1) rfl dX11_laysChain_25 ?_
  refine x_icmp_ne (pc := 26) (tgt := 33) G dX11_laysChain_26 rfl (fun c1 => ?_) (fun c1 => ?_)
  · refine x_iconst (pc := 33) (v := 0) G dX11_laysChain_33 ic_0 ?_
    refine x_istore6 (pc := 34) G dX11_laysChain_34 (Nat.le_of_ble_eq_true rfl) rfl ?_
    exact loop 13 0 0 (gI M 4 (gI M 15 p1)) 0 M rfl hb0 (fun _ => rfl) (by rw [f_laysChain, if_neg c1])
  refine x_iconst (pc := 29) (v := 1) G dX11_laysChain_29 ic_1 ?_
  refine x_goto (pc := 30) (tgt := 34) G dX11_laysChain_30 rfl ?_
  refine x_istore6 (pc := 34) G dX11_laysChain_34 (Nat.le_of_ble_eq_true rfl) rfl ?_
  exact loop 13 0 0 (gI M 4 (gI M 15 p1)) 1 M rfl hb0 (fun _ => rfl) (by rw [f_laysChain, if_pos c1])
theorem gI_lc {p1 : Int32} {p2 : Int64} {j : Nat} {x : Int32} (h1 : (j == 23) = false) (h2 : (j == 24) = false) (h3 : (j == 25) = false) (h4 : (j == 26) = false) : ∀ (f : Nat) (m b h : Int32) (Mi : MS), gI (lc_run p1 p2 f m b h Mi) j x = gI Mi j x
  | 0, _, _, _, _ => rfl
  | f + 1, m, b, h, Mi => by
    unfold lc_run
    repeat' split
    all_goals first | simp only [gI_rIn h1, gI_rIn h2, gI_rIn h3, gI_rIn h4] | (rw [gI_lc h1 h2 h3 h4, gI_rIn h1])
theorem gJ_lc {p1 : Int32} {p2 : Int64} {j : Nat} {x : Int32} : ∀ (f : Nat) (m b h : Int32) (Mi : MS), gJ (lc_run p1 p2 f m b h Mi) j x = gJ Mi j x
  | 0, _, _, _, _ => rfl
  | f + 1, m, b, h, Mi => by
    unfold lc_run
    repeat' split
    all_goals first | rfl | (rw [gJ_lc]; rfl)
theorem mI_lc {p1 : Int32} {p2 : Int64} {j : Nat} : ∀ (f : Nat) (m b h : Int32) (Mi : MS), mI (lc_run p1 p2 f m b h Mi) j = mI Mi j
  | 0, _, _, _, _ => rfl
  | f + 1, m, b, h, Mi => by
    unfold lc_run
    repeat' split
    all_goals first | rfl | (rw [mI_lc]; rfl)
theorem mJ_lc {p1 : Int32} {p2 : Int64} {j : Nat} : ∀ (f : Nat) (m b h : Int32) (Mi : MS), mJ (lc_run p1 p2 f m b h Mi) j = mJ Mi j
  | 0, _, _, _, _ => rfl
  | f + 1, m, b, h, Mi => by
    unfold lc_run
    repeat' split
    all_goals first | rfl | (rw [mJ_lc]; rfl)
theorem gI_laysChain {M : MS} {p1 : Int32} {p2 : Int64} {j : Nat} {x : Int32} (h1 : (j == 23) = false) (h2 : (j == 24) = false) (h3 : (j == 25) = false) (h4 : (j == 26) = false) : gI (f_laysChain p1 p2 M) j x = gI M j x := by
  unfold f_laysChain; split <;> exact gI_lc h1 h2 h3 h4 _ _ _ _ _
theorem gJ_laysChain {M : MS} {p1 : Int32} {p2 : Int64} {j : Nat} {x : Int32} : gJ (f_laysChain p1 p2 M) j x = gJ M j x := by
  unfold f_laysChain; split <;> exact gJ_lc _ _ _ _ _
theorem mI_laysChain {M : MS} {p1 : Int32} {p2 : Int64} {j : Nat} : mI (f_laysChain p1 p2 M) j = mI M j := by
  unfold f_laysChain; split <;> exact mI_lc _ _ _ _ _
theorem mJ_laysChain {M : MS} {p1 : Int32} {p2 : Int64} {j : Nat} : mJ (f_laysChain p1 p2 M) j = mJ M j := by
  unfold f_laysChain; split <;> exact mJ_lc _ _ _ _ _
theorem dX11_send_0 : decode cX11_send 0 = .ok (.aload_n 0, 1) := by decide +kernel
theorem dX11_send_1 : decode cX11_send 1 = .ok (.iload_n 1, 1) := by decide +kernel
theorem dX11_send_2 : decode cX11_send 2 = .ok (.invokevirtual 188, 3) := by decide +kernel
theorem dX11_send_5 : decode cX11_send 5 = .ok (.istore_n 2, 1) := by decide +kernel
theorem dX11_send_6 : decode cX11_send 6 = .ok (.iload_n 2, 1) := by decide +kernel
theorem dX11_send_7 : decode cX11_send 7 = .ok (.ifCond .eq 47, 3) := by decide +kernel
theorem dX11_send_10 : decode cX11_send 10 = .ok (.aload_n 0, 1) := by decide +kernel
theorem dX11_send_11 : decode cX11_send 11 = .ok (.getfield 45, 3) := by decide +kernel
theorem dX11_send_14 : decode cX11_send 14 = .ok (.iload_n 1, 1) := by decide +kernel
theorem dX11_send_15 : decode cX11_send 15 = .ok (.iaload, 1) := by decide +kernel
theorem dX11_send_16 : decode cX11_send 16 = .ok (.ifCond .ne 38, 3) := by decide +kernel
theorem dX11_send_19 : decode cX11_send 19 = .ok (.aload_n 0, 1) := by decide +kernel
theorem dX11_send_20 : decode cX11_send 20 = .ok (.getfield 48, 3) := by decide +kernel
theorem dX11_send_23 : decode cX11_send 23 = .ok (.iload_n 1, 1) := by decide +kernel
theorem dX11_send_24 : decode cX11_send 24 = .ok (.iaload, 1) := by decide +kernel
theorem dX11_send_25 : decode cX11_send 25 = .ok (.ifCond .le 29, 3) := by decide +kernel
theorem dX11_send_28 : decode cX11_send 28 = .ok (.aload_n 0, 1) := by decide +kernel
theorem dX11_send_29 : decode cX11_send 29 = .ok (.aload_n 0, 1) := by decide +kernel
theorem dX11_send_30 : decode cX11_send 30 = .ok (.getfield 42, 3) := by decide +kernel
theorem dX11_send_33 : decode cX11_send 33 = .ok (.iload_n 1, 1) := by decide +kernel
theorem dX11_send_34 : decode cX11_send 34 = .ok (.iaload, 1) := by decide +kernel
theorem dX11_send_35 : decode cX11_send 35 = .ok (.aload_n 0, 1) := by decide +kernel
theorem dX11_send_36 : decode cX11_send 36 = .ok (.invokevirtual 226, 3) := by decide +kernel
theorem dX11_send_39 : decode cX11_send 39 = .ok (.aload_n 0, 1) := by decide +kernel
theorem dX11_send_40 : decode cX11_send 40 = .ok (.iload_n 1, 1) := by decide +kernel
theorem dX11_send_41 : decode cX11_send 41 = .ok (.invokevirtual 246, 3) := by decide +kernel
theorem dX11_send_44 : decode cX11_send 44 = .ok (.invokevirtual 250, 3) := by decide +kernel
theorem dX11_send_47 : decode cX11_send 47 = .ok (.ifCond .eq 7, 3) := by decide +kernel
theorem dX11_send_50 : decode cX11_send 50 = .ok (.iconst 1, 1) := by decide +kernel
theorem dX11_send_51 : decode cX11_send 51 = .ok (.goto 4, 3) := by decide +kernel
theorem dX11_send_54 : decode cX11_send 54 = .ok (.iconst 0, 1) := by decide +kernel
theorem dX11_send_55 : decode cX11_send 55 = .ok (.istore_n 3, 1) := by decide +kernel
theorem dX11_send_56 : decode cX11_send 56 = .ok (.aload_n 0, 1) := by decide +kernel
theorem dX11_send_57 : decode cX11_send 57 = .ok (.iload_n 2, 1) := by decide +kernel
theorem dX11_send_58 : decode cX11_send 58 = .ok (.ifCond .ne 7, 3) := by decide +kernel
theorem dX11_send_61 : decode cX11_send 61 = .ok (.iconst 1, 1) := by decide +kernel
theorem dX11_send_62 : decode cX11_send 62 = .ok (.goto 12, 3) := by decide +kernel
theorem dX11_send_65 : decode cX11_send 65 = .ok (.iload_n 3, 1) := by decide +kernel
theorem dX11_send_66 : decode cX11_send 66 = .ok (.ifCond .eq 7, 3) := by decide +kernel
theorem dX11_send_69 : decode cX11_send 69 = .ok (.iconst 0, 1) := by decide +kernel
theorem dX11_send_70 : decode cX11_send 70 = .ok (.goto 4, 3) := by decide +kernel
theorem dX11_send_73 : decode cX11_send 73 = .ok (.iconst 2, 1) := by decide +kernel
theorem dX11_send_74 : decode cX11_send 74 = .ok (.invokevirtual 210, 3) := by decide +kernel
theorem dX11_send_77 : decode cX11_send 77 = .ok (.ifCond .ne 5, 3) := by decide +kernel
theorem dX11_send_80 : decode cX11_send 80 = .ok (.iconst 0, 1) := by decide +kernel
theorem dX11_send_81 : decode cX11_send 81 = .ok (.ireturn, 1) := by decide +kernel
theorem dX11_send_82 : decode cX11_send 82 = .ok (.aload_n 0, 1) := by decide +kernel
theorem dX11_send_83 : decode cX11_send 83 = .ok (.getfield 54, 3) := by decide +kernel
theorem dX11_send_86 : decode cX11_send 86 = .ok (.iload_n 1, 1) := by decide +kernel
theorem dX11_send_87 : decode cX11_send 87 = .ok (.aload_n 0, 1) := by decide +kernel
theorem dX11_send_88 : decode cX11_send 88 = .ok (.invokevirtual 226, 3) := by decide +kernel
theorem dX11_send_91 : decode cX11_send 91 = .ok (.iastore, 1) := by decide +kernel
theorem dX11_send_92 : decode cX11_send 92 = .ok (.aload_n 0, 1) := by decide +kernel
theorem dX11_send_93 : decode cX11_send 93 = .ok (.iload_n 1, 1) := by decide +kernel
theorem dX11_send_94 : decode cX11_send 94 = .ok (.aload_n 0, 1) := by decide +kernel
theorem dX11_send_95 : decode cX11_send 95 = .ok (.iload_n 1, 1) := by decide +kernel
theorem dX11_send_96 : decode cX11_send 96 = .ok (.invokevirtual 246, 3) := by decide +kernel
theorem dX11_send_99 : decode cX11_send 99 = .ok (.invokevirtual 240, 3) := by decide +kernel
theorem dX11_send_102 : decode cX11_send 102 = .ok (.aload_n 0, 1) := by decide +kernel
theorem dX11_send_103 : decode cX11_send 103 = .ok (.iload_n 1, 1) := by decide +kernel
theorem dX11_send_104 : decode cX11_send 104 = .ok (.aload_n 0, 1) := by decide +kernel
theorem dX11_send_105 : decode cX11_send 105 = .ok (.iload_n 1, 1) := by decide +kernel
theorem dX11_send_106 : decode cX11_send 106 = .ok (.invokevirtual 246, 3) := by decide +kernel
theorem dX11_send_109 : decode cX11_send 109 = .ok (.invokevirtual 254, 3) := by decide +kernel
theorem dX11_send_112 : decode cX11_send 112 = .ok (.aload_n 0, 1) := by decide +kernel
theorem dX11_send_113 : decode cX11_send 113 = .ok (.getfield 45, 3) := by decide +kernel
theorem dX11_send_116 : decode cX11_send 116 = .ok (.iload_n 1, 1) := by decide +kernel
theorem dX11_send_117 : decode cX11_send 117 = .ok (.aload_n 0, 1) := by decide +kernel
theorem dX11_send_118 : decode cX11_send 118 = .ok (.iload_n 1, 1) := by decide +kernel
theorem dX11_send_119 : decode cX11_send 119 = .ok (.invokevirtual 257, 3) := by decide +kernel
theorem dX11_send_122 : decode cX11_send 122 = .ok (.ifCond .ne 7, 3) := by decide +kernel
theorem dX11_send_125 : decode cX11_send 125 = .ok (.iconst 2, 1) := by decide +kernel
theorem dX11_send_126 : decode cX11_send 126 = .ok (.goto 4, 3) := by decide +kernel
theorem dX11_send_129 : decode cX11_send 129 = .ok (.iconst 1, 1) := by decide +kernel
theorem dX11_send_130 : decode cX11_send 130 = .ok (.iastore, 1) := by decide +kernel
theorem dX11_send_131 : decode cX11_send 131 = .ok (.aload_n 0, 1) := by decide +kernel
theorem dX11_send_132 : decode cX11_send 132 = .ok (.iload_n 1, 1) := by decide +kernel
theorem dX11_send_133 : decode cX11_send 133 = .ok (.invokevirtual 257, 3) := by decide +kernel
theorem dX11_send_136 : decode cX11_send 136 = .ok (.ireturn, 1) := by decide +kernel
def f_send (p1 : Int32) (M : MS) : Int32 × MS :=
    if P_isRequest p1 M then
      if (gI M 17 p1) = 0 then
        if (gI M 18 p1) ≤ 0 then
          (0, (sI M 0 2))
        else
        if P_may (gI M 16 p1) (f_yearNow M) (f_total p1 M) M then
          if (f_left p1 (f_laysChain p1 (f_total p1 (f_commits p1 (f_total p1 (rI (sI M 0 0) 20 p1 (f_yearNow (sI M 0 0)))) (rI (sI M 0 0) 20 p1 (f_yearNow (sI M 0 0))))) (f_commits p1 (f_total p1 (rI (sI M 0 0) 20 p1 (f_yearNow (sI M 0 0)))) (rI (sI M 0 0) 20 p1 (f_yearNow (sI M 0 0)))))) = 0 then
            ((f_left p1 (rI (f_laysChain p1 (f_total p1 (f_commits p1 (f_total p1 (rI (sI M 0 0) 20 p1 (f_yearNow (sI M 0 0)))) (rI (sI M 0 0) 20 p1 (f_yearNow (sI M 0 0))))) (f_commits p1 (f_total p1 (rI (sI M 0 0) 20 p1 (f_yearNow (sI M 0 0)))) (rI (sI M 0 0) 20 p1 (f_yearNow (sI M 0 0))))) 17 p1 2)), (rI (f_laysChain p1 (f_total p1 (f_commits p1 (f_total p1 (rI (sI M 0 0) 20 p1 (f_yearNow (sI M 0 0)))) (rI (sI M 0 0) 20 p1 (f_yearNow (sI M 0 0))))) (f_commits p1 (f_total p1 (rI (sI M 0 0) 20 p1 (f_yearNow (sI M 0 0)))) (rI (sI M 0 0) 20 p1 (f_yearNow (sI M 0 0))))) 17 p1 2))
          else
          ((f_left p1 (rI (f_laysChain p1 (f_total p1 (f_commits p1 (f_total p1 (rI (sI M 0 0) 20 p1 (f_yearNow (sI M 0 0)))) (rI (sI M 0 0) 20 p1 (f_yearNow (sI M 0 0))))) (f_commits p1 (f_total p1 (rI (sI M 0 0) 20 p1 (f_yearNow (sI M 0 0)))) (rI (sI M 0 0) 20 p1 (f_yearNow (sI M 0 0))))) 17 p1 1)), (rI (f_laysChain p1 (f_total p1 (f_commits p1 (f_total p1 (rI (sI M 0 0) 20 p1 (f_yearNow (sI M 0 0)))) (rI (sI M 0 0) 20 p1 (f_yearNow (sI M 0 0))))) (f_commits p1 (f_total p1 (rI (sI M 0 0) 20 p1 (f_yearNow (sI M 0 0)))) (rI (sI M 0 0) 20 p1 (f_yearNow (sI M 0 0))))) 17 p1 1))
        else
        (0, (sI M 0 2))
      else
      (0, (sI M 0 2))
    else
    (0, (sI M 0 1))
abbrev rm_X11_send : Room := { frames := 3, cells := 0, slots := 0, locals := 68 }
set_option maxRecDepth 100000 in
set_option maxHeartbeats 4000000 in
theorem c_send {l : Launch} {k : KC} {mo : Nat} {ad : Nat → Nat} (hl : l.stackTraces = false) (hM : HM mo ad) {M : MS} {p1 : Int32} (hr : ∀ r, P_isRequest r M → RqOK M r) (hy : P_isYear (f_yearNow M)) (hbs : P_isRequest p1 M → ∀ j, j < 12 → gI M 4 (nI j) = -1 ∨ ∃ j2, j2 < j ∧ gI M 4 (nI j) = nI j2) : CM l k mo ad yX11_send (.code yX11_send cX11_send 4 (some .int)) rm_X11_send [.int p1] M (some (.int (f_send p1 M).1)) (f_send p1 M).2 := by
  refine MC.of 2 hl (by decide) (Nat.le_of_ble_eq_true rfl) ?_
  intro p e s m args below meth c A Q G B _ _
  show Wx p l e rm_X11_send s m args below meth c k A 4 Q 0 0 0 [some (.ref mo), some (.int p1), none, none] [] (mW k mo ad M)
  refine x_aload0 (pc := 0) G dX11_send_0 ?_
  refine x_iload1 (pc := 1) G dX11_send_1 ?_
  refine y_cb1 (pc := 2) G (b_isRequest hl hM ) q_ml_X11_188 h_X11_isRequest rfl ⟨Nat.le_of_ble_eq_true rfl, Nat.le_of_ble_eq_true rfl⟩ (Nat.le_of_ble_eq_true rfl) (Nat.le_refl _) (Nat.le_refl _) dX11_send_2 (fun c1 => ?_) (fun c1 => ?_)
  · refine x_istore2 (pc := 5) G dX11_send_5 (Nat.le_of_ble_eq_true rfl) rfl ?_
    refine x_iload2 (pc := 6) G dX11_send_6 ?_
    refine x_if_eq (pc := 7) (y := 0) (tgt := 54) G dX11_send_7 rfl (fun q => absurd q (by decide)) (fun _ => ?_)
    refine x_aload0 (pc := 10) G dX11_send_10 ?_
    refine y_gA (pc := 11) G g_45 mG_17 dX11_send_11 ?_
    refine x_iload1 (pc := 14) G dX11_send_14 ?_
    refine y_iald (pc := 15) (v := (gI M 17 p1)) G hM a_17 (by exact (hr _ c1).1) rfl dX11_send_15 ?_
    refine x_if_ne (pc := 16) (y := 0) (tgt := 54) G dX11_send_16 rfl (fun c2 => ?_) (fun c2 => ?_)
    · refine x_iconst (pc := 54) (v := 0) G dX11_send_54 ic_0 ?_
      refine x_istore3 (pc := 55) G dX11_send_55 (Nat.le_of_ble_eq_true rfl) rfl ?_
      refine x_aload0 (pc := 56) G dX11_send_56 ?_
      refine x_iload2 (pc := 57) G dX11_send_57 ?_
      refine x_if_ne (pc := 58) (y := 0) (tgt := 65) G dX11_send_58 rfl (fun _ => ?_) (fun q => absurd q (by decide))
      refine x_iload3 (pc := 65) G dX11_send_65 ?_
      refine x_if_eq (pc := 66) (y := 0) (tgt := 73) G dX11_send_66 rfl (fun _ => ?_) (fun q => absurd q (by decide))
      refine x_iconst (pc := 73) (v := 2) G dX11_send_73 ic_2 ?_
      refine y_c1 (pc := 74) G (c_holdsN hl hM (by decide)) q_ml_X11_210 h_X11_holds rfl ⟨Nat.le_of_ble_eq_true rfl, Nat.le_of_ble_eq_true rfl⟩ (Nat.le_of_ble_eq_true rfl) (Nat.le_refl _) (Nat.le_refl _) dX11_send_74 ?_
      refine x_if_ne (pc := 77) (y := 0) (tgt := 82) G dX11_send_77 rfl (fun q => absurd q (by decide)) (fun _ => ?_)
      refine x_iconst (pc := 80) (v := 0) G dX11_send_80 ic_0 ?_
      exact x_iret (pc := 81) G B rfl dX11_send_81 ⟨by rw [f_send, if_pos c1, if_neg c2], by rw [f_send, if_pos c1, if_neg c2]⟩
    refine x_aload0 (pc := 19) G dX11_send_19 ?_
    refine y_gA (pc := 20) G g_48 mG_18 dX11_send_20 ?_
    refine x_iload1 (pc := 23) G dX11_send_23 ?_
    refine y_iald (pc := 24) (v := (gI M 18 p1)) G hM a_18 (by exact (hr _ c1).1) rfl dX11_send_24 ?_
    refine x_if_le (pc := 25) (y := 0) (tgt := 54) G dX11_send_25 rfl (fun c3 => ?_) (fun c3 => ?_)
    · refine x_iconst (pc := 54) (v := 0) G dX11_send_54 ic_0 ?_
      refine x_istore3 (pc := 55) G dX11_send_55 (Nat.le_of_ble_eq_true rfl) rfl ?_
      refine x_aload0 (pc := 56) G dX11_send_56 ?_
      refine x_iload2 (pc := 57) G dX11_send_57 ?_
      refine x_if_ne (pc := 58) (y := 0) (tgt := 65) G dX11_send_58 rfl (fun _ => ?_) (fun q => absurd q (by decide))
      refine x_iload3 (pc := 65) G dX11_send_65 ?_
      refine x_if_eq (pc := 66) (y := 0) (tgt := 73) G dX11_send_66 rfl (fun _ => ?_) (fun q => absurd q (by decide))
      refine x_iconst (pc := 73) (v := 2) G dX11_send_73 ic_2 ?_
      refine y_c1 (pc := 74) G (c_holdsN hl hM (by decide)) q_ml_X11_210 h_X11_holds rfl ⟨Nat.le_of_ble_eq_true rfl, Nat.le_of_ble_eq_true rfl⟩ (Nat.le_of_ble_eq_true rfl) (Nat.le_refl _) (Nat.le_refl _) dX11_send_74 ?_
      refine x_if_ne (pc := 77) (y := 0) (tgt := 82) G dX11_send_77 rfl (fun q => absurd q (by decide)) (fun _ => ?_)
      refine x_iconst (pc := 80) (v := 0) G dX11_send_80 ic_0 ?_
      exact x_iret (pc := 81) G B rfl dX11_send_81 ⟨by rw [f_send, if_pos c1, if_pos c2, if_pos c3], by rw [f_send, if_pos c1, if_pos c2, if_pos c3]⟩
    refine x_aload0 (pc := 28) G dX11_send_28 ?_
    refine x_aload0 (pc := 29) G dX11_send_29 ?_
    refine y_gA (pc := 30) G g_42 mG_16 dX11_send_30 ?_
    refine x_iload1 (pc := 33) G dX11_send_33 ?_
    refine y_iald (pc := 34) (v := (gI M 16 p1)) G hM a_16 (by exact (hr _ c1).1) rfl dX11_send_34 ?_
    refine x_aload0 (pc := 35) G dX11_send_35 ?_
    refine y_c0 (pc := 36) G (c_yearNow hl hM ) q_ml_X11_226 h_X11_yearNow rfl ⟨Nat.le_of_ble_eq_true rfl, Nat.le_of_ble_eq_true rfl⟩ (Nat.le_of_ble_eq_true rfl) (Nat.le_refl _) (Nat.le_refl _) dX11_send_36 ?_
    refine x_aload0 (pc := 39) G dX11_send_39 ?_
    refine x_iload1 (pc := 40) G dX11_send_40 ?_
    refine y_c1 (pc := 41) G (c_total hl hM (hr _ c1).1 (by first | exact (hr _ c1).2.2.2.1 | (rw [gI_rIn rfl, gI_sI]; exact (hr _ c1).2.2.2.1) | (rw [gI_commits, gI_rIn rfl, gI_sI]; exact (hr _ c1).2.2.2.1))) q_ml_X11_246 h_X11_total rfl ⟨Nat.le_of_ble_eq_true rfl, Nat.le_of_ble_eq_true rfl⟩ (Nat.le_of_ble_eq_true rfl) (Nat.le_refl _) (Nat.le_refl _) dX11_send_41 ?_
    refine y_cb3 (pc := 44) G (b_may hl hM (hr _ c1).2.2.1 hy) q_ml_X11_250 h_X11_may rfl ⟨Nat.le_of_ble_eq_true rfl, Nat.le_of_ble_eq_true rfl⟩ (Nat.le_of_ble_eq_true rfl) (Nat.le_refl _) (Nat.le_refl _) dX11_send_44 (fun c4 => ?_) (fun c4 => ?_)
    · refine x_if_eq (pc := 47) (y := 0) (tgt := 54) G dX11_send_47 rfl (fun q => absurd q (by decide)) (fun _ => ?_)
      refine x_iconst (pc := 50) (v := 1) G dX11_send_50 ic_1 ?_
      refine x_goto (pc := 51) (tgt := 55) G dX11_send_51 rfl ?_
      refine x_istore3 (pc := 55) G dX11_send_55 (Nat.le_of_ble_eq_true rfl) rfl ?_
      refine x_aload0 (pc := 56) G dX11_send_56 ?_
      refine x_iload2 (pc := 57) G dX11_send_57 ?_
      refine x_if_ne (pc := 58) (y := 0) (tgt := 65) G dX11_send_58 rfl (fun _ => ?_) (fun q => absurd q (by decide))
      refine x_iload3 (pc := 65) G dX11_send_65 ?_
      refine x_if_eq (pc := 66) (y := 0) (tgt := 73) G dX11_send_66 rfl (fun q => absurd q (by decide)) (fun _ => ?_)
      refine x_iconst (pc := 69) (v := 0) G dX11_send_69 ic_0 ?_
      refine x_goto (pc := 70) (tgt := 74) G dX11_send_70 rfl ?_
      refine y_c1 (pc := 74) G (c_holds0 hl hM) q_ml_X11_210 h_X11_holds rfl ⟨Nat.le_of_ble_eq_true rfl, Nat.le_of_ble_eq_true rfl⟩ (Nat.le_of_ble_eq_true rfl) (Nat.le_refl _) (Nat.le_refl _) dX11_send_74 ?_
      refine x_if_ne (pc := 77) (y := 0) (tgt := 82) G dX11_send_77 rfl (fun _ => ?_) (fun q => absurd q (by decide))
      refine x_aload0 (pc := 82) G dX11_send_82 ?_
      refine y_gA (pc := 83) G g_54 mG_20 dX11_send_83 ?_
      refine x_iload1 (pc := 86) G dX11_send_86 ?_
      refine x_aload0 (pc := 87) G dX11_send_87 ?_
      refine y_c0 (pc := 88) G (c_yearNow hl hM ) q_ml_X11_226 h_X11_yearNow rfl ⟨Nat.le_of_ble_eq_true rfl, Nat.le_of_ble_eq_true rfl⟩ (Nat.le_of_ble_eq_true rfl) (Nat.le_refl _) (Nat.le_refl _) dX11_send_88 ?_
      refine y_iast (pc := 91) G hM a_20 (by exact (hr _ c1).1) dX11_send_91 ?_
      refine x_aload0 (pc := 92) G dX11_send_92 ?_
      refine x_iload1 (pc := 93) G dX11_send_93 ?_
      refine x_aload0 (pc := 94) G dX11_send_94 ?_
      refine x_iload1 (pc := 95) G dX11_send_95 ?_
      refine y_c1 (pc := 96) G (c_total hl hM (hr _ c1).1 (by first | exact (hr _ c1).2.2.2.1 | (rw [gI_rIn rfl, gI_sI]; exact (hr _ c1).2.2.2.1) | (rw [gI_commits, gI_rIn rfl, gI_sI]; exact (hr _ c1).2.2.2.1))) q_ml_X11_246 h_X11_total rfl ⟨Nat.le_of_ble_eq_true rfl, Nat.le_of_ble_eq_true rfl⟩ (Nat.le_of_ble_eq_true rfl) (Nat.le_refl _) (Nat.le_refl _) dX11_send_96 ?_
      refine y_cv2 (pc := 99) G (c_commits hl hM (hr _ c1).1 (by rw [gI_rIn rfl, gI_rIs, gI_sI]; exact vin_at (hr _ c1).2.2.1 hy (by decide))) q_ml_X11_240 h_X11_commits rfl ⟨Nat.le_of_ble_eq_true rfl, Nat.le_of_ble_eq_true rfl⟩ (Nat.le_of_ble_eq_true rfl) (Nat.le_refl _) (Nat.le_refl _) dX11_send_99 ?_
      refine x_aload0 (pc := 102) G dX11_send_102 ?_
      refine x_iload1 (pc := 103) G dX11_send_103 ?_
      refine x_aload0 (pc := 104) G dX11_send_104 ?_
      refine x_iload1 (pc := 105) G dX11_send_105 ?_
      refine y_c1 (pc := 106) G (c_total hl hM (hr _ c1).1 (by first | exact (hr _ c1).2.2.2.1 | (rw [gI_rIn rfl, gI_sI]; exact (hr _ c1).2.2.2.1) | (rw [gI_commits, gI_rIn rfl, gI_sI]; exact (hr _ c1).2.2.2.1))) q_ml_X11_246 h_X11_total rfl ⟨Nat.le_of_ble_eq_true rfl, Nat.le_of_ble_eq_true rfl⟩ (Nat.le_of_ble_eq_true rfl) (Nat.le_refl _) (Nat.le_refl _) dX11_send_106 ?_
      refine y_cv2 (pc := 109) G (c_laysChain hl hM (hr _ c1).1 (by rw [gI_commits, gI_rIn rfl, gI_sI]; exact (hr _ c1).2.1) (fun j hj => by rw [gI_commits, gI_rIn rfl, gI_sI]; exact hbs c1 j hj)) q_ml_X11_254 h_X11_laysChain rfl ⟨Nat.le_of_ble_eq_true rfl, Nat.le_of_ble_eq_true rfl⟩ (Nat.le_of_ble_eq_true rfl) (Nat.le_refl _) (Nat.le_refl _) dX11_send_109 ?_
      refine x_aload0 (pc := 112) G dX11_send_112 ?_
      refine y_gA (pc := 113) G g_45 mG_17 dX11_send_113 ?_
      refine x_iload1 (pc := 116) G dX11_send_116 ?_
      refine x_aload0 (pc := 117) G dX11_send_117 ?_
      refine x_iload1 (pc := 118) G dX11_send_118 ?_
      refine y_c1 (pc := 119) G (c_left hl hM (hr _ c1).1) q_ml_X11_257 h_X11_left rfl ⟨Nat.le_of_ble_eq_true rfl, Nat.le_of_ble_eq_true rfl⟩ (Nat.le_of_ble_eq_true rfl) (Nat.le_refl _) (Nat.le_refl _) dX11_send_119 ?_
      refine x_if_ne (pc := 122) (y := 0) (tgt := 129) G dX11_send_122 rfl (fun c5 => ?_) (fun c5 => ?_)
      · refine x_iconst (pc := 129) (v := 1) G dX11_send_129 ic_1 ?_
        refine y_iast (pc := 130) G hM a_17 (by exact (hr _ c1).1) dX11_send_130 ?_
        refine x_aload0 (pc := 131) G dX11_send_131 ?_
        refine x_iload1 (pc := 132) G dX11_send_132 ?_
        refine y_c1 (pc := 133) G (c_left hl hM (hr _ c1).1) q_ml_X11_257 h_X11_left rfl ⟨Nat.le_of_ble_eq_true rfl, Nat.le_of_ble_eq_true rfl⟩ (Nat.le_of_ble_eq_true rfl) (Nat.le_refl _) (Nat.le_refl _) dX11_send_133 ?_
        exact x_iret (pc := 136) G B rfl dX11_send_136 ⟨by rw [f_send, if_pos c1, if_pos c2, if_neg c3, if_pos c4, if_neg c5], by rw [f_send, if_pos c1, if_pos c2, if_neg c3, if_pos c4, if_neg c5]⟩
      refine x_iconst (pc := 125) (v := 2) G dX11_send_125 ic_2 ?_
      refine x_goto (pc := 126) (tgt := 130) G dX11_send_126 rfl ?_
      refine y_iast (pc := 130) G hM a_17 (by exact (hr _ c1).1) dX11_send_130 ?_
      refine x_aload0 (pc := 131) G dX11_send_131 ?_
      refine x_iload1 (pc := 132) G dX11_send_132 ?_
      refine y_c1 (pc := 133) G (c_left hl hM (hr _ c1).1) q_ml_X11_257 h_X11_left rfl ⟨Nat.le_of_ble_eq_true rfl, Nat.le_of_ble_eq_true rfl⟩ (Nat.le_of_ble_eq_true rfl) (Nat.le_refl _) (Nat.le_refl _) dX11_send_133 ?_
      exact x_iret (pc := 136) G B rfl dX11_send_136 ⟨by rw [f_send, if_pos c1, if_pos c2, if_neg c3, if_pos c4, if_pos c5], by rw [f_send, if_pos c1, if_pos c2, if_neg c3, if_pos c4, if_pos c5]⟩
    refine x_if_eq (pc := 47) (y := 0) (tgt := 54) G dX11_send_47 rfl (fun _ => ?_) (fun q => absurd q (by decide))
    refine x_iconst (pc := 54) (v := 0) G dX11_send_54 ic_0 ?_
    refine x_istore3 (pc := 55) G dX11_send_55 (Nat.le_of_ble_eq_true rfl) rfl ?_
    refine x_aload0 (pc := 56) G dX11_send_56 ?_
    refine x_iload2 (pc := 57) G dX11_send_57 ?_
    refine x_if_ne (pc := 58) (y := 0) (tgt := 65) G dX11_send_58 rfl (fun _ => ?_) (fun q => absurd q (by decide))
    refine x_iload3 (pc := 65) G dX11_send_65 ?_
    refine x_if_eq (pc := 66) (y := 0) (tgt := 73) G dX11_send_66 rfl (fun _ => ?_) (fun q => absurd q (by decide))
    refine x_iconst (pc := 73) (v := 2) G dX11_send_73 ic_2 ?_
    refine y_c1 (pc := 74) G (c_holdsN hl hM (by decide)) q_ml_X11_210 h_X11_holds rfl ⟨Nat.le_of_ble_eq_true rfl, Nat.le_of_ble_eq_true rfl⟩ (Nat.le_of_ble_eq_true rfl) (Nat.le_refl _) (Nat.le_refl _) dX11_send_74 ?_
    refine x_if_ne (pc := 77) (y := 0) (tgt := 82) G dX11_send_77 rfl (fun q => absurd q (by decide)) (fun _ => ?_)
    refine x_iconst (pc := 80) (v := 0) G dX11_send_80 ic_0 ?_
    exact x_iret (pc := 81) G B rfl dX11_send_81 ⟨by rw [f_send, if_pos c1, if_pos c2, if_neg c3, if_neg c4], by rw [f_send, if_pos c1, if_pos c2, if_neg c3, if_neg c4]⟩
  refine x_istore2 (pc := 5) G dX11_send_5 (Nat.le_of_ble_eq_true rfl) rfl ?_
  refine x_iload2 (pc := 6) G dX11_send_6 ?_
  refine x_if_eq (pc := 7) (y := 0) (tgt := 54) G dX11_send_7 rfl (fun _ => ?_) (fun q => absurd q (by decide))
  refine x_iconst (pc := 54) (v := 0) G dX11_send_54 ic_0 ?_
  refine x_istore3 (pc := 55) G dX11_send_55 (Nat.le_of_ble_eq_true rfl) rfl ?_
  refine x_aload0 (pc := 56) G dX11_send_56 ?_
  refine x_iload2 (pc := 57) G dX11_send_57 ?_
  refine x_if_ne (pc := 58) (y := 0) (tgt := 65) G dX11_send_58 rfl (fun q => absurd q (by decide)) (fun _ => ?_)
  refine x_iconst (pc := 61) (v := 1) G dX11_send_61 ic_1 ?_
  refine x_goto (pc := 62) (tgt := 74) G dX11_send_62 rfl ?_
  refine y_c1 (pc := 74) G (c_holdsN hl hM (by decide)) q_ml_X11_210 h_X11_holds rfl ⟨Nat.le_of_ble_eq_true rfl, Nat.le_of_ble_eq_true rfl⟩ (Nat.le_of_ble_eq_true rfl) (Nat.le_refl _) (Nat.le_refl _) dX11_send_74 ?_
  refine x_if_ne (pc := 77) (y := 0) (tgt := 82) G dX11_send_77 rfl (fun q => absurd q (by decide)) (fun _ => ?_)
  refine x_iconst (pc := 80) (v := 0) G dX11_send_80 ic_0 ?_
  exact x_iret (pc := 81) G B rfl dX11_send_81 ⟨by rw [f_send, if_neg c1], by rw [f_send, if_neg c1]⟩
