theorem dl_1007 : decode cL_law 1007 = .ok (.aload_n 1, 1) := by decide +kernel
theorem dl_1008 : decode cL_law 1008 = .ok (.aload_n 0, 1) := by decide +kernel
theorem dl_1009 : decode cL_law 1009 = .ok (.iload 4, 2) := by decide +kernel
theorem dl_1011 : decode cL_law 1011 = .ok (.iconst 1, 1) := by decide +kernel
theorem dl_1012 : decode cL_law 1012 = .ok (.iadd, 1) := by decide +kernel
theorem dl_1013 : decode cL_law 1013 = .ok (.iaload, 1) := by decide +kernel
theorem dl_1014 : decode cL_law 1014 = .ok (.aload_n 0, 1) := by decide +kernel
theorem dl_1015 : decode cL_law 1015 = .ok (.iload 4, 2) := by decide +kernel
theorem dl_1017 : decode cL_law 1017 = .ok (.iconst 2, 1) := by decide +kernel
theorem dl_1018 : decode cL_law 1018 = .ok (.iadd, 1) := by decide +kernel
theorem dl_1019 : decode cL_law 1019 = .ok (.iaload, 1) := by decide +kernel
theorem dl_1020 : decode cL_law 1020 = .ok (.aload_n 3, 1) := by decide +kernel
theorem dl_1021 : decode cL_law 1021 = .ok (.invokestatic 213, 3) := by decide +kernel
theorem dl_1024 : decode cL_law 1024 = .ok (.istore 5, 2) := by decide +kernel
theorem dl_1026 : decode cL_law 1026 = .ok (.aload_n 2, 1) := by decide +kernel
theorem dl_1027 : decode cL_law 1027 = .ok (.aload_n 0, 1) := by decide +kernel
theorem dl_1028 : decode cL_law 1028 = .ok (.iload 4, 2) := by decide +kernel
theorem dl_1030 : decode cL_law 1030 = .ok (.iconst 1, 1) := by decide +kernel
theorem dl_1031 : decode cL_law 1031 = .ok (.iadd, 1) := by decide +kernel
theorem dl_1032 : decode cL_law 1032 = .ok (.iaload, 1) := by decide +kernel
theorem dl_1033 : decode cL_law 1033 = .ok (.aload_n 0, 1) := by decide +kernel
theorem dl_1034 : decode cL_law 1034 = .ok (.iload 4, 2) := by decide +kernel
theorem dl_1036 : decode cL_law 1036 = .ok (.iconst 2, 1) := by decide +kernel
theorem dl_1037 : decode cL_law 1037 = .ok (.iadd, 1) := by decide +kernel
theorem dl_1038 : decode cL_law 1038 = .ok (.iaload, 1) := by decide +kernel
theorem dl_1039 : decode cL_law 1039 = .ok (.invokevirtual 215, 3) := by decide +kernel
theorem dl_1042 : decode cL_law 1042 = .ok (.istore 6, 2) := by decide +kernel
theorem dl_1044 : decode cL_law 1044 = .ok (.aload_n 2, 1) := by decide +kernel
theorem dl_1045 : decode cL_law 1045 = .ok (.invokevirtual 172, 3) := by decide +kernel
theorem dl_1048 : decode cL_law 1048 = .ok (.iload 5, 2) := by decide +kernel
theorem dl_1050 : decode cL_law 1050 = .ok (.if_icmp .eq 5, 3) := by decide +kernel
theorem dl_1053 : decode cL_law 1053 = .ok (.iconst 0, 1) := by decide +kernel
theorem dl_1054 : decode cL_law 1054 = .ok (.ireturn, 1) := by decide +kernel
theorem dl_1055 : decode cL_law 1055 = .ok (.iload 5, 2) := by decide +kernel
theorem dl_1057 : decode cL_law 1057 = .ok (.ifCond .ne 15, 3) := by decide +kernel
theorem dl_1060 : decode cL_law 1060 = .ok (.aload_n 3, 1) := by decide +kernel
theorem dl_1061 : decode cL_law 1061 = .ok (.iconst 0, 1) := by decide +kernel
theorem dl_1062 : decode cL_law 1062 = .ok (.laload, 1) := by decide +kernel
theorem dl_1063 : decode cL_law 1063 = .ok (.iload 6, 2) := by decide +kernel
theorem dl_1065 : decode cL_law 1065 = .ok (.i2l, 1) := by decide +kernel
theorem dl_1066 : decode cL_law 1066 = .ok (.lcmp, 1) := by decide +kernel
theorem dl_1067 : decode cL_law 1067 = .ok (.ifCond .eq 5, 3) := by decide +kernel
theorem dl_1070 : decode cL_law 1070 = .ok (.iconst 0, 1) := by decide +kernel
theorem dl_1071 : decode cL_law 1071 = .ok (.ireturn, 1) := by decide +kernel
theorem dl_1072 : decode cL_law 1072 = .ok (.goto 2176, 3) := by decide +kernel
set_option maxRecDepth 100000 in
set_option maxHeartbeats 4000000 in
theorem lk_request {p : Program} {l : Launch} {e : Env} {s : State} {m : MethodId} {args : Array Value} {below : List Frame} {meth : Method} {c : Code} {k : KC} {A : Nat → Prop} {Q : State → Prop} {bc1 bs1 b0 Ln b ao mo i : Nat} {xs : Nat → Int32} {ad : Nat → Nat} {f : Nat → Int64} {X : CX} {S : CT} {M : MS} {rt9 : Option FieldType} (hl : l.stackTraces = false) (G : GX p l room_1 s m args meth c k A RL cL_law 8 rt9) (hX : va_X b0 Ln xs s s.heap) (hbl : b0 < s.heap.size) (hbA : ¬ A b0) (hH : HM mo ad) (hi : i + 8 ≤ Ln) (hL : Ln ≤ 4096) (h : LV9 k b X S ao f mo ad M) (hend : ∀ X2 S2 M2 f2, LV9 k b X2 S2 ao f2 mo ad M2 → Wx p l e room_1 s m args below meth c k A 8 Q bc1 bs1 3248 [some (.ref b0), some (.ref b), some (.ref mo), some (.ref ao), some (.int (nI i)), none, none, none] [] (WL k X2 S2 ao f2 mo ad M2)) : Wx p l e room_1 s m args below meth c k A 8 Q (bc1 + 3) (bs1 + 86) 1007 [some (.ref b0), some (.ref b), some (.ref mo), some (.ref ao), some (.int (nI i)), none, none, none] [] (WL k X S ao f mo ad M) := by
  obtain ⟨hI, hb, hd1, hd2⟩ := h
  obtain ⟨hbm, fs, hbf⟩ := cw11 (k := k) (S := S) hI.1 hb
  have hvr := vr11 hb
  have hx1 : vp_in (nI i + 1) Ln := ix_in (j := 1) rfl (by omega) hL
  have hx2 : vp_in (nI i + 2) Ln := ix_in (j := 2) rfl (by omega) hL
  unfold WL
  refine x_aload1 (pc := 1007) G dl_1007 ?_
  refine x_aload0 (pc := 1008) G dl_1008 ?_
  refine x_iload4 (pc := 1009) G dl_1009 ?_
  refine x_iconst (pc := 1011) (v := 1) G dl_1011 (by decide) ?_
  refine x_iadd (pc := 1012) G dl_1012 ?_
  refine x_sld (pc := 1013) G hX hbl hbA hx1 dl_1013 ?_
  refine x_aload0 (pc := 1014) G dl_1014 ?_
  refine x_iload4 (pc := 1015) G dl_1015 ?_
  refine x_iconst (pc := 1017) (v := 2) G dl_1017 (by decide) ?_
  refine x_iadd (pc := 1018) G dl_1018 ?_
  refine x_sld (pc := 1019) G hX hbl hbA hx2 dl_1019 ?_
  refine x_aload3 (pc := 1020) G dl_1020 ?_
  have hC := kc_request (k := k) hl hI (p1 := (xs (nI i + 1).toNatClampNeg)) (p2 := (xs (nI i + 2).toNatClampNeg))
  rw [hvr] at hC
  have hst := fun {o : Out} {w : Wd} => so_request (k := k) (o := o) (w := w) (p1 := (xs (nI i + 1).toNatClampNeg)) (p2 := (xs (nI i + 2).toNatClampNeg)) hI
  have hh := ch_request hl hbm hbf hd1 hC (fun o w hp => by
    obtain ⟨_, _, _, _, _, ⟨ho, _⟩ | ⟨E, he, _, hc⟩⟩ := hst hp
    · exact Or.inl ⟨_, ho⟩
    · exact Or.inr ⟨E, he, hc⟩)
  have hh := MI.frame hh hd2
  refine x_callSW (pc := 1021) (bc1 := bc1) (bs1 := bs1) (n := 4) (As := [.ref b, .int (xs (nI i + 1).toNatClampNeg), .int (xs (nI i + 2).toNatClampNeg), .ref ao]) G hh q_ml_L_213 q_st_yL_request q_in_L q_cw_request ⟨by decide, by decide, by decide +kernel⟩ ⟨Nat.le_of_ble_eq_true rfl, Nat.le_of_ble_eq_true rfl⟩ (Nat.zero_le _) (Nat.le_refl _) (Nat.le_refl _) rfl rfl dl_1021 (fun v w9 hp => ?_)
  obtain ⟨X2, S2, f2, kc, rfl, hL2, hv, hk, hz⟩ : ∃ X2 S2 f2 kc, w9 = wu (wu (cW k X2 S2) (oW k ao f2)) (mW k mo ad M) ∧ LV9 k b X2 S2 ao f2 mo ad (f_request (xs (nI i + 1).toNatClampNeg) (xs (nI i + 2).toNatClampNeg) M).2 ∧ v = some (.int kc) ∧ mI (f_request (xs (nI i + 1).toNatClampNeg) (xs (nI i + 2).toNatClampNeg) M).2 0 = kc ∧ (kc = 0 → f2 0 = (f_request (xs (nI i + 1).toNatClampNeg) (xs (nI i + 2).toNatClampNeg) M).1.toInt64) := by
    obtain ⟨h9, ⟨w1, f1, rfl, hd1', hpp⟩, hd2', rfl⟩ := hp
    rcases hpp with ⟨r, hp1, hv, hf⟩ | ⟨E, hp1, hv⟩
    · obtain ⟨X2, S2, rfl, hI2, hb2, ⟨ho, h0⟩ | ⟨E, he, _, _⟩⟩ := hst hp1
      · have e9 := Sum.inl.inj ho
        cases e9
        exact ⟨X2, S2, _, 0, rfl, ⟨hI2, hb2.trans hb, hd1', hd2'⟩, Sum.inl.inj hv, h0, fun _ => hf⟩
      · cases he
    · obtain ⟨X2, S2, rfl, hI2, hb2, ⟨ho, h0⟩ | ⟨E2, he, h0, hc⟩⟩ := hst hp1
      · cases ho
      · cases he
        refine ⟨X2, S2, _, _, rfl, ⟨hI2, hb2.trans hb, hd1', hd2'⟩, Sum.inl.inj hv, h0, fun z => ?_⟩
        rcases hc with rfl | rfl <;> exact absurd z (by decide)
  subst hv
  obtain ⟨hI2, hb2, hd1', hd2'⟩ := id hL2
  refine x_istore5 (pc := 1024) G dl_1024 (by decide) rfl ?_
  refine x_aload2 (pc := 1026) G dl_1026 ?_
  refine x_aload0 (pc := 1027) G dl_1027 ?_
  refine x_iload4 (pc := 1028) G dl_1028 ?_
  refine x_iconst (pc := 1030) (v := 1) G dl_1030 (by decide) ?_
  refine x_iadd (pc := 1031) G dl_1031 ?_
  refine x_sld (pc := 1032) G hX hbl hbA hx1 dl_1032 ?_
  refine x_aload0 (pc := 1033) G dl_1033 ?_
  refine x_iload4 (pc := 1034) G dl_1034 ?_
  refine x_iconst (pc := 1036) (v := 2) G dl_1036 (by decide) ?_
  refine x_iadd (pc := 1037) G dl_1037 ?_
  refine x_sld (pc := 1038) G hX hbl hbA hx2 dl_1038 ?_
  have hr := rc_request (k := k) hl hH hI.2.2.2 (p1 := (xs (nI i + 1).toNatClampNeg)) (p2 := (xs (nI i + 2).toNatClampNeg))
  refine Wx_perm hd2' ?_
  refine x_callV (pc := 1039) (bc1 := bc1) (bs1 := bs1) (n := 2) (As := [.int (xs (nI i + 1).toNatClampNeg), .int (xs (nI i + 2).toNatClampNeg)]) G (hr.frame (fun a ha z => hd2' a z ha)) (List.mem_append_left _ mW_mo.1) ((if_pos mW_mo.1).trans mW_mo.2) (show vwCl[12]? = some (_, _, _) from rfl) q_ml_L_215 q_im_yX11_request q_se_yX11_request q_in_X11 q_co_yX11_request ⟨by decide, by decide, by decide +kernel⟩ ⟨Nat.le_of_ble_eq_true rfl, Nat.le_of_ble_eq_true rfl⟩ (Nat.zero_le _) (Nat.le_refl _) (Nat.le_refl _) rfl rfl dl_1039 (fun v w9 hp => ?_) (fun E w9 hp => by obtain ⟨_, hq, _⟩ := hp; cases hq.1)
  obtain ⟨h9, ⟨hv, rfl⟩, _, rfl⟩ := hp
  have hv := Sum.inl.inj hv
  subst hv
  refine Wx_perm (fun a ha z => hd2' a z ha) ?_
  refine x_istore6 (pc := 1042) G dl_1042 (by decide) rfl ?_
  refine x_aload2 (pc := 1044) G dl_1044 ?_
  refine Wx_perm hd2' ?_
  refine x_callV (pc := 1045) (bc1 := bc1) (bs1 := bs1) (n := 0) (As := []) G ((c_thrown (k := k) (M := (f_request (xs (nI i + 1).toNatClampNeg) (xs (nI i + 2).toNatClampNeg) M).2) hl hH).frame (fun a ha z => hd2' a z ha)) (List.mem_append_left _ mW_mo.1) ((if_pos mW_mo.1).trans mW_mo.2) (show vwCl[12]? = some (_, _, _) from rfl) q_ml_L_172 q_im_yX11_thrown q_se_yX11_thrown q_in_X11 q_co_yX11_thrown ⟨by decide, by decide, by decide +kernel⟩ ⟨Nat.le_of_ble_eq_true rfl, Nat.le_of_ble_eq_true rfl⟩ (Nat.zero_le _) (Nat.le_refl _) (Nat.le_refl _) rfl rfl dl_1045 (fun v w9 hp => ?_) (fun E w9 hp => by obtain ⟨_, hq, _⟩ := hp; cases hq.1)
  obtain ⟨h9, ⟨hv, rfl⟩, _, rfl⟩ := hp
  have hv := Sum.inl.inj hv
  subst hv
  refine Wx_perm (fun a ha z => hd2' a z ha) ?_
  refine x_iload5 (pc := 1048) G dl_1048 ?_
  refine x_icmp_eq (pc := 1050) (tgt := 1055) G dl_1050 rfl (fun _ => ?_) (fun z9 => absurd hk z9)
  refine x_iload5 (pc := 1055) G dl_1055 ?_
  refine x_if_ne (pc := 1057) (tgt := 1072) (y := 0) G dl_1057 rfl (fun _ => ?_) (fun z9 => ?_)
  · skip
    refine x_goto (pc := 1072) (tgt := 3248) G dl_1072 rfl ?_
    exact Wx_l8 (hend X2 S2 _ f2 hL2)
  · have hf := hz z9
    refine x_aload3 (pc := 1060) G dl_1060 ?_
    refine x_iconst (pc := 1061) (v := 0) G dl_1061 (by decide) ?_
    refine x_old (pc := 1062) G hd1' dl_1062 ?_
    refine x_iload6 (pc := 1063) G dl_1063 ?_
    refine x_i2l (pc := 1065) G dl_1065 ?_
    refine x_lcmp (pc := 1066) G dl_1066 ?_
    refine x_if_eq (pc := 1067) (tgt := 1072) (y := 0) G dl_1067 rfl (fun _ => ?_) (fun z8 => absurd (lg_same hf) z8)
    refine x_goto (pc := 1072) (tgt := 3248) G dl_1072 rfl ?_
    exact Wx_l8 (hend X2 S2 _ f2 hL2)
theorem dl_1075 : decode cL_law 1075 = .ok (.aload_n 1, 1) := by decide +kernel
theorem dl_1076 : decode cL_law 1076 = .ok (.aload_n 0, 1) := by decide +kernel
theorem dl_1077 : decode cL_law 1077 = .ok (.iload 4, 2) := by decide +kernel
theorem dl_1079 : decode cL_law 1079 = .ok (.iconst 1, 1) := by decide +kernel
theorem dl_1080 : decode cL_law 1080 = .ok (.iadd, 1) := by decide +kernel
theorem dl_1081 : decode cL_law 1081 = .ok (.iaload, 1) := by decide +kernel
theorem dl_1082 : decode cL_law 1082 = .ok (.aload_n 0, 1) := by decide +kernel
theorem dl_1083 : decode cL_law 1083 = .ok (.iload 4, 2) := by decide +kernel
theorem dl_1085 : decode cL_law 1085 = .ok (.iconst 2, 1) := by decide +kernel
theorem dl_1086 : decode cL_law 1086 = .ok (.iadd, 1) := by decide +kernel
theorem dl_1087 : decode cL_law 1087 = .ok (.iaload, 1) := by decide +kernel
theorem dl_1088 : decode cL_law 1088 = .ok (.ifCond .eq 7, 3) := by decide +kernel
theorem dl_1091 : decode cL_law 1091 = .ok (.iconst 1, 1) := by decide +kernel
theorem dl_1092 : decode cL_law 1092 = .ok (.goto 4, 3) := by decide +kernel
theorem dl_1095 : decode cL_law 1095 = .ok (.iconst 0, 1) := by decide +kernel
theorem dl_1096 : decode cL_law 1096 = .ok (.aload_n 0, 1) := by decide +kernel
theorem dl_1097 : decode cL_law 1097 = .ok (.iload 4, 2) := by decide +kernel
theorem dl_1099 : decode cL_law 1099 = .ok (.iconst 3, 1) := by decide +kernel
theorem dl_1100 : decode cL_law 1100 = .ok (.iadd, 1) := by decide +kernel
theorem dl_1101 : decode cL_law 1101 = .ok (.iaload, 1) := by decide +kernel
theorem dl_1102 : decode cL_law 1102 = .ok (.aload_n 0, 1) := by decide +kernel
theorem dl_1103 : decode cL_law 1103 = .ok (.iload 4, 2) := by decide +kernel
theorem dl_1105 : decode cL_law 1105 = .ok (.iconst 4, 1) := by decide +kernel
theorem dl_1106 : decode cL_law 1106 = .ok (.iadd, 1) := by decide +kernel
theorem dl_1107 : decode cL_law 1107 = .ok (.iaload, 1) := by decide +kernel
theorem dl_1108 : decode cL_law 1108 = .ok (.aload_n 3, 1) := by decide +kernel
theorem dl_1109 : decode cL_law 1109 = .ok (.invokestatic 216, 3) := by decide +kernel
theorem dl_1112 : decode cL_law 1112 = .ok (.istore 5, 2) := by decide +kernel
theorem dl_1114 : decode cL_law 1114 = .ok (.aload_n 2, 1) := by decide +kernel
theorem dl_1115 : decode cL_law 1115 = .ok (.aload_n 0, 1) := by decide +kernel
theorem dl_1116 : decode cL_law 1116 = .ok (.iload 4, 2) := by decide +kernel
theorem dl_1118 : decode cL_law 1118 = .ok (.iconst 1, 1) := by decide +kernel
theorem dl_1119 : decode cL_law 1119 = .ok (.iadd, 1) := by decide +kernel
theorem dl_1120 : decode cL_law 1120 = .ok (.iaload, 1) := by decide +kernel
theorem dl_1121 : decode cL_law 1121 = .ok (.aload_n 0, 1) := by decide +kernel
theorem dl_1122 : decode cL_law 1122 = .ok (.iload 4, 2) := by decide +kernel
theorem dl_1124 : decode cL_law 1124 = .ok (.iconst 2, 1) := by decide +kernel
theorem dl_1125 : decode cL_law 1125 = .ok (.iadd, 1) := by decide +kernel
theorem dl_1126 : decode cL_law 1126 = .ok (.iaload, 1) := by decide +kernel
theorem dl_1127 : decode cL_law 1127 = .ok (.ifCond .eq 7, 3) := by decide +kernel
theorem dl_1130 : decode cL_law 1130 = .ok (.iconst 1, 1) := by decide +kernel
theorem dl_1131 : decode cL_law 1131 = .ok (.goto 4, 3) := by decide +kernel
theorem dl_1134 : decode cL_law 1134 = .ok (.iconst 0, 1) := by decide +kernel
theorem dl_1135 : decode cL_law 1135 = .ok (.aload_n 0, 1) := by decide +kernel
theorem dl_1136 : decode cL_law 1136 = .ok (.iload 4, 2) := by decide +kernel
theorem dl_1138 : decode cL_law 1138 = .ok (.iconst 3, 1) := by decide +kernel
theorem dl_1139 : decode cL_law 1139 = .ok (.iadd, 1) := by decide +kernel
theorem dl_1140 : decode cL_law 1140 = .ok (.iaload, 1) := by decide +kernel
theorem dl_1141 : decode cL_law 1141 = .ok (.aload_n 0, 1) := by decide +kernel
theorem dl_1142 : decode cL_law 1142 = .ok (.iload 4, 2) := by decide +kernel
theorem dl_1144 : decode cL_law 1144 = .ok (.iconst 4, 1) := by decide +kernel
theorem dl_1145 : decode cL_law 1145 = .ok (.iadd, 1) := by decide +kernel
theorem dl_1146 : decode cL_law 1146 = .ok (.iaload, 1) := by decide +kernel
theorem dl_1147 : decode cL_law 1147 = .ok (.invokevirtual 219, 3) := by decide +kernel
theorem dl_1150 : decode cL_law 1150 = .ok (.istore 6, 2) := by decide +kernel
theorem dl_1152 : decode cL_law 1152 = .ok (.aload_n 2, 1) := by decide +kernel
theorem dl_1153 : decode cL_law 1153 = .ok (.invokevirtual 172, 3) := by decide +kernel
theorem dl_1156 : decode cL_law 1156 = .ok (.iload 5, 2) := by decide +kernel
theorem dl_1158 : decode cL_law 1158 = .ok (.if_icmp .eq 5, 3) := by decide +kernel
theorem dl_1161 : decode cL_law 1161 = .ok (.iconst 0, 1) := by decide +kernel
theorem dl_1162 : decode cL_law 1162 = .ok (.ireturn, 1) := by decide +kernel
theorem dl_1163 : decode cL_law 1163 = .ok (.iload 5, 2) := by decide +kernel
theorem dl_1165 : decode cL_law 1165 = .ok (.ifCond .ne 15, 3) := by decide +kernel
theorem dl_1168 : decode cL_law 1168 = .ok (.aload_n 3, 1) := by decide +kernel
theorem dl_1169 : decode cL_law 1169 = .ok (.iconst 0, 1) := by decide +kernel
theorem dl_1170 : decode cL_law 1170 = .ok (.laload, 1) := by decide +kernel
theorem dl_1171 : decode cL_law 1171 = .ok (.iload 6, 2) := by decide +kernel
theorem dl_1173 : decode cL_law 1173 = .ok (.i2l, 1) := by decide +kernel
theorem dl_1174 : decode cL_law 1174 = .ok (.lcmp, 1) := by decide +kernel
theorem dl_1175 : decode cL_law 1175 = .ok (.ifCond .eq 5, 3) := by decide +kernel
theorem dl_1178 : decode cL_law 1178 = .ok (.iconst 0, 1) := by decide +kernel
theorem dl_1179 : decode cL_law 1179 = .ok (.ireturn, 1) := by decide +kernel
theorem dl_1180 : decode cL_law 1180 = .ok (.goto 2068, 3) := by decide +kernel
set_option maxRecDepth 100000 in
set_option maxHeartbeats 4000000 in
theorem lk_line {p : Program} {l : Launch} {e : Env} {s : State} {m : MethodId} {args : Array Value} {below : List Frame} {meth : Method} {c : Code} {k : KC} {A : Nat → Prop} {Q : State → Prop} {bc1 bs1 b0 Ln b ao mo i : Nat} {xs : Nat → Int32} {ad : Nat → Nat} {f : Nat → Int64} {X : CX} {S : CT} {M : MS} {rt9 : Option FieldType} (hl : l.stackTraces = false) (G : GX p l room_1 s m args meth c k A RL cL_law 8 rt9) (hX : va_X b0 Ln xs s s.heap) (hbl : b0 < s.heap.size) (hbA : ¬ A b0) (hH : HM mo ad) (hi : i + 8 ≤ Ln) (hL : Ln ≤ 4096) (h : LV9 k b X S ao f mo ad M) (hend : ∀ X2 S2 M2 f2, LV9 k b X2 S2 ao f2 mo ad M2 → Wx p l e room_1 s m args below meth c k A 8 Q bc1 bs1 3248 [some (.ref b0), some (.ref b), some (.ref mo), some (.ref ao), some (.int (nI i)), none, none, none] [] (WL k X2 S2 ao f2 mo ad M2)) : Wx p l e room_1 s m args below meth c k A 8 Q (bc1 + 2) (bs1 + 79) 1075 [some (.ref b0), some (.ref b), some (.ref mo), some (.ref ao), some (.int (nI i)), none, none, none] [] (WL k X S ao f mo ad M) := by
  obtain ⟨hI, hb, hd1, hd2⟩ := h
  obtain ⟨hbm, fs, hbf⟩ := cw11 (k := k) (S := S) hI.1 hb
  have hvr := vr11 hb
  have hx1 : vp_in (nI i + 1) Ln := ix_in (j := 1) rfl (by omega) hL
  have hx2 : vp_in (nI i + 2) Ln := ix_in (j := 2) rfl (by omega) hL
  have hx3 : vp_in (nI i + 3) Ln := ix_in (j := 3) rfl (by omega) hL
  have hx4 : vp_in (nI i + 4) Ln := ix_in (j := 4) rfl (by omega) hL
  unfold WL
  by_cases hz0 : (xs (nI i + 2).toNatClampNeg) = 0
  · skip
    refine x_aload1 (pc := 1075) G dl_1075 ?_
    refine x_aload0 (pc := 1076) G dl_1076 ?_
    refine x_iload4 (pc := 1077) G dl_1077 ?_
    refine x_iconst (pc := 1079) (v := 1) G dl_1079 (by decide) ?_
    refine x_iadd (pc := 1080) G dl_1080 ?_
    refine x_sld (pc := 1081) G hX hbl hbA hx1 dl_1081 ?_
    refine x_aload0 (pc := 1082) G dl_1082 ?_
    refine x_iload4 (pc := 1083) G dl_1083 ?_
    refine x_iconst (pc := 1085) (v := 2) G dl_1085 (by decide) ?_
    refine x_iadd (pc := 1086) G dl_1086 ?_
    refine x_sld (pc := 1087) G hX hbl hbA hx2 dl_1087 ?_
    refine x_if_eq (pc := 1088) (tgt := 1095) (y := 0) G dl_1088 rfl (fun _ => ?_) (fun z9 => absurd hz0 z9)
    refine x_iconst (pc := 1095) (v := 0) G dl_1095 (by decide) ?_
    refine x_aload0 (pc := 1096) G dl_1096 ?_
    refine x_iload4 (pc := 1097) G dl_1097 ?_
    refine x_iconst (pc := 1099) (v := 3) G dl_1099 (by decide) ?_
    refine x_iadd (pc := 1100) G dl_1100 ?_
    refine x_sld (pc := 1101) G hX hbl hbA hx3 dl_1101 ?_
    refine x_aload0 (pc := 1102) G dl_1102 ?_
    refine x_iload4 (pc := 1103) G dl_1103 ?_
    refine x_iconst (pc := 1105) (v := 4) G dl_1105 (by decide) ?_
    refine x_iadd (pc := 1106) G dl_1106 ?_
    refine x_sld (pc := 1107) G hX hbl hbA hx4 dl_1107 ?_
    refine x_aload3 (pc := 1108) G dl_1108 ?_
    have hC := kc_line (k := k) hl hI (p1 := (xs (nI i + 1).toNatClampNeg)) (p2 := 0) (p3 := (xs (nI i + 3).toNatClampNeg)) (p4 := (xs (nI i + 4).toNatClampNeg)) ⟨by decide, by decide⟩
    rw [hvr] at hC
    have hst := fun {o : Out} {w : Wd} => so_line (k := k) (o := o) (w := w) (p1 := (xs (nI i + 1).toNatClampNeg)) (p2 := 0) (p3 := (xs (nI i + 3).toNatClampNeg)) (p4 := (xs (nI i + 4).toNatClampNeg)) hI
    have hh := ch_line hl hbm hbf hd1 hC (fun o w hp => by
      obtain ⟨_, _, _, _, _, ⟨ho, _⟩ | ⟨E, he, _, hc⟩⟩ := hst hp
      · exact Or.inl ⟨_, ho⟩
      · exact Or.inr ⟨E, he, hc⟩)
    have hh := MI.frame hh hd2
    refine x_callSW (pc := 1109) (bc1 := bc1) (bs1 := bs1) (n := 6) (As := [.ref b, .int (xs (nI i + 1).toNatClampNeg), .int 0, .int (xs (nI i + 3).toNatClampNeg), .int (xs (nI i + 4).toNatClampNeg), .ref ao]) G hh q_ml_L_216 q_st_yL_line q_in_L q_cw_line ⟨by decide, by decide, by decide +kernel⟩ ⟨Nat.le_of_ble_eq_true rfl, Nat.le_of_ble_eq_true rfl⟩ (Nat.zero_le _) (Nat.le_refl _) (Nat.le_refl _) rfl rfl dl_1109 (fun v w9 hp => ?_)
    obtain ⟨X2, S2, f2, kc, rfl, hL2, hv, hk, hz⟩ : ∃ X2 S2 f2 kc, w9 = wu (wu (cW k X2 S2) (oW k ao f2)) (mW k mo ad M) ∧ LV9 k b X2 S2 ao f2 mo ad (f_line (xs (nI i + 1).toNatClampNeg) 0 (xs (nI i + 3).toNatClampNeg) (xs (nI i + 4).toNatClampNeg) M).2 ∧ v = some (.int kc) ∧ mI (f_line (xs (nI i + 1).toNatClampNeg) 0 (xs (nI i + 3).toNatClampNeg) (xs (nI i + 4).toNatClampNeg) M).2 0 = kc ∧ (kc = 0 → f2 0 = (f_line (xs (nI i + 1).toNatClampNeg) 0 (xs (nI i + 3).toNatClampNeg) (xs (nI i + 4).toNatClampNeg) M).1.toInt64) := by
      obtain ⟨h9, ⟨w1, f1, rfl, hd1', hpp⟩, hd2', rfl⟩ := hp
      rcases hpp with ⟨r, hp1, hv, hf⟩ | ⟨E, hp1, hv⟩
      · obtain ⟨X2, S2, rfl, hI2, hb2, ⟨ho, h0⟩ | ⟨E, he, _, _⟩⟩ := hst hp1
        · have e9 := Sum.inl.inj ho
          cases e9
          exact ⟨X2, S2, _, 0, rfl, ⟨hI2, hb2.trans hb, hd1', hd2'⟩, Sum.inl.inj hv, h0, fun _ => hf⟩
        · cases he
      · obtain ⟨X2, S2, rfl, hI2, hb2, ⟨ho, h0⟩ | ⟨E2, he, h0, hc⟩⟩ := hst hp1
        · cases ho
        · cases he
          refine ⟨X2, S2, _, _, rfl, ⟨hI2, hb2.trans hb, hd1', hd2'⟩, Sum.inl.inj hv, h0, fun z => ?_⟩
          rcases hc with rfl | rfl | rfl <;> exact absurd z (by decide)
    subst hv
    obtain ⟨hI2, hb2, hd1', hd2'⟩ := id hL2
    refine x_istore5 (pc := 1112) G dl_1112 (by decide) rfl ?_
    refine x_aload2 (pc := 1114) G dl_1114 ?_
    refine x_aload0 (pc := 1115) G dl_1115 ?_
    refine x_iload4 (pc := 1116) G dl_1116 ?_
    refine x_iconst (pc := 1118) (v := 1) G dl_1118 (by decide) ?_
    refine x_iadd (pc := 1119) G dl_1119 ?_
    refine x_sld (pc := 1120) G hX hbl hbA hx1 dl_1120 ?_
    refine x_aload0 (pc := 1121) G dl_1121 ?_
    refine x_iload4 (pc := 1122) G dl_1122 ?_
    refine x_iconst (pc := 1124) (v := 2) G dl_1124 (by decide) ?_
    refine x_iadd (pc := 1125) G dl_1125 ?_
    refine x_sld (pc := 1126) G hX hbl hbA hx2 dl_1126 ?_
    refine x_if_eq (pc := 1127) (tgt := 1134) (y := 0) G dl_1127 rfl (fun _ => ?_) (fun z9 => absurd hz0 z9)
    refine x_iconst (pc := 1134) (v := 0) G dl_1134 (by decide) ?_
    refine x_aload0 (pc := 1135) G dl_1135 ?_
    refine x_iload4 (pc := 1136) G dl_1136 ?_
    refine x_iconst (pc := 1138) (v := 3) G dl_1138 (by decide) ?_
    refine x_iadd (pc := 1139) G dl_1139 ?_
    refine x_sld (pc := 1140) G hX hbl hbA hx3 dl_1140 ?_
    refine x_aload0 (pc := 1141) G dl_1141 ?_
    refine x_iload4 (pc := 1142) G dl_1142 ?_
    refine x_iconst (pc := 1144) (v := 4) G dl_1144 (by decide) ?_
    refine x_iadd (pc := 1145) G dl_1145 ?_
    refine x_sld (pc := 1146) G hX hbl hbA hx4 dl_1146 ?_
    have hr := rc_line (k := k) hl hH hI.2.2.2 (p1 := (xs (nI i + 1).toNatClampNeg)) (p2 := 0) (p3 := (xs (nI i + 3).toNatClampNeg)) (p4 := (xs (nI i + 4).toNatClampNeg)) (by decide)
    refine Wx_perm hd2' ?_
    refine x_callV (pc := 1147) (bc1 := bc1) (bs1 := bs1) (n := 4) (As := [.int (xs (nI i + 1).toNatClampNeg), .int 0, .int (xs (nI i + 3).toNatClampNeg), .int (xs (nI i + 4).toNatClampNeg)]) G (hr.frame (fun a ha z => hd2' a z ha)) (List.mem_append_left _ mW_mo.1) ((if_pos mW_mo.1).trans mW_mo.2) (show vwCl[12]? = some (_, _, _) from rfl) q_ml_L_219 q_im_yX11_line q_se_yX11_line q_in_X11 q_co_yX11_line ⟨by decide, by decide, by decide +kernel⟩ ⟨Nat.le_of_ble_eq_true rfl, Nat.le_of_ble_eq_true rfl⟩ (Nat.zero_le _) (Nat.le_refl _) (Nat.le_refl _) rfl rfl dl_1147 (fun v w9 hp => ?_) (fun E w9 hp => by obtain ⟨_, hq, _⟩ := hp; cases hq.1)
    obtain ⟨h9, ⟨hv, rfl⟩, _, rfl⟩ := hp
    have hv := Sum.inl.inj hv
    subst hv
    refine Wx_perm (fun a ha z => hd2' a z ha) ?_
    refine x_istore6 (pc := 1150) G dl_1150 (by decide) rfl ?_
    refine x_aload2 (pc := 1152) G dl_1152 ?_
    refine Wx_perm hd2' ?_
    refine x_callV (pc := 1153) (bc1 := bc1) (bs1 := bs1) (n := 0) (As := []) G ((c_thrown (k := k) (M := (f_line (xs (nI i + 1).toNatClampNeg) 0 (xs (nI i + 3).toNatClampNeg) (xs (nI i + 4).toNatClampNeg) M).2) hl hH).frame (fun a ha z => hd2' a z ha)) (List.mem_append_left _ mW_mo.1) ((if_pos mW_mo.1).trans mW_mo.2) (show vwCl[12]? = some (_, _, _) from rfl) q_ml_L_172 q_im_yX11_thrown q_se_yX11_thrown q_in_X11 q_co_yX11_thrown ⟨by decide, by decide, by decide +kernel⟩ ⟨Nat.le_of_ble_eq_true rfl, Nat.le_of_ble_eq_true rfl⟩ (Nat.zero_le _) (Nat.le_refl _) (Nat.le_refl _) rfl rfl dl_1153 (fun v w9 hp => ?_) (fun E w9 hp => by obtain ⟨_, hq, _⟩ := hp; cases hq.1)
    obtain ⟨h9, ⟨hv, rfl⟩, _, rfl⟩ := hp
    have hv := Sum.inl.inj hv
    subst hv
    refine Wx_perm (fun a ha z => hd2' a z ha) ?_
    refine x_iload5 (pc := 1156) G dl_1156 ?_
    refine x_icmp_eq (pc := 1158) (tgt := 1163) G dl_1158 rfl (fun _ => ?_) (fun z9 => absurd hk z9)
    refine x_iload5 (pc := 1163) G dl_1163 ?_
    refine x_if_ne (pc := 1165) (tgt := 1180) (y := 0) G dl_1165 rfl (fun _ => ?_) (fun z9 => ?_)
    · skip
      refine x_goto (pc := 1180) (tgt := 3248) G dl_1180 rfl ?_
      exact Wx_l8 (hend X2 S2 _ f2 hL2)
    · have hf := hz z9
      refine x_aload3 (pc := 1168) G dl_1168 ?_
      refine x_iconst (pc := 1169) (v := 0) G dl_1169 (by decide) ?_
      refine x_old (pc := 1170) G hd1' dl_1170 ?_
      refine x_iload6 (pc := 1171) G dl_1171 ?_
      refine x_i2l (pc := 1173) G dl_1173 ?_
      refine x_lcmp (pc := 1174) G dl_1174 ?_
      refine x_if_eq (pc := 1175) (tgt := 1180) (y := 0) G dl_1175 rfl (fun _ => ?_) (fun z8 => absurd (lg_same hf) z8)
      refine x_goto (pc := 1180) (tgt := 3248) G dl_1180 rfl ?_
      exact Wx_l8 (hend X2 S2 _ f2 hL2)
  · skip
    refine x_aload1 (pc := 1075) G dl_1075 ?_
    refine x_aload0 (pc := 1076) G dl_1076 ?_
    refine x_iload4 (pc := 1077) G dl_1077 ?_
    refine x_iconst (pc := 1079) (v := 1) G dl_1079 (by decide) ?_
    refine x_iadd (pc := 1080) G dl_1080 ?_
    refine x_sld (pc := 1081) G hX hbl hbA hx1 dl_1081 ?_
    refine x_aload0 (pc := 1082) G dl_1082 ?_
    refine x_iload4 (pc := 1083) G dl_1083 ?_
    refine x_iconst (pc := 1085) (v := 2) G dl_1085 (by decide) ?_
    refine x_iadd (pc := 1086) G dl_1086 ?_
    refine x_sld (pc := 1087) G hX hbl hbA hx2 dl_1087 ?_
    refine x_if_eq (pc := 1088) (tgt := 1095) (y := 0) G dl_1088 rfl (fun z9 => absurd z9 hz0) (fun _ => ?_)
    refine x_iconst (pc := 1091) (v := 1) G dl_1091 (by decide) ?_
    refine x_goto (pc := 1092) (tgt := 1096) G dl_1092 rfl ?_
    refine x_aload0 (pc := 1096) G dl_1096 ?_
    refine x_iload4 (pc := 1097) G dl_1097 ?_
    refine x_iconst (pc := 1099) (v := 3) G dl_1099 (by decide) ?_
    refine x_iadd (pc := 1100) G dl_1100 ?_
    refine x_sld (pc := 1101) G hX hbl hbA hx3 dl_1101 ?_
    refine x_aload0 (pc := 1102) G dl_1102 ?_
    refine x_iload4 (pc := 1103) G dl_1103 ?_
    refine x_iconst (pc := 1105) (v := 4) G dl_1105 (by decide) ?_
    refine x_iadd (pc := 1106) G dl_1106 ?_
    refine x_sld (pc := 1107) G hX hbl hbA hx4 dl_1107 ?_
    refine x_aload3 (pc := 1108) G dl_1108 ?_
    have hC := kc_line (k := k) hl hI (p1 := (xs (nI i + 1).toNatClampNeg)) (p2 := 1) (p3 := (xs (nI i + 3).toNatClampNeg)) (p4 := (xs (nI i + 4).toNatClampNeg)) ⟨by decide, by decide⟩
    rw [hvr] at hC
    have hst := fun {o : Out} {w : Wd} => so_line (k := k) (o := o) (w := w) (p1 := (xs (nI i + 1).toNatClampNeg)) (p2 := 1) (p3 := (xs (nI i + 3).toNatClampNeg)) (p4 := (xs (nI i + 4).toNatClampNeg)) hI
    have hh := ch_line hl hbm hbf hd1 hC (fun o w hp => by
      obtain ⟨_, _, _, _, _, ⟨ho, _⟩ | ⟨E, he, _, hc⟩⟩ := hst hp
      · exact Or.inl ⟨_, ho⟩
      · exact Or.inr ⟨E, he, hc⟩)
    have hh := MI.frame hh hd2
    refine x_callSW (pc := 1109) (bc1 := bc1) (bs1 := bs1) (n := 6) (As := [.ref b, .int (xs (nI i + 1).toNatClampNeg), .int 1, .int (xs (nI i + 3).toNatClampNeg), .int (xs (nI i + 4).toNatClampNeg), .ref ao]) G hh q_ml_L_216 q_st_yL_line q_in_L q_cw_line ⟨by decide, by decide, by decide +kernel⟩ ⟨Nat.le_of_ble_eq_true rfl, Nat.le_of_ble_eq_true rfl⟩ (Nat.zero_le _) (Nat.le_refl _) (Nat.le_refl _) rfl rfl dl_1109 (fun v w9 hp => ?_)
    obtain ⟨X2, S2, f2, kc, rfl, hL2, hv, hk, hz⟩ : ∃ X2 S2 f2 kc, w9 = wu (wu (cW k X2 S2) (oW k ao f2)) (mW k mo ad M) ∧ LV9 k b X2 S2 ao f2 mo ad (f_line (xs (nI i + 1).toNatClampNeg) 1 (xs (nI i + 3).toNatClampNeg) (xs (nI i + 4).toNatClampNeg) M).2 ∧ v = some (.int kc) ∧ mI (f_line (xs (nI i + 1).toNatClampNeg) 1 (xs (nI i + 3).toNatClampNeg) (xs (nI i + 4).toNatClampNeg) M).2 0 = kc ∧ (kc = 0 → f2 0 = (f_line (xs (nI i + 1).toNatClampNeg) 1 (xs (nI i + 3).toNatClampNeg) (xs (nI i + 4).toNatClampNeg) M).1.toInt64) := by
      obtain ⟨h9, ⟨w1, f1, rfl, hd1', hpp⟩, hd2', rfl⟩ := hp
      rcases hpp with ⟨r, hp1, hv, hf⟩ | ⟨E, hp1, hv⟩
      · obtain ⟨X2, S2, rfl, hI2, hb2, ⟨ho, h0⟩ | ⟨E, he, _, _⟩⟩ := hst hp1
        · have e9 := Sum.inl.inj ho
          cases e9
          exact ⟨X2, S2, _, 0, rfl, ⟨hI2, hb2.trans hb, hd1', hd2'⟩, Sum.inl.inj hv, h0, fun _ => hf⟩
        · cases he
      · obtain ⟨X2, S2, rfl, hI2, hb2, ⟨ho, h0⟩ | ⟨E2, he, h0, hc⟩⟩ := hst hp1
        · cases ho
        · cases he
          refine ⟨X2, S2, _, _, rfl, ⟨hI2, hb2.trans hb, hd1', hd2'⟩, Sum.inl.inj hv, h0, fun z => ?_⟩
          rcases hc with rfl | rfl | rfl <;> exact absurd z (by decide)
    subst hv
    obtain ⟨hI2, hb2, hd1', hd2'⟩ := id hL2
    refine x_istore5 (pc := 1112) G dl_1112 (by decide) rfl ?_
    refine x_aload2 (pc := 1114) G dl_1114 ?_
    refine x_aload0 (pc := 1115) G dl_1115 ?_
    refine x_iload4 (pc := 1116) G dl_1116 ?_
    refine x_iconst (pc := 1118) (v := 1) G dl_1118 (by decide) ?_
    refine x_iadd (pc := 1119) G dl_1119 ?_
    refine x_sld (pc := 1120) G hX hbl hbA hx1 dl_1120 ?_
    refine x_aload0 (pc := 1121) G dl_1121 ?_
    refine x_iload4 (pc := 1122) G dl_1122 ?_
    refine x_iconst (pc := 1124) (v := 2) G dl_1124 (by decide) ?_
    refine x_iadd (pc := 1125) G dl_1125 ?_
    refine x_sld (pc := 1126) G hX hbl hbA hx2 dl_1126 ?_
    refine x_if_eq (pc := 1127) (tgt := 1134) (y := 0) G dl_1127 rfl (fun z9 => absurd z9 hz0) (fun _ => ?_)
    refine x_iconst (pc := 1130) (v := 1) G dl_1130 (by decide) ?_
    refine x_goto (pc := 1131) (tgt := 1135) G dl_1131 rfl ?_
    refine x_aload0 (pc := 1135) G dl_1135 ?_
    refine x_iload4 (pc := 1136) G dl_1136 ?_
    refine x_iconst (pc := 1138) (v := 3) G dl_1138 (by decide) ?_
    refine x_iadd (pc := 1139) G dl_1139 ?_
    refine x_sld (pc := 1140) G hX hbl hbA hx3 dl_1140 ?_
    refine x_aload0 (pc := 1141) G dl_1141 ?_
    refine x_iload4 (pc := 1142) G dl_1142 ?_
    refine x_iconst (pc := 1144) (v := 4) G dl_1144 (by decide) ?_
    refine x_iadd (pc := 1145) G dl_1145 ?_
    refine x_sld (pc := 1146) G hX hbl hbA hx4 dl_1146 ?_
    have hr := rc_line (k := k) hl hH hI.2.2.2 (p1 := (xs (nI i + 1).toNatClampNeg)) (p2 := 1) (p3 := (xs (nI i + 3).toNatClampNeg)) (p4 := (xs (nI i + 4).toNatClampNeg)) (by decide)
    refine Wx_perm hd2' ?_
    refine x_callV (pc := 1147) (bc1 := bc1) (bs1 := bs1) (n := 4) (As := [.int (xs (nI i + 1).toNatClampNeg), .int 1, .int (xs (nI i + 3).toNatClampNeg), .int (xs (nI i + 4).toNatClampNeg)]) G (hr.frame (fun a ha z => hd2' a z ha)) (List.mem_append_left _ mW_mo.1) ((if_pos mW_mo.1).trans mW_mo.2) (show vwCl[12]? = some (_, _, _) from rfl) q_ml_L_219 q_im_yX11_line q_se_yX11_line q_in_X11 q_co_yX11_line ⟨by decide, by decide, by decide +kernel⟩ ⟨Nat.le_of_ble_eq_true rfl, Nat.le_of_ble_eq_true rfl⟩ (Nat.zero_le _) (Nat.le_refl _) (Nat.le_refl _) rfl rfl dl_1147 (fun v w9 hp => ?_) (fun E w9 hp => by obtain ⟨_, hq, _⟩ := hp; cases hq.1)
    obtain ⟨h9, ⟨hv, rfl⟩, _, rfl⟩ := hp
    have hv := Sum.inl.inj hv
    subst hv
    refine Wx_perm (fun a ha z => hd2' a z ha) ?_
    refine x_istore6 (pc := 1150) G dl_1150 (by decide) rfl ?_
    refine x_aload2 (pc := 1152) G dl_1152 ?_
    refine Wx_perm hd2' ?_
    refine x_callV (pc := 1153) (bc1 := bc1) (bs1 := bs1) (n := 0) (As := []) G ((c_thrown (k := k) (M := (f_line (xs (nI i + 1).toNatClampNeg) 1 (xs (nI i + 3).toNatClampNeg) (xs (nI i + 4).toNatClampNeg) M).2) hl hH).frame (fun a ha z => hd2' a z ha)) (List.mem_append_left _ mW_mo.1) ((if_pos mW_mo.1).trans mW_mo.2) (show vwCl[12]? = some (_, _, _) from rfl) q_ml_L_172 q_im_yX11_thrown q_se_yX11_thrown q_in_X11 q_co_yX11_thrown ⟨by decide, by decide, by decide +kernel⟩ ⟨Nat.le_of_ble_eq_true rfl, Nat.le_of_ble_eq_true rfl⟩ (Nat.zero_le _) (Nat.le_refl _) (Nat.le_refl _) rfl rfl dl_1153 (fun v w9 hp => ?_) (fun E w9 hp => by obtain ⟨_, hq, _⟩ := hp; cases hq.1)
    obtain ⟨h9, ⟨hv, rfl⟩, _, rfl⟩ := hp
    have hv := Sum.inl.inj hv
    subst hv
    refine Wx_perm (fun a ha z => hd2' a z ha) ?_
    refine x_iload5 (pc := 1156) G dl_1156 ?_
    refine x_icmp_eq (pc := 1158) (tgt := 1163) G dl_1158 rfl (fun _ => ?_) (fun z9 => absurd hk z9)
    refine x_iload5 (pc := 1163) G dl_1163 ?_
    refine x_if_ne (pc := 1165) (tgt := 1180) (y := 0) G dl_1165 rfl (fun _ => ?_) (fun z9 => ?_)
    · skip
      refine x_goto (pc := 1180) (tgt := 3248) G dl_1180 rfl ?_
      exact Wx_l8 (hend X2 S2 _ f2 hL2)
    · have hf := hz z9
      refine x_aload3 (pc := 1168) G dl_1168 ?_
      refine x_iconst (pc := 1169) (v := 0) G dl_1169 (by decide) ?_
      refine x_old (pc := 1170) G hd1' dl_1170 ?_
      refine x_iload6 (pc := 1171) G dl_1171 ?_
      refine x_i2l (pc := 1173) G dl_1173 ?_
      refine x_lcmp (pc := 1174) G dl_1174 ?_
      refine x_if_eq (pc := 1175) (tgt := 1180) (y := 0) G dl_1175 rfl (fun _ => ?_) (fun z8 => absurd (lg_same hf) z8)
      refine x_goto (pc := 1180) (tgt := 3248) G dl_1180 rfl ?_
      exact Wx_l8 (hend X2 S2 _ f2 hL2)
theorem dl_1183 : decode cL_law 1183 = .ok (.aload_n 1, 1) := by decide +kernel
theorem dl_1184 : decode cL_law 1184 = .ok (.aload_n 0, 1) := by decide +kernel
theorem dl_1185 : decode cL_law 1185 = .ok (.iload 4, 2) := by decide +kernel
theorem dl_1187 : decode cL_law 1187 = .ok (.iconst 1, 1) := by decide +kernel
theorem dl_1188 : decode cL_law 1188 = .ok (.iadd, 1) := by decide +kernel
theorem dl_1189 : decode cL_law 1189 = .ok (.iaload, 1) := by decide +kernel
theorem dl_1190 : decode cL_law 1190 = .ok (.aload_n 3, 1) := by decide +kernel
theorem dl_1191 : decode cL_law 1191 = .ok (.invokestatic 220, 3) := by decide +kernel
theorem dl_1194 : decode cL_law 1194 = .ok (.istore 5, 2) := by decide +kernel
theorem dl_1196 : decode cL_law 1196 = .ok (.aload_n 2, 1) := by decide +kernel
theorem dl_1197 : decode cL_law 1197 = .ok (.aload_n 0, 1) := by decide +kernel
theorem dl_1198 : decode cL_law 1198 = .ok (.iload 4, 2) := by decide +kernel
theorem dl_1200 : decode cL_law 1200 = .ok (.iconst 1, 1) := by decide +kernel
theorem dl_1201 : decode cL_law 1201 = .ok (.iadd, 1) := by decide +kernel
theorem dl_1202 : decode cL_law 1202 = .ok (.iaload, 1) := by decide +kernel
theorem dl_1203 : decode cL_law 1203 = .ok (.invokevirtual 222, 3) := by decide +kernel
theorem dl_1206 : decode cL_law 1206 = .ok (.istore 6, 2) := by decide +kernel
theorem dl_1208 : decode cL_law 1208 = .ok (.aload_n 2, 1) := by decide +kernel
theorem dl_1209 : decode cL_law 1209 = .ok (.invokevirtual 172, 3) := by decide +kernel
theorem dl_1212 : decode cL_law 1212 = .ok (.iload 5, 2) := by decide +kernel
theorem dl_1214 : decode cL_law 1214 = .ok (.if_icmp .eq 5, 3) := by decide +kernel
theorem dl_1217 : decode cL_law 1217 = .ok (.iconst 0, 1) := by decide +kernel
theorem dl_1218 : decode cL_law 1218 = .ok (.ireturn, 1) := by decide +kernel
theorem dl_1219 : decode cL_law 1219 = .ok (.iload 5, 2) := by decide +kernel
theorem dl_1221 : decode cL_law 1221 = .ok (.ifCond .ne 15, 3) := by decide +kernel
theorem dl_1224 : decode cL_law 1224 = .ok (.aload_n 3, 1) := by decide +kernel
theorem dl_1225 : decode cL_law 1225 = .ok (.iconst 0, 1) := by decide +kernel
theorem dl_1226 : decode cL_law 1226 = .ok (.laload, 1) := by decide +kernel
theorem dl_1227 : decode cL_law 1227 = .ok (.iload 6, 2) := by decide +kernel
theorem dl_1229 : decode cL_law 1229 = .ok (.i2l, 1) := by decide +kernel
theorem dl_1230 : decode cL_law 1230 = .ok (.lcmp, 1) := by decide +kernel
theorem dl_1231 : decode cL_law 1231 = .ok (.ifCond .eq 5, 3) := by decide +kernel
theorem dl_1234 : decode cL_law 1234 = .ok (.iconst 0, 1) := by decide +kernel
theorem dl_1235 : decode cL_law 1235 = .ok (.ireturn, 1) := by decide +kernel
theorem dl_1236 : decode cL_law 1236 = .ok (.goto 2012, 3) := by decide +kernel
set_option maxRecDepth 100000 in
set_option maxHeartbeats 4000000 in
theorem lk_send {p : Program} {l : Launch} {e : Env} {s : State} {m : MethodId} {args : Array Value} {below : List Frame} {meth : Method} {c : Code} {k : KC} {A : Nat → Prop} {Q : State → Prop} {bc1 bs1 b0 Ln b ao mo i : Nat} {xs : Nat → Int32} {ad : Nat → Nat} {f : Nat → Int64} {X : CX} {S : CT} {M : MS} {rt9 : Option FieldType} (hl : l.stackTraces = false) (G : GX p l room_1 s m args meth c k A RL cL_law 8 rt9) (hX : va_X b0 Ln xs s s.heap) (hbl : b0 < s.heap.size) (hbA : ¬ A b0) (hH : HM mo ad) (hi : i + 8 ≤ Ln) (hL : Ln ≤ 4096) (h : LV9 k b X S ao f mo ad M) (hend : ∀ X2 S2 M2 f2, LV9 k b X2 S2 ao f2 mo ad M2 → Wx p l e room_1 s m args below meth c k A 8 Q bc1 bs1 3248 [some (.ref b0), some (.ref b), some (.ref mo), some (.ref ao), some (.int (nI i)), none, none, none] [] (WL k X2 S2 ao f2 mo ad M2)) : Wx p l e room_1 s m args below meth c k A 8 Q (bc1 + 1) (bs1 + 6) 1183 [some (.ref b0), some (.ref b), some (.ref mo), some (.ref ao), some (.int (nI i)), none, none, none] [] (WL k X S ao f mo ad M) := by
  obtain ⟨hI, hb, hd1, hd2⟩ := h
  obtain ⟨hbm, fs, hbf⟩ := cw11 (k := k) (S := S) hI.1 hb
  have hvr := vr11 hb
  have hx1 : vp_in (nI i + 1) Ln := ix_in (j := 1) rfl (by omega) hL
  unfold WL
  refine x_aload1 (pc := 1183) G dl_1183 ?_
  refine x_aload0 (pc := 1184) G dl_1184 ?_
  refine x_iload4 (pc := 1185) G dl_1185 ?_
  refine x_iconst (pc := 1187) (v := 1) G dl_1187 (by decide) ?_
  refine x_iadd (pc := 1188) G dl_1188 ?_
  refine x_sld (pc := 1189) G hX hbl hbA hx1 dl_1189 ?_
  refine x_aload3 (pc := 1190) G dl_1190 ?_
  have hC := kc_send (k := k) hl hI (p1 := (xs (nI i + 1).toNatClampNeg))
  rw [hvr] at hC
  have hst := fun {o : Out} {w : Wd} => so_send (k := k) (o := o) (w := w) (p1 := (xs (nI i + 1).toNatClampNeg)) hI
  have hh := ch_send hl hbm hbf hd1 hC (fun o w hp => by
    obtain ⟨_, _, _, _, _, ⟨ho, _⟩ | ⟨E, he, _, hc⟩⟩ := hst hp
    · exact Or.inl ⟨_, ho⟩
    · exact Or.inr ⟨E, he, hc⟩)
  have hh := MI.frame hh hd2
  refine x_callSW (pc := 1191) (bc1 := bc1) (bs1 := bs1) (n := 3) (As := [.ref b, .int (xs (nI i + 1).toNatClampNeg), .ref ao]) G hh q_ml_L_220 q_st_yL_send q_in_L q_cw_send ⟨by decide, by decide, by decide +kernel⟩ ⟨Nat.le_of_ble_eq_true rfl, Nat.le_of_ble_eq_true rfl⟩ (Nat.zero_le _) (Nat.le_refl _) (Nat.le_refl _) rfl rfl dl_1191 (fun v w9 hp => ?_)
  obtain ⟨X2, S2, f2, kc, rfl, hL2, hv, hk, hz⟩ : ∃ X2 S2 f2 kc, w9 = wu (wu (cW k X2 S2) (oW k ao f2)) (mW k mo ad M) ∧ LV9 k b X2 S2 ao f2 mo ad (f_send (xs (nI i + 1).toNatClampNeg) M).2 ∧ v = some (.int kc) ∧ mI (f_send (xs (nI i + 1).toNatClampNeg) M).2 0 = kc ∧ (kc = 0 → f2 0 = (f_send (xs (nI i + 1).toNatClampNeg) M).1.toInt64) := by
    obtain ⟨h9, ⟨w1, f1, rfl, hd1', hpp⟩, hd2', rfl⟩ := hp
    rcases hpp with ⟨r, hp1, hv, hf⟩ | ⟨E, hp1, hv⟩
    · obtain ⟨X2, S2, rfl, hI2, hb2, ⟨ho, h0⟩ | ⟨E, he, _, _⟩⟩ := hst hp1
      · have e9 := Sum.inl.inj ho
        cases e9
        exact ⟨X2, S2, _, 0, rfl, ⟨hI2, hb2.trans hb, hd1', hd2'⟩, Sum.inl.inj hv, h0, fun _ => hf⟩
      · cases he
    · obtain ⟨X2, S2, rfl, hI2, hb2, ⟨ho, h0⟩ | ⟨E2, he, h0, hc⟩⟩ := hst hp1
      · cases ho
      · cases he
        refine ⟨X2, S2, _, _, rfl, ⟨hI2, hb2.trans hb, hd1', hd2'⟩, Sum.inl.inj hv, h0, fun z => ?_⟩
        rcases hc with rfl | rfl <;> exact absurd z (by decide)
  subst hv
  obtain ⟨hI2, hb2, hd1', hd2'⟩ := id hL2
  refine x_istore5 (pc := 1194) G dl_1194 (by decide) rfl ?_
  refine x_aload2 (pc := 1196) G dl_1196 ?_
  refine x_aload0 (pc := 1197) G dl_1197 ?_
  refine x_iload4 (pc := 1198) G dl_1198 ?_
  refine x_iconst (pc := 1200) (v := 1) G dl_1200 (by decide) ?_
  refine x_iadd (pc := 1201) G dl_1201 ?_
  refine x_sld (pc := 1202) G hX hbl hbA hx1 dl_1202 ?_
  have hr := rc_send (k := k) hl hH hI.2.2.2 (p1 := (xs (nI i + 1).toNatClampNeg))
  refine Wx_perm hd2' ?_
  refine x_callV (pc := 1203) (bc1 := bc1) (bs1 := bs1) (n := 1) (As := [.int (xs (nI i + 1).toNatClampNeg)]) G (hr.frame (fun a ha z => hd2' a z ha)) (List.mem_append_left _ mW_mo.1) ((if_pos mW_mo.1).trans mW_mo.2) (show vwCl[12]? = some (_, _, _) from rfl) q_ml_L_222 q_im_yX11_send q_se_yX11_send q_in_X11 q_co_yX11_send ⟨by decide, by decide, by decide +kernel⟩ ⟨Nat.le_of_ble_eq_true rfl, Nat.le_of_ble_eq_true rfl⟩ (Nat.zero_le _) (Nat.le_refl _) (Nat.le_refl _) rfl rfl dl_1203 (fun v w9 hp => ?_) (fun E w9 hp => by obtain ⟨_, hq, _⟩ := hp; cases hq.1)
  obtain ⟨h9, ⟨hv, rfl⟩, _, rfl⟩ := hp
  have hv := Sum.inl.inj hv
  subst hv
  refine Wx_perm (fun a ha z => hd2' a z ha) ?_
  refine x_istore6 (pc := 1206) G dl_1206 (by decide) rfl ?_
  refine x_aload2 (pc := 1208) G dl_1208 ?_
  refine Wx_perm hd2' ?_
  refine x_callV (pc := 1209) (bc1 := bc1) (bs1 := bs1) (n := 0) (As := []) G ((c_thrown (k := k) (M := (f_send (xs (nI i + 1).toNatClampNeg) M).2) hl hH).frame (fun a ha z => hd2' a z ha)) (List.mem_append_left _ mW_mo.1) ((if_pos mW_mo.1).trans mW_mo.2) (show vwCl[12]? = some (_, _, _) from rfl) q_ml_L_172 q_im_yX11_thrown q_se_yX11_thrown q_in_X11 q_co_yX11_thrown ⟨by decide, by decide, by decide +kernel⟩ ⟨Nat.le_of_ble_eq_true rfl, Nat.le_of_ble_eq_true rfl⟩ (Nat.zero_le _) (Nat.le_refl _) (Nat.le_refl _) rfl rfl dl_1209 (fun v w9 hp => ?_) (fun E w9 hp => by obtain ⟨_, hq, _⟩ := hp; cases hq.1)
  obtain ⟨h9, ⟨hv, rfl⟩, _, rfl⟩ := hp
  have hv := Sum.inl.inj hv
  subst hv
  refine Wx_perm (fun a ha z => hd2' a z ha) ?_
  refine x_iload5 (pc := 1212) G dl_1212 ?_
  refine x_icmp_eq (pc := 1214) (tgt := 1219) G dl_1214 rfl (fun _ => ?_) (fun z9 => absurd hk z9)
  refine x_iload5 (pc := 1219) G dl_1219 ?_
  refine x_if_ne (pc := 1221) (tgt := 1236) (y := 0) G dl_1221 rfl (fun _ => ?_) (fun z9 => ?_)
  · skip
    refine x_goto (pc := 1236) (tgt := 3248) G dl_1236 rfl ?_
    exact Wx_l8 (hend X2 S2 _ f2 hL2)
  · have hf := hz z9
    refine x_aload3 (pc := 1224) G dl_1224 ?_
    refine x_iconst (pc := 1225) (v := 0) G dl_1225 (by decide) ?_
    refine x_old (pc := 1226) G hd1' dl_1226 ?_
    refine x_iload6 (pc := 1227) G dl_1227 ?_
    refine x_i2l (pc := 1229) G dl_1229 ?_
    refine x_lcmp (pc := 1230) G dl_1230 ?_
    refine x_if_eq (pc := 1231) (tgt := 1236) (y := 0) G dl_1231 rfl (fun _ => ?_) (fun z8 => absurd (lg_same hf) z8)
    refine x_goto (pc := 1236) (tgt := 3248) G dl_1236 rfl ?_
    exact Wx_l8 (hend X2 S2 _ f2 hL2)
theorem dl_1239 : decode cL_law 1239 = .ok (.aload_n 1, 1) := by decide +kernel
theorem dl_1240 : decode cL_law 1240 = .ok (.aload_n 0, 1) := by decide +kernel
theorem dl_1241 : decode cL_law 1241 = .ok (.iload 4, 2) := by decide +kernel
theorem dl_1243 : decode cL_law 1243 = .ok (.iconst 1, 1) := by decide +kernel
theorem dl_1244 : decode cL_law 1244 = .ok (.iadd, 1) := by decide +kernel
theorem dl_1245 : decode cL_law 1245 = .ok (.iaload, 1) := by decide +kernel
theorem dl_1246 : decode cL_law 1246 = .ok (.aload_n 0, 1) := by decide +kernel
theorem dl_1247 : decode cL_law 1247 = .ok (.iload 4, 2) := by decide +kernel
theorem dl_1249 : decode cL_law 1249 = .ok (.iconst 2, 1) := by decide +kernel
theorem dl_1250 : decode cL_law 1250 = .ok (.iadd, 1) := by decide +kernel
theorem dl_1251 : decode cL_law 1251 = .ok (.iaload, 1) := by decide +kernel
theorem dl_1252 : decode cL_law 1252 = .ok (.aload_n 3, 1) := by decide +kernel
theorem dl_1253 : decode cL_law 1253 = .ok (.invokestatic 223, 3) := by decide +kernel
theorem dl_1256 : decode cL_law 1256 = .ok (.istore 5, 2) := by decide +kernel
theorem dl_1258 : decode cL_law 1258 = .ok (.aload_n 2, 1) := by decide +kernel
theorem dl_1259 : decode cL_law 1259 = .ok (.aload_n 0, 1) := by decide +kernel
theorem dl_1260 : decode cL_law 1260 = .ok (.iload 4, 2) := by decide +kernel
theorem dl_1262 : decode cL_law 1262 = .ok (.iconst 1, 1) := by decide +kernel
theorem dl_1263 : decode cL_law 1263 = .ok (.iadd, 1) := by decide +kernel
theorem dl_1264 : decode cL_law 1264 = .ok (.iaload, 1) := by decide +kernel
theorem dl_1265 : decode cL_law 1265 = .ok (.aload_n 0, 1) := by decide +kernel
theorem dl_1266 : decode cL_law 1266 = .ok (.iload 4, 2) := by decide +kernel
theorem dl_1268 : decode cL_law 1268 = .ok (.iconst 2, 1) := by decide +kernel
theorem dl_1269 : decode cL_law 1269 = .ok (.iadd, 1) := by decide +kernel
theorem dl_1270 : decode cL_law 1270 = .ok (.iaload, 1) := by decide +kernel
theorem dl_1271 : decode cL_law 1271 = .ok (.invokevirtual 225, 3) := by decide +kernel
theorem dl_1274 : decode cL_law 1274 = .ok (.istore 6, 2) := by decide +kernel
theorem dl_1276 : decode cL_law 1276 = .ok (.aload_n 2, 1) := by decide +kernel
theorem dl_1277 : decode cL_law 1277 = .ok (.invokevirtual 172, 3) := by decide +kernel
theorem dl_1280 : decode cL_law 1280 = .ok (.iload 5, 2) := by decide +kernel
theorem dl_1282 : decode cL_law 1282 = .ok (.if_icmp .eq 5, 3) := by decide +kernel
theorem dl_1285 : decode cL_law 1285 = .ok (.iconst 0, 1) := by decide +kernel
theorem dl_1286 : decode cL_law 1286 = .ok (.ireturn, 1) := by decide +kernel
theorem dl_1287 : decode cL_law 1287 = .ok (.iload 5, 2) := by decide +kernel
theorem dl_1289 : decode cL_law 1289 = .ok (.ifCond .ne 15, 3) := by decide +kernel
theorem dl_1292 : decode cL_law 1292 = .ok (.aload_n 3, 1) := by decide +kernel
theorem dl_1293 : decode cL_law 1293 = .ok (.iconst 0, 1) := by decide +kernel
theorem dl_1294 : decode cL_law 1294 = .ok (.laload, 1) := by decide +kernel
theorem dl_1295 : decode cL_law 1295 = .ok (.iload 6, 2) := by decide +kernel
theorem dl_1297 : decode cL_law 1297 = .ok (.i2l, 1) := by decide +kernel
theorem dl_1298 : decode cL_law 1298 = .ok (.lcmp, 1) := by decide +kernel
theorem dl_1299 : decode cL_law 1299 = .ok (.ifCond .eq 5, 3) := by decide +kernel
theorem dl_1302 : decode cL_law 1302 = .ok (.iconst 0, 1) := by decide +kernel
theorem dl_1303 : decode cL_law 1303 = .ok (.ireturn, 1) := by decide +kernel
theorem dl_1304 : decode cL_law 1304 = .ok (.goto 1944, 3) := by decide +kernel
set_option maxRecDepth 100000 in
set_option maxHeartbeats 4000000 in
theorem lk_approve {p : Program} {l : Launch} {e : Env} {s : State} {m : MethodId} {args : Array Value} {below : List Frame} {meth : Method} {c : Code} {k : KC} {A : Nat → Prop} {Q : State → Prop} {bc1 bs1 b0 Ln b ao mo i : Nat} {xs : Nat → Int32} {ad : Nat → Nat} {f : Nat → Int64} {X : CX} {S : CT} {M : MS} {rt9 : Option FieldType} (hl : l.stackTraces = false) (G : GX p l room_1 s m args meth c k A RL cL_law 8 rt9) (hX : va_X b0 Ln xs s s.heap) (hbl : b0 < s.heap.size) (hbA : ¬ A b0) (hH : HM mo ad) (hi : i + 8 ≤ Ln) (hL : Ln ≤ 4096) (h : LV9 k b X S ao f mo ad M) (hend : ∀ X2 S2 M2 f2, LV9 k b X2 S2 ao f2 mo ad M2 → Wx p l e room_1 s m args below meth c k A 8 Q bc1 bs1 3248 [some (.ref b0), some (.ref b), some (.ref mo), some (.ref ao), some (.int (nI i)), none, none, none] [] (WL k X2 S2 ao f2 mo ad M2)) : Wx p l e room_1 s m args below meth c k A 8 Q (bc1 + 1) (bs1 + 6) 1239 [some (.ref b0), some (.ref b), some (.ref mo), some (.ref ao), some (.int (nI i)), none, none, none] [] (WL k X S ao f mo ad M) := by
  obtain ⟨hI, hb, hd1, hd2⟩ := h
  obtain ⟨hbm, fs, hbf⟩ := cw11 (k := k) (S := S) hI.1 hb
  have hvr := vr11 hb
  have hx1 : vp_in (nI i + 1) Ln := ix_in (j := 1) rfl (by omega) hL
  have hx2 : vp_in (nI i + 2) Ln := ix_in (j := 2) rfl (by omega) hL
  unfold WL
  refine x_aload1 (pc := 1239) G dl_1239 ?_
  refine x_aload0 (pc := 1240) G dl_1240 ?_
  refine x_iload4 (pc := 1241) G dl_1241 ?_
  refine x_iconst (pc := 1243) (v := 1) G dl_1243 (by decide) ?_
  refine x_iadd (pc := 1244) G dl_1244 ?_
  refine x_sld (pc := 1245) G hX hbl hbA hx1 dl_1245 ?_
  refine x_aload0 (pc := 1246) G dl_1246 ?_
  refine x_iload4 (pc := 1247) G dl_1247 ?_
  refine x_iconst (pc := 1249) (v := 2) G dl_1249 (by decide) ?_
  refine x_iadd (pc := 1250) G dl_1250 ?_
  refine x_sld (pc := 1251) G hX hbl hbA hx2 dl_1251 ?_
  refine x_aload3 (pc := 1252) G dl_1252 ?_
  have hC := kc_approve (k := k) hl hI (p1 := (xs (nI i + 1).toNatClampNeg)) (p2 := (xs (nI i + 2).toNatClampNeg))
  rw [hvr] at hC
  have hst := fun {o : Out} {w : Wd} => so_approve (k := k) (o := o) (w := w) (p1 := (xs (nI i + 1).toNatClampNeg)) (p2 := (xs (nI i + 2).toNatClampNeg)) hI
  have hh := ch_approve hl hbm hbf hd1 hC (fun o w hp => by
    obtain ⟨_, _, _, _, _, ⟨ho, _⟩ | ⟨E, he, _, hc⟩⟩ := hst hp
    · exact Or.inl ⟨_, ho⟩
    · exact Or.inr ⟨E, he, hc⟩)
  have hh := MI.frame hh hd2
  refine x_callSW (pc := 1253) (bc1 := bc1) (bs1 := bs1) (n := 4) (As := [.ref b, .int (xs (nI i + 1).toNatClampNeg), .int (xs (nI i + 2).toNatClampNeg), .ref ao]) G hh q_ml_L_223 q_st_yL_approve q_in_L q_cw_approve ⟨by decide, by decide, by decide +kernel⟩ ⟨Nat.le_of_ble_eq_true rfl, Nat.le_of_ble_eq_true rfl⟩ (Nat.zero_le _) (Nat.le_refl _) (Nat.le_refl _) rfl rfl dl_1253 (fun v w9 hp => ?_)
  obtain ⟨X2, S2, f2, kc, rfl, hL2, hv, hk, hz⟩ : ∃ X2 S2 f2 kc, w9 = wu (wu (cW k X2 S2) (oW k ao f2)) (mW k mo ad M) ∧ LV9 k b X2 S2 ao f2 mo ad (f_approve (xs (nI i + 1).toNatClampNeg) (xs (nI i + 2).toNatClampNeg) M).2 ∧ v = some (.int kc) ∧ mI (f_approve (xs (nI i + 1).toNatClampNeg) (xs (nI i + 2).toNatClampNeg) M).2 0 = kc ∧ (kc = 0 → f2 0 = (f_approve (xs (nI i + 1).toNatClampNeg) (xs (nI i + 2).toNatClampNeg) M).1.toInt64) := by
    obtain ⟨h9, ⟨w1, f1, rfl, hd1', hpp⟩, hd2', rfl⟩ := hp
    rcases hpp with ⟨r, hp1, hv, hf⟩ | ⟨E, hp1, hv⟩
    · obtain ⟨X2, S2, rfl, hI2, hb2, ⟨ho, h0⟩ | ⟨E, he, _, _⟩⟩ := hst hp1
      · have e9 := Sum.inl.inj ho
        cases e9
        exact ⟨X2, S2, _, 0, rfl, ⟨hI2, hb2.trans hb, hd1', hd2'⟩, Sum.inl.inj hv, h0, fun _ => hf⟩
      · cases he
    · obtain ⟨X2, S2, rfl, hI2, hb2, ⟨ho, h0⟩ | ⟨E2, he, h0, hc⟩⟩ := hst hp1
      · cases ho
      · cases he
        refine ⟨X2, S2, _, _, rfl, ⟨hI2, hb2.trans hb, hd1', hd2'⟩, Sum.inl.inj hv, h0, fun z => ?_⟩
        rcases hc with rfl | rfl <;> exact absurd z (by decide)
  subst hv
  obtain ⟨hI2, hb2, hd1', hd2'⟩ := id hL2
  refine x_istore5 (pc := 1256) G dl_1256 (by decide) rfl ?_
  refine x_aload2 (pc := 1258) G dl_1258 ?_
  refine x_aload0 (pc := 1259) G dl_1259 ?_
  refine x_iload4 (pc := 1260) G dl_1260 ?_
  refine x_iconst (pc := 1262) (v := 1) G dl_1262 (by decide) ?_
  refine x_iadd (pc := 1263) G dl_1263 ?_
  refine x_sld (pc := 1264) G hX hbl hbA hx1 dl_1264 ?_
  refine x_aload0 (pc := 1265) G dl_1265 ?_
  refine x_iload4 (pc := 1266) G dl_1266 ?_
  refine x_iconst (pc := 1268) (v := 2) G dl_1268 (by decide) ?_
  refine x_iadd (pc := 1269) G dl_1269 ?_
  refine x_sld (pc := 1270) G hX hbl hbA hx2 dl_1270 ?_
  have hr := rc_approve (k := k) hl hH hI.2.2.2 (p1 := (xs (nI i + 1).toNatClampNeg)) (p2 := (xs (nI i + 2).toNatClampNeg))
  refine Wx_perm hd2' ?_
  refine x_callV (pc := 1271) (bc1 := bc1) (bs1 := bs1) (n := 2) (As := [.int (xs (nI i + 1).toNatClampNeg), .int (xs (nI i + 2).toNatClampNeg)]) G (hr.frame (fun a ha z => hd2' a z ha)) (List.mem_append_left _ mW_mo.1) ((if_pos mW_mo.1).trans mW_mo.2) (show vwCl[12]? = some (_, _, _) from rfl) q_ml_L_225 q_im_yX11_approve q_se_yX11_approve q_in_X11 q_co_yX11_approve ⟨by decide, by decide, by decide +kernel⟩ ⟨Nat.le_of_ble_eq_true rfl, Nat.le_of_ble_eq_true rfl⟩ (Nat.zero_le _) (Nat.le_refl _) (Nat.le_refl _) rfl rfl dl_1271 (fun v w9 hp => ?_) (fun E w9 hp => by obtain ⟨_, hq, _⟩ := hp; cases hq.1)
  obtain ⟨h9, ⟨hv, rfl⟩, _, rfl⟩ := hp
  have hv := Sum.inl.inj hv
  subst hv
  refine Wx_perm (fun a ha z => hd2' a z ha) ?_
  refine x_istore6 (pc := 1274) G dl_1274 (by decide) rfl ?_
  refine x_aload2 (pc := 1276) G dl_1276 ?_
  refine Wx_perm hd2' ?_
  refine x_callV (pc := 1277) (bc1 := bc1) (bs1 := bs1) (n := 0) (As := []) G ((c_thrown (k := k) (M := (f_approve (xs (nI i + 1).toNatClampNeg) (xs (nI i + 2).toNatClampNeg) M).2) hl hH).frame (fun a ha z => hd2' a z ha)) (List.mem_append_left _ mW_mo.1) ((if_pos mW_mo.1).trans mW_mo.2) (show vwCl[12]? = some (_, _, _) from rfl) q_ml_L_172 q_im_yX11_thrown q_se_yX11_thrown q_in_X11 q_co_yX11_thrown ⟨by decide, by decide, by decide +kernel⟩ ⟨Nat.le_of_ble_eq_true rfl, Nat.le_of_ble_eq_true rfl⟩ (Nat.zero_le _) (Nat.le_refl _) (Nat.le_refl _) rfl rfl dl_1277 (fun v w9 hp => ?_) (fun E w9 hp => by obtain ⟨_, hq, _⟩ := hp; cases hq.1)
  obtain ⟨h9, ⟨hv, rfl⟩, _, rfl⟩ := hp
  have hv := Sum.inl.inj hv
  subst hv
  refine Wx_perm (fun a ha z => hd2' a z ha) ?_
  refine x_iload5 (pc := 1280) G dl_1280 ?_
  refine x_icmp_eq (pc := 1282) (tgt := 1287) G dl_1282 rfl (fun _ => ?_) (fun z9 => absurd hk z9)
  refine x_iload5 (pc := 1287) G dl_1287 ?_
  refine x_if_ne (pc := 1289) (tgt := 1304) (y := 0) G dl_1289 rfl (fun _ => ?_) (fun z9 => ?_)
  · skip
    refine x_goto (pc := 1304) (tgt := 3248) G dl_1304 rfl ?_
    exact Wx_l8 (hend X2 S2 _ f2 hL2)
  · have hf := hz z9
    refine x_aload3 (pc := 1292) G dl_1292 ?_
    refine x_iconst (pc := 1293) (v := 0) G dl_1293 (by decide) ?_
    refine x_old (pc := 1294) G hd1' dl_1294 ?_
    refine x_iload6 (pc := 1295) G dl_1295 ?_
    refine x_i2l (pc := 1297) G dl_1297 ?_
    refine x_lcmp (pc := 1298) G dl_1298 ?_
    refine x_if_eq (pc := 1299) (tgt := 1304) (y := 0) G dl_1299 rfl (fun _ => ?_) (fun z8 => absurd (lg_same hf) z8)
    refine x_goto (pc := 1304) (tgt := 3248) G dl_1304 rfl ?_
    exact Wx_l8 (hend X2 S2 _ f2 hL2)
theorem dl_1307 : decode cL_law 1307 = .ok (.aload_n 1, 1) := by decide +kernel
theorem dl_1308 : decode cL_law 1308 = .ok (.aload_n 0, 1) := by decide +kernel
theorem dl_1309 : decode cL_law 1309 = .ok (.iload 4, 2) := by decide +kernel
theorem dl_1311 : decode cL_law 1311 = .ok (.iconst 1, 1) := by decide +kernel
theorem dl_1312 : decode cL_law 1312 = .ok (.iadd, 1) := by decide +kernel
theorem dl_1313 : decode cL_law 1313 = .ok (.iaload, 1) := by decide +kernel
theorem dl_1314 : decode cL_law 1314 = .ok (.aload_n 0, 1) := by decide +kernel
theorem dl_1315 : decode cL_law 1315 = .ok (.iload 4, 2) := by decide +kernel
theorem dl_1317 : decode cL_law 1317 = .ok (.iconst 2, 1) := by decide +kernel
theorem dl_1318 : decode cL_law 1318 = .ok (.iadd, 1) := by decide +kernel
theorem dl_1319 : decode cL_law 1319 = .ok (.iaload, 1) := by decide +kernel
theorem dl_1320 : decode cL_law 1320 = .ok (.invokestatic 226, 3) := by decide +kernel
theorem dl_1323 : decode cL_law 1323 = .ok (.istore 5, 2) := by decide +kernel
theorem dl_1325 : decode cL_law 1325 = .ok (.aload_n 2, 1) := by decide +kernel
theorem dl_1326 : decode cL_law 1326 = .ok (.aload_n 0, 1) := by decide +kernel
theorem dl_1327 : decode cL_law 1327 = .ok (.iload 4, 2) := by decide +kernel
theorem dl_1329 : decode cL_law 1329 = .ok (.iconst 1, 1) := by decide +kernel
theorem dl_1330 : decode cL_law 1330 = .ok (.iadd, 1) := by decide +kernel
theorem dl_1331 : decode cL_law 1331 = .ok (.iaload, 1) := by decide +kernel
theorem dl_1332 : decode cL_law 1332 = .ok (.aload_n 0, 1) := by decide +kernel
theorem dl_1333 : decode cL_law 1333 = .ok (.iload 4, 2) := by decide +kernel
theorem dl_1335 : decode cL_law 1335 = .ok (.iconst 2, 1) := by decide +kernel
theorem dl_1336 : decode cL_law 1336 = .ok (.iadd, 1) := by decide +kernel
theorem dl_1337 : decode cL_law 1337 = .ok (.iaload, 1) := by decide +kernel
theorem dl_1338 : decode cL_law 1338 = .ok (.invokevirtual 228, 3) := by decide +kernel
theorem dl_1341 : decode cL_law 1341 = .ok (.aload_n 2, 1) := by decide +kernel
theorem dl_1342 : decode cL_law 1342 = .ok (.invokevirtual 172, 3) := by decide +kernel
theorem dl_1345 : decode cL_law 1345 = .ok (.iload 5, 2) := by decide +kernel
theorem dl_1347 : decode cL_law 1347 = .ok (.if_icmp .eq 5, 3) := by decide +kernel
theorem dl_1350 : decode cL_law 1350 = .ok (.iconst 0, 1) := by decide +kernel
theorem dl_1351 : decode cL_law 1351 = .ok (.ireturn, 1) := by decide +kernel
theorem dl_1352 : decode cL_law 1352 = .ok (.goto 1896, 3) := by decide +kernel
set_option maxRecDepth 100000 in
set_option maxHeartbeats 4000000 in
theorem lk_refuse {p : Program} {l : Launch} {e : Env} {s : State} {m : MethodId} {args : Array Value} {below : List Frame} {meth : Method} {c : Code} {k : KC} {A : Nat → Prop} {Q : State → Prop} {bc1 bs1 b0 Ln b ao mo i : Nat} {xs : Nat → Int32} {ad : Nat → Nat} {f : Nat → Int64} {X : CX} {S : CT} {M : MS} {rt9 : Option FieldType} (hl : l.stackTraces = false) (G : GX p l room_1 s m args meth c k A RL cL_law 8 rt9) (hX : va_X b0 Ln xs s s.heap) (hbl : b0 < s.heap.size) (hbA : ¬ A b0) (hH : HM mo ad) (hi : i + 8 ≤ Ln) (hL : Ln ≤ 4096) (h : LV9 k b X S ao f mo ad M) (hend : ∀ X2 S2 M2 f2, LV9 k b X2 S2 ao f2 mo ad M2 → Wx p l e room_1 s m args below meth c k A 8 Q bc1 bs1 3248 [some (.ref b0), some (.ref b), some (.ref mo), some (.ref ao), some (.int (nI i)), none, none, none] [] (WL k X2 S2 ao f2 mo ad M2)) : Wx p l e room_1 s m args below meth c k A 8 Q (bc1 + 1) (bs1 + 6) 1307 [some (.ref b0), some (.ref b), some (.ref mo), some (.ref ao), some (.int (nI i)), none, none, none] [] (WL k X S ao f mo ad M) := by
  obtain ⟨hI, hb, hd1, hd2⟩ := h
  obtain ⟨hbm, fs, hbf⟩ := cw11 (k := k) (S := S) hI.1 hb
  have hvr := vr11 hb
  have hx1 : vp_in (nI i + 1) Ln := ix_in (j := 1) rfl (by omega) hL
  have hx2 : vp_in (nI i + 2) Ln := ix_in (j := 2) rfl (by omega) hL
  unfold WL
  refine x_aload1 (pc := 1307) G dl_1307 ?_
  refine x_aload0 (pc := 1308) G dl_1308 ?_
  refine x_iload4 (pc := 1309) G dl_1309 ?_
  refine x_iconst (pc := 1311) (v := 1) G dl_1311 (by decide) ?_
  refine x_iadd (pc := 1312) G dl_1312 ?_
  refine x_sld (pc := 1313) G hX hbl hbA hx1 dl_1313 ?_
  refine x_aload0 (pc := 1314) G dl_1314 ?_
  refine x_iload4 (pc := 1315) G dl_1315 ?_
  refine x_iconst (pc := 1317) (v := 2) G dl_1317 (by decide) ?_
  refine x_iadd (pc := 1318) G dl_1318 ?_
  refine x_sld (pc := 1319) G hX hbl hbA hx2 dl_1319 ?_
  have hC := kc_refuse (k := k) hl hI (p1 := (xs (nI i + 1).toNatClampNeg)) (p2 := (xs (nI i + 2).toNatClampNeg))
  rw [hvr] at hC
  have hst := fun {o : Out} {w : Wd} => so_refuse (k := k) (o := o) (w := w) (p1 := (xs (nI i + 1).toNatClampNeg)) (p2 := (xs (nI i + 2).toNatClampNeg)) hI
  have hh := ch_refuse hl hbm hbf hC (fun o w hp => by
    obtain ⟨_, _, _, _, _, ⟨ho, _⟩ | ⟨E, he, _, hc⟩⟩ := hst hp
    · exact Or.inl ho
    · exact Or.inr ⟨E, he, hc⟩)
  have hh := MI.frame hh hd1
  have hh := MI.frame hh hd2
  refine x_callSW (pc := 1320) (bc1 := bc1) (bs1 := bs1) (n := 3) (As := [.ref b, .int (xs (nI i + 1).toNatClampNeg), .int (xs (nI i + 2).toNatClampNeg)]) G hh q_ml_L_226 q_st_yL_refuse q_in_L q_cw_refuse ⟨by decide, by decide, by decide +kernel⟩ ⟨Nat.le_of_ble_eq_true rfl, Nat.le_of_ble_eq_true rfl⟩ (Nat.zero_le _) (Nat.le_refl _) (Nat.le_refl _) rfl rfl dl_1320 (fun v w9 hp => ?_)
  obtain ⟨X2, S2, f2, kc, rfl, hL2, hv, hk, hz⟩ : ∃ X2 S2 f2 kc, w9 = wu (wu (cW k X2 S2) (oW k ao f2)) (mW k mo ad M) ∧ LV9 k b X2 S2 ao f2 mo ad (f_refuse (xs (nI i + 1).toNatClampNeg) (xs (nI i + 2).toNatClampNeg) M) ∧ v = some (.int kc) ∧ mI (f_refuse (xs (nI i + 1).toNatClampNeg) (xs (nI i + 2).toNatClampNeg) M) 0 = kc ∧ (kc = 0 → True) := by
    obtain ⟨h9, ⟨h8, ⟨w1, rfl, hpp⟩, hd1', rfl⟩, hd2', rfl⟩ := hp
    rcases hpp with ⟨hp1, hv⟩ | ⟨E, hp1, hv⟩
    · obtain ⟨X2, S2, rfl, hI2, hb2, ⟨ho, h0⟩ | ⟨E, he, _, _⟩⟩ := hst hp1
      · exact ⟨X2, S2, _, 0, rfl, ⟨hI2, hb2.trans hb, hd1', hd2'⟩, Sum.inl.inj hv, h0, fun _ => trivial⟩
      · cases he
    · obtain ⟨X2, S2, rfl, hI2, hb2, ⟨ho, h0⟩ | ⟨E2, he, h0, hc⟩⟩ := hst hp1
      · cases ho
      · cases he
        refine ⟨X2, S2, _, _, rfl, ⟨hI2, hb2.trans hb, hd1', hd2'⟩, Sum.inl.inj hv, h0, fun z => ?_⟩
        rcases hc with rfl | rfl <;> exact absurd z (by decide)
  subst hv
  obtain ⟨hI2, hb2, hd1', hd2'⟩ := id hL2
  refine x_istore5 (pc := 1323) G dl_1323 (by decide) rfl ?_
  refine x_aload2 (pc := 1325) G dl_1325 ?_
  refine x_aload0 (pc := 1326) G dl_1326 ?_
  refine x_iload4 (pc := 1327) G dl_1327 ?_
  refine x_iconst (pc := 1329) (v := 1) G dl_1329 (by decide) ?_
  refine x_iadd (pc := 1330) G dl_1330 ?_
  refine x_sld (pc := 1331) G hX hbl hbA hx1 dl_1331 ?_
  refine x_aload0 (pc := 1332) G dl_1332 ?_
  refine x_iload4 (pc := 1333) G dl_1333 ?_
  refine x_iconst (pc := 1335) (v := 2) G dl_1335 (by decide) ?_
  refine x_iadd (pc := 1336) G dl_1336 ?_
  refine x_sld (pc := 1337) G hX hbl hbA hx2 dl_1337 ?_
  have hr := rc_refuse (k := k) hl hH hI.2.2.2 (p1 := (xs (nI i + 1).toNatClampNeg)) (p2 := (xs (nI i + 2).toNatClampNeg))
  refine Wx_perm hd2' ?_
  refine x_callV (pc := 1338) (bc1 := bc1) (bs1 := bs1) (n := 2) (As := [.int (xs (nI i + 1).toNatClampNeg), .int (xs (nI i + 2).toNatClampNeg)]) G (hr.frame (fun a ha z => hd2' a z ha)) (List.mem_append_left _ mW_mo.1) ((if_pos mW_mo.1).trans mW_mo.2) (show vwCl[12]? = some (_, _, _) from rfl) q_ml_L_228 q_im_yX11_refuse q_se_yX11_refuse q_in_X11 q_co_yX11_refuse ⟨by decide, by decide, by decide +kernel⟩ ⟨Nat.le_of_ble_eq_true rfl, Nat.le_of_ble_eq_true rfl⟩ (Nat.zero_le _) (Nat.le_refl _) (Nat.le_refl _) rfl rfl dl_1338 (fun v w9 hp => ?_) (fun E w9 hp => by obtain ⟨_, hq, _⟩ := hp; cases hq.1)
  obtain ⟨h9, ⟨hv, rfl⟩, _, rfl⟩ := hp
  have hv := Sum.inl.inj hv
  subst hv
  refine Wx_perm (fun a ha z => hd2' a z ha) ?_
  refine x_aload2 (pc := 1341) G dl_1341 ?_
  refine Wx_perm hd2' ?_
  refine x_callV (pc := 1342) (bc1 := bc1) (bs1 := bs1) (n := 0) (As := []) G ((c_thrown (k := k) (M := (f_refuse (xs (nI i + 1).toNatClampNeg) (xs (nI i + 2).toNatClampNeg) M)) hl hH).frame (fun a ha z => hd2' a z ha)) (List.mem_append_left _ mW_mo.1) ((if_pos mW_mo.1).trans mW_mo.2) (show vwCl[12]? = some (_, _, _) from rfl) q_ml_L_172 q_im_yX11_thrown q_se_yX11_thrown q_in_X11 q_co_yX11_thrown ⟨by decide, by decide, by decide +kernel⟩ ⟨Nat.le_of_ble_eq_true rfl, Nat.le_of_ble_eq_true rfl⟩ (Nat.zero_le _) (Nat.le_refl _) (Nat.le_refl _) rfl rfl dl_1342 (fun v w9 hp => ?_) (fun E w9 hp => by obtain ⟨_, hq, _⟩ := hp; cases hq.1)
  obtain ⟨h9, ⟨hv, rfl⟩, _, rfl⟩ := hp
  have hv := Sum.inl.inj hv
  subst hv
  refine Wx_perm (fun a ha z => hd2' a z ha) ?_
  refine x_iload5 (pc := 1345) G dl_1345 ?_
  refine x_icmp_eq (pc := 1347) (tgt := 1352) G dl_1347 rfl (fun _ => ?_) (fun z9 => absurd hk z9)
  refine x_goto (pc := 1352) (tgt := 3248) G dl_1352 rfl ?_
  exact Wx_l8 (hend X2 S2 _ f2 hL2)
theorem dl_1355 : decode cL_law 1355 = .ok (.aload_n 1, 1) := by decide +kernel
theorem dl_1356 : decode cL_law 1356 = .ok (.aload_n 0, 1) := by decide +kernel
theorem dl_1357 : decode cL_law 1357 = .ok (.iload 4, 2) := by decide +kernel
theorem dl_1359 : decode cL_law 1359 = .ok (.iconst 1, 1) := by decide +kernel
theorem dl_1360 : decode cL_law 1360 = .ok (.iadd, 1) := by decide +kernel
theorem dl_1361 : decode cL_law 1361 = .ok (.iaload, 1) := by decide +kernel
theorem dl_1362 : decode cL_law 1362 = .ok (.aload_n 0, 1) := by decide +kernel
theorem dl_1363 : decode cL_law 1363 = .ok (.iload 4, 2) := by decide +kernel
theorem dl_1365 : decode cL_law 1365 = .ok (.iconst 2, 1) := by decide +kernel
theorem dl_1366 : decode cL_law 1366 = .ok (.iadd, 1) := by decide +kernel
theorem dl_1367 : decode cL_law 1367 = .ok (.iaload, 1) := by decide +kernel
theorem dl_1368 : decode cL_law 1368 = .ok (.aload_n 0, 1) := by decide +kernel
theorem dl_1369 : decode cL_law 1369 = .ok (.iload 4, 2) := by decide +kernel
theorem dl_1371 : decode cL_law 1371 = .ok (.iconst 3, 1) := by decide +kernel
theorem dl_1372 : decode cL_law 1372 = .ok (.iadd, 1) := by decide +kernel
theorem dl_1373 : decode cL_law 1373 = .ok (.iaload, 1) := by decide +kernel
theorem dl_1374 : decode cL_law 1374 = .ok (.aload_n 3, 1) := by decide +kernel
theorem dl_1375 : decode cL_law 1375 = .ok (.invokestatic 229, 3) := by decide +kernel
theorem dl_1378 : decode cL_law 1378 = .ok (.istore 5, 2) := by decide +kernel
theorem dl_1380 : decode cL_law 1380 = .ok (.aload_n 2, 1) := by decide +kernel
theorem dl_1381 : decode cL_law 1381 = .ok (.aload_n 0, 1) := by decide +kernel
theorem dl_1382 : decode cL_law 1382 = .ok (.iload 4, 2) := by decide +kernel
theorem dl_1384 : decode cL_law 1384 = .ok (.iconst 1, 1) := by decide +kernel
theorem dl_1385 : decode cL_law 1385 = .ok (.iadd, 1) := by decide +kernel
theorem dl_1386 : decode cL_law 1386 = .ok (.iaload, 1) := by decide +kernel
theorem dl_1387 : decode cL_law 1387 = .ok (.aload_n 0, 1) := by decide +kernel
theorem dl_1388 : decode cL_law 1388 = .ok (.iload 4, 2) := by decide +kernel
theorem dl_1390 : decode cL_law 1390 = .ok (.iconst 2, 1) := by decide +kernel
theorem dl_1391 : decode cL_law 1391 = .ok (.iadd, 1) := by decide +kernel
theorem dl_1392 : decode cL_law 1392 = .ok (.iaload, 1) := by decide +kernel
theorem dl_1393 : decode cL_law 1393 = .ok (.aload_n 0, 1) := by decide +kernel
theorem dl_1394 : decode cL_law 1394 = .ok (.iload 4, 2) := by decide +kernel
theorem dl_1396 : decode cL_law 1396 = .ok (.iconst 3, 1) := by decide +kernel
theorem dl_1397 : decode cL_law 1397 = .ok (.iadd, 1) := by decide +kernel
theorem dl_1398 : decode cL_law 1398 = .ok (.iaload, 1) := by decide +kernel
theorem dl_1399 : decode cL_law 1399 = .ok (.invokevirtual 231, 3) := by decide +kernel
theorem dl_1402 : decode cL_law 1402 = .ok (.istore 6, 2) := by decide +kernel
theorem dl_1404 : decode cL_law 1404 = .ok (.aload_n 2, 1) := by decide +kernel
theorem dl_1405 : decode cL_law 1405 = .ok (.invokevirtual 172, 3) := by decide +kernel
theorem dl_1408 : decode cL_law 1408 = .ok (.iload 5, 2) := by decide +kernel
theorem dl_1410 : decode cL_law 1410 = .ok (.if_icmp .eq 5, 3) := by decide +kernel
theorem dl_1413 : decode cL_law 1413 = .ok (.iconst 0, 1) := by decide +kernel
theorem dl_1414 : decode cL_law 1414 = .ok (.ireturn, 1) := by decide +kernel
theorem dl_1415 : decode cL_law 1415 = .ok (.iload 5, 2) := by decide +kernel
theorem dl_1417 : decode cL_law 1417 = .ok (.ifCond .ne 15, 3) := by decide +kernel
theorem dl_1420 : decode cL_law 1420 = .ok (.aload_n 3, 1) := by decide +kernel
theorem dl_1421 : decode cL_law 1421 = .ok (.iconst 0, 1) := by decide +kernel
theorem dl_1422 : decode cL_law 1422 = .ok (.laload, 1) := by decide +kernel
theorem dl_1423 : decode cL_law 1423 = .ok (.iload 6, 2) := by decide +kernel
theorem dl_1425 : decode cL_law 1425 = .ok (.i2l, 1) := by decide +kernel
theorem dl_1426 : decode cL_law 1426 = .ok (.lcmp, 1) := by decide +kernel
theorem dl_1427 : decode cL_law 1427 = .ok (.ifCond .eq 5, 3) := by decide +kernel
theorem dl_1430 : decode cL_law 1430 = .ok (.iconst 0, 1) := by decide +kernel
theorem dl_1431 : decode cL_law 1431 = .ok (.ireturn, 1) := by decide +kernel
theorem dl_1432 : decode cL_law 1432 = .ok (.goto 1816, 3) := by decide +kernel
set_option maxRecDepth 100000 in
set_option maxHeartbeats 4000000 in
theorem lk_edit {p : Program} {l : Launch} {e : Env} {s : State} {m : MethodId} {args : Array Value} {below : List Frame} {meth : Method} {c : Code} {k : KC} {A : Nat → Prop} {Q : State → Prop} {bc1 bs1 b0 Ln b ao mo i : Nat} {xs : Nat → Int32} {ad : Nat → Nat} {f : Nat → Int64} {X : CX} {S : CT} {M : MS} {rt9 : Option FieldType} (hl : l.stackTraces = false) (G : GX p l room_1 s m args meth c k A RL cL_law 8 rt9) (hX : va_X b0 Ln xs s s.heap) (hbl : b0 < s.heap.size) (hbA : ¬ A b0) (hH : HM mo ad) (hi : i + 8 ≤ Ln) (hL : Ln ≤ 4096) (h : LV9 k b X S ao f mo ad M) (hend : ∀ X2 S2 M2 f2, LV9 k b X2 S2 ao f2 mo ad M2 → Wx p l e room_1 s m args below meth c k A 8 Q bc1 bs1 3248 [some (.ref b0), some (.ref b), some (.ref mo), some (.ref ao), some (.int (nI i)), none, none, none] [] (WL k X2 S2 ao f2 mo ad M2)) : Wx p l e room_1 s m args below meth c k A 8 Q (bc1 + 1) (bs1 + 6) 1355 [some (.ref b0), some (.ref b), some (.ref mo), some (.ref ao), some (.int (nI i)), none, none, none] [] (WL k X S ao f mo ad M) := by
  obtain ⟨hI, hb, hd1, hd2⟩ := h
  obtain ⟨hbm, fs, hbf⟩ := cw11 (k := k) (S := S) hI.1 hb
  have hvr := vr11 hb
  have hx1 : vp_in (nI i + 1) Ln := ix_in (j := 1) rfl (by omega) hL
  have hx2 : vp_in (nI i + 2) Ln := ix_in (j := 2) rfl (by omega) hL
  have hx3 : vp_in (nI i + 3) Ln := ix_in (j := 3) rfl (by omega) hL
  unfold WL
  refine x_aload1 (pc := 1355) G dl_1355 ?_
  refine x_aload0 (pc := 1356) G dl_1356 ?_
  refine x_iload4 (pc := 1357) G dl_1357 ?_
  refine x_iconst (pc := 1359) (v := 1) G dl_1359 (by decide) ?_
  refine x_iadd (pc := 1360) G dl_1360 ?_
  refine x_sld (pc := 1361) G hX hbl hbA hx1 dl_1361 ?_
  refine x_aload0 (pc := 1362) G dl_1362 ?_
  refine x_iload4 (pc := 1363) G dl_1363 ?_
  refine x_iconst (pc := 1365) (v := 2) G dl_1365 (by decide) ?_
  refine x_iadd (pc := 1366) G dl_1366 ?_
  refine x_sld (pc := 1367) G hX hbl hbA hx2 dl_1367 ?_
  refine x_aload0 (pc := 1368) G dl_1368 ?_
  refine x_iload4 (pc := 1369) G dl_1369 ?_
  refine x_iconst (pc := 1371) (v := 3) G dl_1371 (by decide) ?_
  refine x_iadd (pc := 1372) G dl_1372 ?_
  refine x_sld (pc := 1373) G hX hbl hbA hx3 dl_1373 ?_
  refine x_aload3 (pc := 1374) G dl_1374 ?_
  have hC := kc_edit (k := k) hl hI (p1 := (xs (nI i + 1).toNatClampNeg)) (p2 := (xs (nI i + 2).toNatClampNeg)) (p3 := (xs (nI i + 3).toNatClampNeg))
  rw [hvr] at hC
  have hst := fun {o : Out} {w : Wd} => so_edit (k := k) (o := o) (w := w) (p1 := (xs (nI i + 1).toNatClampNeg)) (p2 := (xs (nI i + 2).toNatClampNeg)) (p3 := (xs (nI i + 3).toNatClampNeg)) hI
  have hh := ch_edit hl hbm hbf hd1 hC (fun o w hp => by
    obtain ⟨_, _, _, _, _, ⟨ho, _⟩ | ⟨E, he, _, hc⟩⟩ := hst hp
    · exact Or.inl ⟨_, ho⟩
    · exact Or.inr ⟨E, he, hc⟩)
  have hh := MI.frame hh hd2
  refine x_callSW (pc := 1375) (bc1 := bc1) (bs1 := bs1) (n := 5) (As := [.ref b, .int (xs (nI i + 1).toNatClampNeg), .int (xs (nI i + 2).toNatClampNeg), .int (xs (nI i + 3).toNatClampNeg), .ref ao]) G hh q_ml_L_229 q_st_yL_edit q_in_L q_cw_edit ⟨by decide, by decide, by decide +kernel⟩ ⟨Nat.le_of_ble_eq_true rfl, Nat.le_of_ble_eq_true rfl⟩ (Nat.zero_le _) (Nat.le_refl _) (Nat.le_refl _) rfl rfl dl_1375 (fun v w9 hp => ?_)
  obtain ⟨X2, S2, f2, kc, rfl, hL2, hv, hk, hz⟩ : ∃ X2 S2 f2 kc, w9 = wu (wu (cW k X2 S2) (oW k ao f2)) (mW k mo ad M) ∧ LV9 k b X2 S2 ao f2 mo ad (f_edit (xs (nI i + 1).toNatClampNeg) (xs (nI i + 2).toNatClampNeg) (xs (nI i + 3).toNatClampNeg) M).2 ∧ v = some (.int kc) ∧ mI (f_edit (xs (nI i + 1).toNatClampNeg) (xs (nI i + 2).toNatClampNeg) (xs (nI i + 3).toNatClampNeg) M).2 0 = kc ∧ (kc = 0 → f2 0 = (f_edit (xs (nI i + 1).toNatClampNeg) (xs (nI i + 2).toNatClampNeg) (xs (nI i + 3).toNatClampNeg) M).1.toInt64) := by
    obtain ⟨h9, ⟨w1, f1, rfl, hd1', hpp⟩, hd2', rfl⟩ := hp
    rcases hpp with ⟨r, hp1, hv, hf⟩ | ⟨E, hp1, hv⟩
    · obtain ⟨X2, S2, rfl, hI2, hb2, ⟨ho, h0⟩ | ⟨E, he, _, _⟩⟩ := hst hp1
      · have e9 := Sum.inl.inj ho
        cases e9
        exact ⟨X2, S2, _, 0, rfl, ⟨hI2, hb2.trans hb, hd1', hd2'⟩, Sum.inl.inj hv, h0, fun _ => hf⟩
      · cases he
    · obtain ⟨X2, S2, rfl, hI2, hb2, ⟨ho, h0⟩ | ⟨E2, he, h0, hc⟩⟩ := hst hp1
      · cases ho
      · cases he
        refine ⟨X2, S2, _, _, rfl, ⟨hI2, hb2.trans hb, hd1', hd2'⟩, Sum.inl.inj hv, h0, fun z => ?_⟩
        rcases hc with rfl | rfl | rfl <;> exact absurd z (by decide)
  subst hv
  obtain ⟨hI2, hb2, hd1', hd2'⟩ := id hL2
  refine x_istore5 (pc := 1378) G dl_1378 (by decide) rfl ?_
  refine x_aload2 (pc := 1380) G dl_1380 ?_
  refine x_aload0 (pc := 1381) G dl_1381 ?_
  refine x_iload4 (pc := 1382) G dl_1382 ?_
  refine x_iconst (pc := 1384) (v := 1) G dl_1384 (by decide) ?_
  refine x_iadd (pc := 1385) G dl_1385 ?_
  refine x_sld (pc := 1386) G hX hbl hbA hx1 dl_1386 ?_
  refine x_aload0 (pc := 1387) G dl_1387 ?_
  refine x_iload4 (pc := 1388) G dl_1388 ?_
  refine x_iconst (pc := 1390) (v := 2) G dl_1390 (by decide) ?_
  refine x_iadd (pc := 1391) G dl_1391 ?_
  refine x_sld (pc := 1392) G hX hbl hbA hx2 dl_1392 ?_
  refine x_aload0 (pc := 1393) G dl_1393 ?_
  refine x_iload4 (pc := 1394) G dl_1394 ?_
  refine x_iconst (pc := 1396) (v := 3) G dl_1396 (by decide) ?_
  refine x_iadd (pc := 1397) G dl_1397 ?_
  refine x_sld (pc := 1398) G hX hbl hbA hx3 dl_1398 ?_
  have hr := rc_edit (k := k) hl hH hI.2.2.2 (p1 := (xs (nI i + 1).toNatClampNeg)) (p2 := (xs (nI i + 2).toNatClampNeg)) (p3 := (xs (nI i + 3).toNatClampNeg))
  refine Wx_perm hd2' ?_
  refine x_callV (pc := 1399) (bc1 := bc1) (bs1 := bs1) (n := 3) (As := [.int (xs (nI i + 1).toNatClampNeg), .int (xs (nI i + 2).toNatClampNeg), .int (xs (nI i + 3).toNatClampNeg)]) G (hr.frame (fun a ha z => hd2' a z ha)) (List.mem_append_left _ mW_mo.1) ((if_pos mW_mo.1).trans mW_mo.2) (show vwCl[12]? = some (_, _, _) from rfl) q_ml_L_231 q_im_yX11_edit q_se_yX11_edit q_in_X11 q_co_yX11_edit ⟨by decide, by decide, by decide +kernel⟩ ⟨Nat.le_of_ble_eq_true rfl, Nat.le_of_ble_eq_true rfl⟩ (Nat.zero_le _) (Nat.le_refl _) (Nat.le_refl _) rfl rfl dl_1399 (fun v w9 hp => ?_) (fun E w9 hp => by obtain ⟨_, hq, _⟩ := hp; cases hq.1)
  obtain ⟨h9, ⟨hv, rfl⟩, _, rfl⟩ := hp
  have hv := Sum.inl.inj hv
  subst hv
  refine Wx_perm (fun a ha z => hd2' a z ha) ?_
  refine x_istore6 (pc := 1402) G dl_1402 (by decide) rfl ?_
  refine x_aload2 (pc := 1404) G dl_1404 ?_
  refine Wx_perm hd2' ?_
  refine x_callV (pc := 1405) (bc1 := bc1) (bs1 := bs1) (n := 0) (As := []) G ((c_thrown (k := k) (M := (f_edit (xs (nI i + 1).toNatClampNeg) (xs (nI i + 2).toNatClampNeg) (xs (nI i + 3).toNatClampNeg) M).2) hl hH).frame (fun a ha z => hd2' a z ha)) (List.mem_append_left _ mW_mo.1) ((if_pos mW_mo.1).trans mW_mo.2) (show vwCl[12]? = some (_, _, _) from rfl) q_ml_L_172 q_im_yX11_thrown q_se_yX11_thrown q_in_X11 q_co_yX11_thrown ⟨by decide, by decide, by decide +kernel⟩ ⟨Nat.le_of_ble_eq_true rfl, Nat.le_of_ble_eq_true rfl⟩ (Nat.zero_le _) (Nat.le_refl _) (Nat.le_refl _) rfl rfl dl_1405 (fun v w9 hp => ?_) (fun E w9 hp => by obtain ⟨_, hq, _⟩ := hp; cases hq.1)
  obtain ⟨h9, ⟨hv, rfl⟩, _, rfl⟩ := hp
  have hv := Sum.inl.inj hv
  subst hv
  refine Wx_perm (fun a ha z => hd2' a z ha) ?_
  refine x_iload5 (pc := 1408) G dl_1408 ?_
  refine x_icmp_eq (pc := 1410) (tgt := 1415) G dl_1410 rfl (fun _ => ?_) (fun z9 => absurd hk z9)
  refine x_iload5 (pc := 1415) G dl_1415 ?_
  refine x_if_ne (pc := 1417) (tgt := 1432) (y := 0) G dl_1417 rfl (fun _ => ?_) (fun z9 => ?_)
  · skip
    refine x_goto (pc := 1432) (tgt := 3248) G dl_1432 rfl ?_
    exact Wx_l8 (hend X2 S2 _ f2 hL2)
  · have hf := hz z9
    refine x_aload3 (pc := 1420) G dl_1420 ?_
    refine x_iconst (pc := 1421) (v := 0) G dl_1421 (by decide) ?_
    refine x_old (pc := 1422) G hd1' dl_1422 ?_
    refine x_iload6 (pc := 1423) G dl_1423 ?_
    refine x_i2l (pc := 1425) G dl_1425 ?_
    refine x_lcmp (pc := 1426) G dl_1426 ?_
    refine x_if_eq (pc := 1427) (tgt := 1432) (y := 0) G dl_1427 rfl (fun _ => ?_) (fun z8 => absurd (lg_same hf) z8)
    refine x_goto (pc := 1432) (tgt := 3248) G dl_1432 rfl ?_
    exact Wx_l8 (hend X2 S2 _ f2 hL2)
theorem dl_1435 : decode cL_law 1435 = .ok (.aload_n 1, 1) := by decide +kernel
theorem dl_1436 : decode cL_law 1436 = .ok (.aload_n 0, 1) := by decide +kernel
theorem dl_1437 : decode cL_law 1437 = .ok (.iload 4, 2) := by decide +kernel
theorem dl_1439 : decode cL_law 1439 = .ok (.iconst 1, 1) := by decide +kernel
theorem dl_1440 : decode cL_law 1440 = .ok (.iadd, 1) := by decide +kernel
theorem dl_1441 : decode cL_law 1441 = .ok (.iaload, 1) := by decide +kernel
theorem dl_1442 : decode cL_law 1442 = .ok (.aload_n 0, 1) := by decide +kernel
theorem dl_1443 : decode cL_law 1443 = .ok (.iload 4, 2) := by decide +kernel
theorem dl_1445 : decode cL_law 1445 = .ok (.iconst 2, 1) := by decide +kernel
theorem dl_1446 : decode cL_law 1446 = .ok (.iadd, 1) := by decide +kernel
theorem dl_1447 : decode cL_law 1447 = .ok (.iaload, 1) := by decide +kernel
theorem dl_1448 : decode cL_law 1448 = .ok (.invokestatic 232, 3) := by decide +kernel
theorem dl_1451 : decode cL_law 1451 = .ok (.istore 5, 2) := by decide +kernel
theorem dl_1453 : decode cL_law 1453 = .ok (.aload_n 2, 1) := by decide +kernel
theorem dl_1454 : decode cL_law 1454 = .ok (.aload_n 0, 1) := by decide +kernel
theorem dl_1455 : decode cL_law 1455 = .ok (.iload 4, 2) := by decide +kernel
theorem dl_1457 : decode cL_law 1457 = .ok (.iconst 1, 1) := by decide +kernel
theorem dl_1458 : decode cL_law 1458 = .ok (.iadd, 1) := by decide +kernel
theorem dl_1459 : decode cL_law 1459 = .ok (.iaload, 1) := by decide +kernel
theorem dl_1460 : decode cL_law 1460 = .ok (.aload_n 0, 1) := by decide +kernel
theorem dl_1461 : decode cL_law 1461 = .ok (.iload 4, 2) := by decide +kernel
theorem dl_1463 : decode cL_law 1463 = .ok (.iconst 2, 1) := by decide +kernel
theorem dl_1464 : decode cL_law 1464 = .ok (.iadd, 1) := by decide +kernel
theorem dl_1465 : decode cL_law 1465 = .ok (.iaload, 1) := by decide +kernel
theorem dl_1466 : decode cL_law 1466 = .ok (.invokevirtual 234, 3) := by decide +kernel
theorem dl_1469 : decode cL_law 1469 = .ok (.aload_n 2, 1) := by decide +kernel
theorem dl_1470 : decode cL_law 1470 = .ok (.invokevirtual 172, 3) := by decide +kernel
theorem dl_1473 : decode cL_law 1473 = .ok (.iload 5, 2) := by decide +kernel
theorem dl_1475 : decode cL_law 1475 = .ok (.if_icmp .eq 5, 3) := by decide +kernel
theorem dl_1478 : decode cL_law 1478 = .ok (.iconst 0, 1) := by decide +kernel
theorem dl_1479 : decode cL_law 1479 = .ok (.ireturn, 1) := by decide +kernel
theorem dl_1480 : decode cL_law 1480 = .ok (.goto 1768, 3) := by decide +kernel
set_option maxRecDepth 100000 in
set_option maxHeartbeats 4000000 in
theorem lk_order {p : Program} {l : Launch} {e : Env} {s : State} {m : MethodId} {args : Array Value} {below : List Frame} {meth : Method} {c : Code} {k : KC} {A : Nat → Prop} {Q : State → Prop} {bc1 bs1 b0 Ln b ao mo i : Nat} {xs : Nat → Int32} {ad : Nat → Nat} {f : Nat → Int64} {X : CX} {S : CT} {M : MS} {rt9 : Option FieldType} (hl : l.stackTraces = false) (G : GX p l room_1 s m args meth c k A RL cL_law 8 rt9) (hX : va_X b0 Ln xs s s.heap) (hbl : b0 < s.heap.size) (hbA : ¬ A b0) (hH : HM mo ad) (hi : i + 8 ≤ Ln) (hL : Ln ≤ 4096) (h : LV9 k b X S ao f mo ad M) (hend : ∀ X2 S2 M2 f2, LV9 k b X2 S2 ao f2 mo ad M2 → Wx p l e room_1 s m args below meth c k A 8 Q bc1 bs1 3248 [some (.ref b0), some (.ref b), some (.ref mo), some (.ref ao), some (.int (nI i)), none, none, none] [] (WL k X2 S2 ao f2 mo ad M2)) : Wx p l e room_1 s m args below meth c k A 8 Q (bc1 + 1) (bs1 + 6) 1435 [some (.ref b0), some (.ref b), some (.ref mo), some (.ref ao), some (.int (nI i)), none, none, none] [] (WL k X S ao f mo ad M) := by
  obtain ⟨hI, hb, hd1, hd2⟩ := h
  obtain ⟨hbm, fs, hbf⟩ := cw11 (k := k) (S := S) hI.1 hb
  have hvr := vr11 hb
  have hx1 : vp_in (nI i + 1) Ln := ix_in (j := 1) rfl (by omega) hL
  have hx2 : vp_in (nI i + 2) Ln := ix_in (j := 2) rfl (by omega) hL
  unfold WL
  refine x_aload1 (pc := 1435) G dl_1435 ?_
  refine x_aload0 (pc := 1436) G dl_1436 ?_
  refine x_iload4 (pc := 1437) G dl_1437 ?_
  refine x_iconst (pc := 1439) (v := 1) G dl_1439 (by decide) ?_
  refine x_iadd (pc := 1440) G dl_1440 ?_
  refine x_sld (pc := 1441) G hX hbl hbA hx1 dl_1441 ?_
  refine x_aload0 (pc := 1442) G dl_1442 ?_
  refine x_iload4 (pc := 1443) G dl_1443 ?_
  refine x_iconst (pc := 1445) (v := 2) G dl_1445 (by decide) ?_
  refine x_iadd (pc := 1446) G dl_1446 ?_
  refine x_sld (pc := 1447) G hX hbl hbA hx2 dl_1447 ?_
  have hC := kc_order (k := k) hl hI (p1 := (xs (nI i + 1).toNatClampNeg)) (p2 := (xs (nI i + 2).toNatClampNeg))
  rw [hvr] at hC
  have hst := fun {o : Out} {w : Wd} => so_order (k := k) (o := o) (w := w) (p1 := (xs (nI i + 1).toNatClampNeg)) (p2 := (xs (nI i + 2).toNatClampNeg)) hI
  have hh := ch_order hl hbm hbf hC (fun o w hp => by
    obtain ⟨_, _, _, _, _, ⟨ho, _⟩ | ⟨E, he, _, hc⟩⟩ := hst hp
    · exact Or.inl ho
    · exact Or.inr ⟨E, he, hc⟩)
  have hh := MI.frame hh hd1
  have hh := MI.frame hh hd2
  refine x_callSW (pc := 1448) (bc1 := bc1) (bs1 := bs1) (n := 3) (As := [.ref b, .int (xs (nI i + 1).toNatClampNeg), .int (xs (nI i + 2).toNatClampNeg)]) G hh q_ml_L_232 q_st_yL_order q_in_L q_cw_order ⟨by decide, by decide, by decide +kernel⟩ ⟨Nat.le_of_ble_eq_true rfl, Nat.le_of_ble_eq_true rfl⟩ (Nat.zero_le _) (Nat.le_refl _) (Nat.le_refl _) rfl rfl dl_1448 (fun v w9 hp => ?_)
  obtain ⟨X2, S2, f2, kc, rfl, hL2, hv, hk, hz⟩ : ∃ X2 S2 f2 kc, w9 = wu (wu (cW k X2 S2) (oW k ao f2)) (mW k mo ad M) ∧ LV9 k b X2 S2 ao f2 mo ad (f_order (xs (nI i + 1).toNatClampNeg) (xs (nI i + 2).toNatClampNeg) M) ∧ v = some (.int kc) ∧ mI (f_order (xs (nI i + 1).toNatClampNeg) (xs (nI i + 2).toNatClampNeg) M) 0 = kc ∧ (kc = 0 → True) := by
    obtain ⟨h9, ⟨h8, ⟨w1, rfl, hpp⟩, hd1', rfl⟩, hd2', rfl⟩ := hp
    rcases hpp with ⟨hp1, hv⟩ | ⟨E, hp1, hv⟩
    · obtain ⟨X2, S2, rfl, hI2, hb2, ⟨ho, h0⟩ | ⟨E, he, _, _⟩⟩ := hst hp1
      · exact ⟨X2, S2, _, 0, rfl, ⟨hI2, hb2.trans hb, hd1', hd2'⟩, Sum.inl.inj hv, h0, fun _ => trivial⟩
      · cases he
    · obtain ⟨X2, S2, rfl, hI2, hb2, ⟨ho, h0⟩ | ⟨E2, he, h0, hc⟩⟩ := hst hp1
      · cases ho
      · cases he
        refine ⟨X2, S2, _, _, rfl, ⟨hI2, hb2.trans hb, hd1', hd2'⟩, Sum.inl.inj hv, h0, fun z => ?_⟩
        rcases hc with rfl | rfl <;> exact absurd z (by decide)
  subst hv
  obtain ⟨hI2, hb2, hd1', hd2'⟩ := id hL2
  refine x_istore5 (pc := 1451) G dl_1451 (by decide) rfl ?_
  refine x_aload2 (pc := 1453) G dl_1453 ?_
  refine x_aload0 (pc := 1454) G dl_1454 ?_
  refine x_iload4 (pc := 1455) G dl_1455 ?_
  refine x_iconst (pc := 1457) (v := 1) G dl_1457 (by decide) ?_
  refine x_iadd (pc := 1458) G dl_1458 ?_
  refine x_sld (pc := 1459) G hX hbl hbA hx1 dl_1459 ?_
  refine x_aload0 (pc := 1460) G dl_1460 ?_
  refine x_iload4 (pc := 1461) G dl_1461 ?_
  refine x_iconst (pc := 1463) (v := 2) G dl_1463 (by decide) ?_
  refine x_iadd (pc := 1464) G dl_1464 ?_
  refine x_sld (pc := 1465) G hX hbl hbA hx2 dl_1465 ?_
  have hr := rc_order (k := k) hl hH hI.2.2.2 (p1 := (xs (nI i + 1).toNatClampNeg)) (p2 := (xs (nI i + 2).toNatClampNeg))
  refine Wx_perm hd2' ?_
  refine x_callV (pc := 1466) (bc1 := bc1) (bs1 := bs1) (n := 2) (As := [.int (xs (nI i + 1).toNatClampNeg), .int (xs (nI i + 2).toNatClampNeg)]) G (hr.frame (fun a ha z => hd2' a z ha)) (List.mem_append_left _ mW_mo.1) ((if_pos mW_mo.1).trans mW_mo.2) (show vwCl[12]? = some (_, _, _) from rfl) q_ml_L_234 q_im_yX11_order q_se_yX11_order q_in_X11 q_co_yX11_order ⟨by decide, by decide, by decide +kernel⟩ ⟨Nat.le_of_ble_eq_true rfl, Nat.le_of_ble_eq_true rfl⟩ (Nat.zero_le _) (Nat.le_refl _) (Nat.le_refl _) rfl rfl dl_1466 (fun v w9 hp => ?_) (fun E w9 hp => by obtain ⟨_, hq, _⟩ := hp; cases hq.1)
  obtain ⟨h9, ⟨hv, rfl⟩, _, rfl⟩ := hp
  have hv := Sum.inl.inj hv
  subst hv
  refine Wx_perm (fun a ha z => hd2' a z ha) ?_
  refine x_aload2 (pc := 1469) G dl_1469 ?_
  refine Wx_perm hd2' ?_
  refine x_callV (pc := 1470) (bc1 := bc1) (bs1 := bs1) (n := 0) (As := []) G ((c_thrown (k := k) (M := (f_order (xs (nI i + 1).toNatClampNeg) (xs (nI i + 2).toNatClampNeg) M)) hl hH).frame (fun a ha z => hd2' a z ha)) (List.mem_append_left _ mW_mo.1) ((if_pos mW_mo.1).trans mW_mo.2) (show vwCl[12]? = some (_, _, _) from rfl) q_ml_L_172 q_im_yX11_thrown q_se_yX11_thrown q_in_X11 q_co_yX11_thrown ⟨by decide, by decide, by decide +kernel⟩ ⟨Nat.le_of_ble_eq_true rfl, Nat.le_of_ble_eq_true rfl⟩ (Nat.zero_le _) (Nat.le_refl _) (Nat.le_refl _) rfl rfl dl_1470 (fun v w9 hp => ?_) (fun E w9 hp => by obtain ⟨_, hq, _⟩ := hp; cases hq.1)
  obtain ⟨h9, ⟨hv, rfl⟩, _, rfl⟩ := hp
  have hv := Sum.inl.inj hv
  subst hv
  refine Wx_perm (fun a ha z => hd2' a z ha) ?_
  refine x_iload5 (pc := 1473) G dl_1473 ?_
  refine x_icmp_eq (pc := 1475) (tgt := 1480) G dl_1475 rfl (fun _ => ?_) (fun z9 => absurd hk z9)
  refine x_goto (pc := 1480) (tgt := 3248) G dl_1480 rfl ?_
  exact Wx_l8 (hend X2 S2 _ f2 hL2)
theorem dl_1483 : decode cL_law 1483 = .ok (.aload_n 1, 1) := by decide +kernel
theorem dl_1484 : decode cL_law 1484 = .ok (.aload_n 0, 1) := by decide +kernel
theorem dl_1485 : decode cL_law 1485 = .ok (.iload 4, 2) := by decide +kernel
theorem dl_1487 : decode cL_law 1487 = .ok (.iconst 1, 1) := by decide +kernel
theorem dl_1488 : decode cL_law 1488 = .ok (.iadd, 1) := by decide +kernel
theorem dl_1489 : decode cL_law 1489 = .ok (.iaload, 1) := by decide +kernel
theorem dl_1490 : decode cL_law 1490 = .ok (.aload_n 0, 1) := by decide +kernel
theorem dl_1491 : decode cL_law 1491 = .ok (.iload 4, 2) := by decide +kernel
theorem dl_1493 : decode cL_law 1493 = .ok (.iconst 2, 1) := by decide +kernel
theorem dl_1494 : decode cL_law 1494 = .ok (.iadd, 1) := by decide +kernel
theorem dl_1495 : decode cL_law 1495 = .ok (.iaload, 1) := by decide +kernel
theorem dl_1496 : decode cL_law 1496 = .ok (.aload_n 0, 1) := by decide +kernel
theorem dl_1497 : decode cL_law 1497 = .ok (.iload 4, 2) := by decide +kernel
theorem dl_1499 : decode cL_law 1499 = .ok (.iconst 3, 1) := by decide +kernel
theorem dl_1500 : decode cL_law 1500 = .ok (.iadd, 1) := by decide +kernel
theorem dl_1501 : decode cL_law 1501 = .ok (.iaload, 1) := by decide +kernel
theorem dl_1502 : decode cL_law 1502 = .ok (.aload_n 3, 1) := by decide +kernel
theorem dl_1503 : decode cL_law 1503 = .ok (.invokestatic 235, 3) := by decide +kernel
theorem dl_1506 : decode cL_law 1506 = .ok (.istore 5, 2) := by decide +kernel
theorem dl_1508 : decode cL_law 1508 = .ok (.aload_n 2, 1) := by decide +kernel
theorem dl_1509 : decode cL_law 1509 = .ok (.aload_n 0, 1) := by decide +kernel
theorem dl_1510 : decode cL_law 1510 = .ok (.iload 4, 2) := by decide +kernel
theorem dl_1512 : decode cL_law 1512 = .ok (.iconst 1, 1) := by decide +kernel
theorem dl_1513 : decode cL_law 1513 = .ok (.iadd, 1) := by decide +kernel
theorem dl_1514 : decode cL_law 1514 = .ok (.iaload, 1) := by decide +kernel
theorem dl_1515 : decode cL_law 1515 = .ok (.aload_n 0, 1) := by decide +kernel
theorem dl_1516 : decode cL_law 1516 = .ok (.iload 4, 2) := by decide +kernel
theorem dl_1518 : decode cL_law 1518 = .ok (.iconst 2, 1) := by decide +kernel
theorem dl_1519 : decode cL_law 1519 = .ok (.iadd, 1) := by decide +kernel
theorem dl_1520 : decode cL_law 1520 = .ok (.iaload, 1) := by decide +kernel
theorem dl_1521 : decode cL_law 1521 = .ok (.aload_n 0, 1) := by decide +kernel
theorem dl_1522 : decode cL_law 1522 = .ok (.iload 4, 2) := by decide +kernel
theorem dl_1524 : decode cL_law 1524 = .ok (.iconst 3, 1) := by decide +kernel
theorem dl_1525 : decode cL_law 1525 = .ok (.iadd, 1) := by decide +kernel
theorem dl_1526 : decode cL_law 1526 = .ok (.iaload, 1) := by decide +kernel
theorem dl_1527 : decode cL_law 1527 = .ok (.invokevirtual 237, 3) := by decide +kernel
theorem dl_1530 : decode cL_law 1530 = .ok (.istore 6, 2) := by decide +kernel
theorem dl_1532 : decode cL_law 1532 = .ok (.aload_n 2, 1) := by decide +kernel
theorem dl_1533 : decode cL_law 1533 = .ok (.invokevirtual 172, 3) := by decide +kernel
theorem dl_1536 : decode cL_law 1536 = .ok (.iload 5, 2) := by decide +kernel
theorem dl_1538 : decode cL_law 1538 = .ok (.if_icmp .eq 5, 3) := by decide +kernel
theorem dl_1541 : decode cL_law 1541 = .ok (.iconst 0, 1) := by decide +kernel
theorem dl_1542 : decode cL_law 1542 = .ok (.ireturn, 1) := by decide +kernel
theorem dl_1543 : decode cL_law 1543 = .ok (.iload 5, 2) := by decide +kernel
theorem dl_1545 : decode cL_law 1545 = .ok (.ifCond .ne 15, 3) := by decide +kernel
theorem dl_1548 : decode cL_law 1548 = .ok (.aload_n 3, 1) := by decide +kernel
theorem dl_1549 : decode cL_law 1549 = .ok (.iconst 0, 1) := by decide +kernel
theorem dl_1550 : decode cL_law 1550 = .ok (.laload, 1) := by decide +kernel
theorem dl_1551 : decode cL_law 1551 = .ok (.iload 6, 2) := by decide +kernel
theorem dl_1553 : decode cL_law 1553 = .ok (.i2l, 1) := by decide +kernel
theorem dl_1554 : decode cL_law 1554 = .ok (.lcmp, 1) := by decide +kernel
theorem dl_1555 : decode cL_law 1555 = .ok (.ifCond .eq 5, 3) := by decide +kernel
theorem dl_1558 : decode cL_law 1558 = .ok (.iconst 0, 1) := by decide +kernel
theorem dl_1559 : decode cL_law 1559 = .ok (.ireturn, 1) := by decide +kernel
theorem dl_1560 : decode cL_law 1560 = .ok (.goto 1688, 3) := by decide +kernel
set_option maxRecDepth 100000 in
set_option maxHeartbeats 4000000 in
theorem lk_receive {p : Program} {l : Launch} {e : Env} {s : State} {m : MethodId} {args : Array Value} {below : List Frame} {meth : Method} {c : Code} {k : KC} {A : Nat → Prop} {Q : State → Prop} {bc1 bs1 b0 Ln b ao mo i : Nat} {xs : Nat → Int32} {ad : Nat → Nat} {f : Nat → Int64} {X : CX} {S : CT} {M : MS} {rt9 : Option FieldType} (hl : l.stackTraces = false) (G : GX p l room_1 s m args meth c k A RL cL_law 8 rt9) (hX : va_X b0 Ln xs s s.heap) (hbl : b0 < s.heap.size) (hbA : ¬ A b0) (hH : HM mo ad) (hi : i + 8 ≤ Ln) (hL : Ln ≤ 4096) (h : LV9 k b X S ao f mo ad M) (hend : ∀ X2 S2 M2 f2, LV9 k b X2 S2 ao f2 mo ad M2 → Wx p l e room_1 s m args below meth c k A 8 Q bc1 bs1 3248 [some (.ref b0), some (.ref b), some (.ref mo), some (.ref ao), some (.int (nI i)), none, none, none] [] (WL k X2 S2 ao f2 mo ad M2)) : Wx p l e room_1 s m args below meth c k A 8 Q (bc1 + 1) (bs1 + 6) 1483 [some (.ref b0), some (.ref b), some (.ref mo), some (.ref ao), some (.int (nI i)), none, none, none] [] (WL k X S ao f mo ad M) := by
  obtain ⟨hI, hb, hd1, hd2⟩ := h
  obtain ⟨hbm, fs, hbf⟩ := cw11 (k := k) (S := S) hI.1 hb
  have hvr := vr11 hb
  have hx1 : vp_in (nI i + 1) Ln := ix_in (j := 1) rfl (by omega) hL
  have hx2 : vp_in (nI i + 2) Ln := ix_in (j := 2) rfl (by omega) hL
  have hx3 : vp_in (nI i + 3) Ln := ix_in (j := 3) rfl (by omega) hL
  unfold WL
  refine x_aload1 (pc := 1483) G dl_1483 ?_
  refine x_aload0 (pc := 1484) G dl_1484 ?_
  refine x_iload4 (pc := 1485) G dl_1485 ?_
  refine x_iconst (pc := 1487) (v := 1) G dl_1487 (by decide) ?_
  refine x_iadd (pc := 1488) G dl_1488 ?_
  refine x_sld (pc := 1489) G hX hbl hbA hx1 dl_1489 ?_
  refine x_aload0 (pc := 1490) G dl_1490 ?_
  refine x_iload4 (pc := 1491) G dl_1491 ?_
  refine x_iconst (pc := 1493) (v := 2) G dl_1493 (by decide) ?_
  refine x_iadd (pc := 1494) G dl_1494 ?_
  refine x_sld (pc := 1495) G hX hbl hbA hx2 dl_1495 ?_
  refine x_aload0 (pc := 1496) G dl_1496 ?_
  refine x_iload4 (pc := 1497) G dl_1497 ?_
  refine x_iconst (pc := 1499) (v := 3) G dl_1499 (by decide) ?_
  refine x_iadd (pc := 1500) G dl_1500 ?_
  refine x_sld (pc := 1501) G hX hbl hbA hx3 dl_1501 ?_
  refine x_aload3 (pc := 1502) G dl_1502 ?_
  have hC := kc_receive (k := k) hl hI (p1 := (xs (nI i + 1).toNatClampNeg)) (p2 := (xs (nI i + 2).toNatClampNeg)) (p3 := (xs (nI i + 3).toNatClampNeg))
  rw [hvr] at hC
  have hst := fun {o : Out} {w : Wd} => so_receive (k := k) (o := o) (w := w) (p1 := (xs (nI i + 1).toNatClampNeg)) (p2 := (xs (nI i + 2).toNatClampNeg)) (p3 := (xs (nI i + 3).toNatClampNeg)) hI
  have hh := ch_receive hl hbm hbf hd1 hC (fun o w hp => by
    obtain ⟨_, _, _, _, _, ⟨ho, _⟩ | ⟨E, he, _, hc⟩⟩ := hst hp
    · exact Or.inl ⟨_, ho⟩
    · exact Or.inr ⟨E, he, hc⟩)
  have hh := MI.frame hh hd2
  refine x_callSW (pc := 1503) (bc1 := bc1) (bs1 := bs1) (n := 5) (As := [.ref b, .int (xs (nI i + 1).toNatClampNeg), .int (xs (nI i + 2).toNatClampNeg), .int (xs (nI i + 3).toNatClampNeg), .ref ao]) G hh q_ml_L_235 q_st_yL_receive q_in_L q_cw_receive ⟨by decide, by decide, by decide +kernel⟩ ⟨Nat.le_of_ble_eq_true rfl, Nat.le_of_ble_eq_true rfl⟩ (Nat.zero_le _) (Nat.le_refl _) (Nat.le_refl _) rfl rfl dl_1503 (fun v w9 hp => ?_)
  obtain ⟨X2, S2, f2, kc, rfl, hL2, hv, hk, hz⟩ : ∃ X2 S2 f2 kc, w9 = wu (wu (cW k X2 S2) (oW k ao f2)) (mW k mo ad M) ∧ LV9 k b X2 S2 ao f2 mo ad (f_receive (xs (nI i + 1).toNatClampNeg) (xs (nI i + 2).toNatClampNeg) (xs (nI i + 3).toNatClampNeg) M).2 ∧ v = some (.int kc) ∧ mI (f_receive (xs (nI i + 1).toNatClampNeg) (xs (nI i + 2).toNatClampNeg) (xs (nI i + 3).toNatClampNeg) M).2 0 = kc ∧ (kc = 0 → f2 0 = (f_receive (xs (nI i + 1).toNatClampNeg) (xs (nI i + 2).toNatClampNeg) (xs (nI i + 3).toNatClampNeg) M).1.toInt64) := by
    obtain ⟨h9, ⟨w1, f1, rfl, hd1', hpp⟩, hd2', rfl⟩ := hp
    rcases hpp with ⟨r, hp1, hv, hf⟩ | ⟨E, hp1, hv⟩
    · obtain ⟨X2, S2, rfl, hI2, hb2, ⟨ho, h0⟩ | ⟨E, he, _, _⟩⟩ := hst hp1
      · have e9 := Sum.inl.inj ho
        cases e9
        exact ⟨X2, S2, _, 0, rfl, ⟨hI2, hb2.trans hb, hd1', hd2'⟩, Sum.inl.inj hv, h0, fun _ => hf⟩
      · cases he
    · obtain ⟨X2, S2, rfl, hI2, hb2, ⟨ho, h0⟩ | ⟨E2, he, h0, hc⟩⟩ := hst hp1
      · cases ho
      · cases he
        refine ⟨X2, S2, _, _, rfl, ⟨hI2, hb2.trans hb, hd1', hd2'⟩, Sum.inl.inj hv, h0, fun z => ?_⟩
        rcases hc with rfl | rfl | rfl <;> exact absurd z (by decide)
  subst hv
  obtain ⟨hI2, hb2, hd1', hd2'⟩ := id hL2
  refine x_istore5 (pc := 1506) G dl_1506 (by decide) rfl ?_
  refine x_aload2 (pc := 1508) G dl_1508 ?_
  refine x_aload0 (pc := 1509) G dl_1509 ?_
  refine x_iload4 (pc := 1510) G dl_1510 ?_
  refine x_iconst (pc := 1512) (v := 1) G dl_1512 (by decide) ?_
  refine x_iadd (pc := 1513) G dl_1513 ?_
  refine x_sld (pc := 1514) G hX hbl hbA hx1 dl_1514 ?_
  refine x_aload0 (pc := 1515) G dl_1515 ?_
  refine x_iload4 (pc := 1516) G dl_1516 ?_
  refine x_iconst (pc := 1518) (v := 2) G dl_1518 (by decide) ?_
  refine x_iadd (pc := 1519) G dl_1519 ?_
  refine x_sld (pc := 1520) G hX hbl hbA hx2 dl_1520 ?_
  refine x_aload0 (pc := 1521) G dl_1521 ?_
  refine x_iload4 (pc := 1522) G dl_1522 ?_
  refine x_iconst (pc := 1524) (v := 3) G dl_1524 (by decide) ?_
  refine x_iadd (pc := 1525) G dl_1525 ?_
  refine x_sld (pc := 1526) G hX hbl hbA hx3 dl_1526 ?_
  have hr := rc_receive (k := k) hl hH hI.2.2.2 (p1 := (xs (nI i + 1).toNatClampNeg)) (p2 := (xs (nI i + 2).toNatClampNeg)) (p3 := (xs (nI i + 3).toNatClampNeg))
  refine Wx_perm hd2' ?_
  refine x_callV (pc := 1527) (bc1 := bc1) (bs1 := bs1) (n := 3) (As := [.int (xs (nI i + 1).toNatClampNeg), .int (xs (nI i + 2).toNatClampNeg), .int (xs (nI i + 3).toNatClampNeg)]) G (hr.frame (fun a ha z => hd2' a z ha)) (List.mem_append_left _ mW_mo.1) ((if_pos mW_mo.1).trans mW_mo.2) (show vwCl[12]? = some (_, _, _) from rfl) q_ml_L_237 q_im_yX11_receive q_se_yX11_receive q_in_X11 q_co_yX11_receive ⟨by decide, by decide, by decide +kernel⟩ ⟨Nat.le_of_ble_eq_true rfl, Nat.le_of_ble_eq_true rfl⟩ (Nat.zero_le _) (Nat.le_refl _) (Nat.le_refl _) rfl rfl dl_1527 (fun v w9 hp => ?_) (fun E w9 hp => by obtain ⟨_, hq, _⟩ := hp; cases hq.1)
  obtain ⟨h9, ⟨hv, rfl⟩, _, rfl⟩ := hp
  have hv := Sum.inl.inj hv
  subst hv
  refine Wx_perm (fun a ha z => hd2' a z ha) ?_
  refine x_istore6 (pc := 1530) G dl_1530 (by decide) rfl ?_
  refine x_aload2 (pc := 1532) G dl_1532 ?_
  refine Wx_perm hd2' ?_
  refine x_callV (pc := 1533) (bc1 := bc1) (bs1 := bs1) (n := 0) (As := []) G ((c_thrown (k := k) (M := (f_receive (xs (nI i + 1).toNatClampNeg) (xs (nI i + 2).toNatClampNeg) (xs (nI i + 3).toNatClampNeg) M).2) hl hH).frame (fun a ha z => hd2' a z ha)) (List.mem_append_left _ mW_mo.1) ((if_pos mW_mo.1).trans mW_mo.2) (show vwCl[12]? = some (_, _, _) from rfl) q_ml_L_172 q_im_yX11_thrown q_se_yX11_thrown q_in_X11 q_co_yX11_thrown ⟨by decide, by decide, by decide +kernel⟩ ⟨Nat.le_of_ble_eq_true rfl, Nat.le_of_ble_eq_true rfl⟩ (Nat.zero_le _) (Nat.le_refl _) (Nat.le_refl _) rfl rfl dl_1533 (fun v w9 hp => ?_) (fun E w9 hp => by obtain ⟨_, hq, _⟩ := hp; cases hq.1)
  obtain ⟨h9, ⟨hv, rfl⟩, _, rfl⟩ := hp
  have hv := Sum.inl.inj hv
  subst hv
  refine Wx_perm (fun a ha z => hd2' a z ha) ?_
  refine x_iload5 (pc := 1536) G dl_1536 ?_
  refine x_icmp_eq (pc := 1538) (tgt := 1543) G dl_1538 rfl (fun _ => ?_) (fun z9 => absurd hk z9)
  refine x_iload5 (pc := 1543) G dl_1543 ?_
  refine x_if_ne (pc := 1545) (tgt := 1560) (y := 0) G dl_1545 rfl (fun _ => ?_) (fun z9 => ?_)
  · skip
    refine x_goto (pc := 1560) (tgt := 3248) G dl_1560 rfl ?_
    exact Wx_l8 (hend X2 S2 _ f2 hL2)
  · have hf := hz z9
    refine x_aload3 (pc := 1548) G dl_1548 ?_
    refine x_iconst (pc := 1549) (v := 0) G dl_1549 (by decide) ?_
    refine x_old (pc := 1550) G hd1' dl_1550 ?_
    refine x_iload6 (pc := 1551) G dl_1551 ?_
    refine x_i2l (pc := 1553) G dl_1553 ?_
    refine x_lcmp (pc := 1554) G dl_1554 ?_
    refine x_if_eq (pc := 1555) (tgt := 1560) (y := 0) G dl_1555 rfl (fun _ => ?_) (fun z8 => absurd (lg_same hf) z8)
    refine x_goto (pc := 1560) (tgt := 3248) G dl_1560 rfl ?_
    exact Wx_l8 (hend X2 S2 _ f2 hL2)
theorem dl_1563 : decode cL_law 1563 = .ok (.aload_n 1, 1) := by decide +kernel
theorem dl_1564 : decode cL_law 1564 = .ok (.aload_n 0, 1) := by decide +kernel
theorem dl_1565 : decode cL_law 1565 = .ok (.iload 4, 2) := by decide +kernel
theorem dl_1567 : decode cL_law 1567 = .ok (.iconst 1, 1) := by decide +kernel
theorem dl_1568 : decode cL_law 1568 = .ok (.iadd, 1) := by decide +kernel
theorem dl_1569 : decode cL_law 1569 = .ok (.iaload, 1) := by decide +kernel
theorem dl_1570 : decode cL_law 1570 = .ok (.aload_n 0, 1) := by decide +kernel
theorem dl_1571 : decode cL_law 1571 = .ok (.iload 4, 2) := by decide +kernel
theorem dl_1573 : decode cL_law 1573 = .ok (.iconst 2, 1) := by decide +kernel
theorem dl_1574 : decode cL_law 1574 = .ok (.iadd, 1) := by decide +kernel
theorem dl_1575 : decode cL_law 1575 = .ok (.iaload, 1) := by decide +kernel
theorem dl_1576 : decode cL_law 1576 = .ok (.aload_n 0, 1) := by decide +kernel
theorem dl_1577 : decode cL_law 1577 = .ok (.iload 4, 2) := by decide +kernel
theorem dl_1579 : decode cL_law 1579 = .ok (.iconst 3, 1) := by decide +kernel
theorem dl_1580 : decode cL_law 1580 = .ok (.iadd, 1) := by decide +kernel
theorem dl_1581 : decode cL_law 1581 = .ok (.iaload, 1) := by decide +kernel
theorem dl_1582 : decode cL_law 1582 = .ok (.aload_n 3, 1) := by decide +kernel
theorem dl_1583 : decode cL_law 1583 = .ok (.invokestatic 238, 3) := by decide +kernel
theorem dl_1586 : decode cL_law 1586 = .ok (.istore 5, 2) := by decide +kernel
theorem dl_1588 : decode cL_law 1588 = .ok (.aload_n 2, 1) := by decide +kernel
theorem dl_1589 : decode cL_law 1589 = .ok (.aload_n 0, 1) := by decide +kernel
theorem dl_1590 : decode cL_law 1590 = .ok (.iload 4, 2) := by decide +kernel
theorem dl_1592 : decode cL_law 1592 = .ok (.iconst 1, 1) := by decide +kernel
theorem dl_1593 : decode cL_law 1593 = .ok (.iadd, 1) := by decide +kernel
theorem dl_1594 : decode cL_law 1594 = .ok (.iaload, 1) := by decide +kernel
theorem dl_1595 : decode cL_law 1595 = .ok (.aload_n 0, 1) := by decide +kernel
theorem dl_1596 : decode cL_law 1596 = .ok (.iload 4, 2) := by decide +kernel
theorem dl_1598 : decode cL_law 1598 = .ok (.iconst 2, 1) := by decide +kernel
theorem dl_1599 : decode cL_law 1599 = .ok (.iadd, 1) := by decide +kernel
theorem dl_1600 : decode cL_law 1600 = .ok (.iaload, 1) := by decide +kernel
theorem dl_1601 : decode cL_law 1601 = .ok (.aload_n 0, 1) := by decide +kernel
theorem dl_1602 : decode cL_law 1602 = .ok (.iload 4, 2) := by decide +kernel
theorem dl_1604 : decode cL_law 1604 = .ok (.iconst 3, 1) := by decide +kernel
theorem dl_1605 : decode cL_law 1605 = .ok (.iadd, 1) := by decide +kernel
theorem dl_1606 : decode cL_law 1606 = .ok (.iaload, 1) := by decide +kernel
theorem dl_1607 : decode cL_law 1607 = .ok (.invokevirtual 240, 3) := by decide +kernel
theorem dl_1610 : decode cL_law 1610 = .ok (.istore 6, 2) := by decide +kernel
theorem dl_1612 : decode cL_law 1612 = .ok (.aload_n 2, 1) := by decide +kernel
theorem dl_1613 : decode cL_law 1613 = .ok (.invokevirtual 172, 3) := by decide +kernel
theorem dl_1616 : decode cL_law 1616 = .ok (.iload 5, 2) := by decide +kernel
theorem dl_1618 : decode cL_law 1618 = .ok (.if_icmp .eq 5, 3) := by decide +kernel
theorem dl_1621 : decode cL_law 1621 = .ok (.iconst 0, 1) := by decide +kernel
theorem dl_1622 : decode cL_law 1622 = .ok (.ireturn, 1) := by decide +kernel
theorem dl_1623 : decode cL_law 1623 = .ok (.iload 5, 2) := by decide +kernel
theorem dl_1625 : decode cL_law 1625 = .ok (.ifCond .ne 15, 3) := by decide +kernel
theorem dl_1628 : decode cL_law 1628 = .ok (.aload_n 3, 1) := by decide +kernel
theorem dl_1629 : decode cL_law 1629 = .ok (.iconst 0, 1) := by decide +kernel
theorem dl_1630 : decode cL_law 1630 = .ok (.laload, 1) := by decide +kernel
theorem dl_1631 : decode cL_law 1631 = .ok (.iload 6, 2) := by decide +kernel
theorem dl_1633 : decode cL_law 1633 = .ok (.i2l, 1) := by decide +kernel
theorem dl_1634 : decode cL_law 1634 = .ok (.lcmp, 1) := by decide +kernel
theorem dl_1635 : decode cL_law 1635 = .ok (.ifCond .eq 5, 3) := by decide +kernel
theorem dl_1638 : decode cL_law 1638 = .ok (.iconst 0, 1) := by decide +kernel
theorem dl_1639 : decode cL_law 1639 = .ok (.ireturn, 1) := by decide +kernel
theorem dl_1640 : decode cL_law 1640 = .ok (.goto 1608, 3) := by decide +kernel
set_option maxRecDepth 100000 in
set_option maxHeartbeats 4000000 in
theorem lk_change {p : Program} {l : Launch} {e : Env} {s : State} {m : MethodId} {args : Array Value} {below : List Frame} {meth : Method} {c : Code} {k : KC} {A : Nat → Prop} {Q : State → Prop} {bc1 bs1 b0 Ln b ao mo i : Nat} {xs : Nat → Int32} {ad : Nat → Nat} {f : Nat → Int64} {X : CX} {S : CT} {M : MS} {rt9 : Option FieldType} (hl : l.stackTraces = false) (G : GX p l room_1 s m args meth c k A RL cL_law 8 rt9) (hX : va_X b0 Ln xs s s.heap) (hbl : b0 < s.heap.size) (hbA : ¬ A b0) (hH : HM mo ad) (hi : i + 8 ≤ Ln) (hL : Ln ≤ 4096) (h : LV9 k b X S ao f mo ad M) (hend : ∀ X2 S2 M2 f2, LV9 k b X2 S2 ao f2 mo ad M2 → Wx p l e room_1 s m args below meth c k A 8 Q bc1 bs1 3248 [some (.ref b0), some (.ref b), some (.ref mo), some (.ref ao), some (.int (nI i)), none, none, none] [] (WL k X2 S2 ao f2 mo ad M2)) : Wx p l e room_1 s m args below meth c k A 8 Q (bc1 + 1) (bs1 + 6) 1563 [some (.ref b0), some (.ref b), some (.ref mo), some (.ref ao), some (.int (nI i)), none, none, none] [] (WL k X S ao f mo ad M) := by
  obtain ⟨hI, hb, hd1, hd2⟩ := h
  obtain ⟨hbm, fs, hbf⟩ := cw11 (k := k) (S := S) hI.1 hb
  have hvr := vr11 hb
  have hx1 : vp_in (nI i + 1) Ln := ix_in (j := 1) rfl (by omega) hL
  have hx2 : vp_in (nI i + 2) Ln := ix_in (j := 2) rfl (by omega) hL
  have hx3 : vp_in (nI i + 3) Ln := ix_in (j := 3) rfl (by omega) hL
  unfold WL
  refine x_aload1 (pc := 1563) G dl_1563 ?_
  refine x_aload0 (pc := 1564) G dl_1564 ?_
  refine x_iload4 (pc := 1565) G dl_1565 ?_
  refine x_iconst (pc := 1567) (v := 1) G dl_1567 (by decide) ?_
  refine x_iadd (pc := 1568) G dl_1568 ?_
  refine x_sld (pc := 1569) G hX hbl hbA hx1 dl_1569 ?_
  refine x_aload0 (pc := 1570) G dl_1570 ?_
  refine x_iload4 (pc := 1571) G dl_1571 ?_
  refine x_iconst (pc := 1573) (v := 2) G dl_1573 (by decide) ?_
  refine x_iadd (pc := 1574) G dl_1574 ?_
  refine x_sld (pc := 1575) G hX hbl hbA hx2 dl_1575 ?_
  refine x_aload0 (pc := 1576) G dl_1576 ?_
  refine x_iload4 (pc := 1577) G dl_1577 ?_
  refine x_iconst (pc := 1579) (v := 3) G dl_1579 (by decide) ?_
  refine x_iadd (pc := 1580) G dl_1580 ?_
  refine x_sld (pc := 1581) G hX hbl hbA hx3 dl_1581 ?_
  refine x_aload3 (pc := 1582) G dl_1582 ?_
  have hC := kc_change (k := k) hl hI (p1 := (xs (nI i + 1).toNatClampNeg)) (p2 := (xs (nI i + 2).toNatClampNeg)) (p3 := (xs (nI i + 3).toNatClampNeg))
  rw [hvr] at hC
  have hst := fun {o : Out} {w : Wd} => so_change (k := k) (o := o) (w := w) (p1 := (xs (nI i + 1).toNatClampNeg)) (p2 := (xs (nI i + 2).toNatClampNeg)) (p3 := (xs (nI i + 3).toNatClampNeg)) hI
  have hh := ch_change hl hbm hbf hd1 hC (fun o w hp => by
    obtain ⟨_, _, _, _, _, ⟨ho, _⟩ | ⟨E, he, _, hc⟩⟩ := hst hp
    · exact Or.inl ⟨_, ho⟩
    · exact Or.inr ⟨E, he, hc⟩)
  have hh := MI.frame hh hd2
  refine x_callSW (pc := 1583) (bc1 := bc1) (bs1 := bs1) (n := 5) (As := [.ref b, .int (xs (nI i + 1).toNatClampNeg), .int (xs (nI i + 2).toNatClampNeg), .int (xs (nI i + 3).toNatClampNeg), .ref ao]) G hh q_ml_L_238 q_st_yL_change q_in_L q_cw_change ⟨by decide, by decide, by decide +kernel⟩ ⟨Nat.le_of_ble_eq_true rfl, Nat.le_of_ble_eq_true rfl⟩ (Nat.zero_le _) (Nat.le_refl _) (Nat.le_refl _) rfl rfl dl_1583 (fun v w9 hp => ?_)
  obtain ⟨X2, S2, f2, kc, rfl, hL2, hv, hk, hz⟩ : ∃ X2 S2 f2 kc, w9 = wu (wu (cW k X2 S2) (oW k ao f2)) (mW k mo ad M) ∧ LV9 k b X2 S2 ao f2 mo ad (f_change (xs (nI i + 1).toNatClampNeg) (xs (nI i + 2).toNatClampNeg) (xs (nI i + 3).toNatClampNeg) M).2 ∧ v = some (.int kc) ∧ mI (f_change (xs (nI i + 1).toNatClampNeg) (xs (nI i + 2).toNatClampNeg) (xs (nI i + 3).toNatClampNeg) M).2 0 = kc ∧ (kc = 0 → f2 0 = (f_change (xs (nI i + 1).toNatClampNeg) (xs (nI i + 2).toNatClampNeg) (xs (nI i + 3).toNatClampNeg) M).1.toInt64) := by
    obtain ⟨h9, ⟨w1, f1, rfl, hd1', hpp⟩, hd2', rfl⟩ := hp
    rcases hpp with ⟨r, hp1, hv, hf⟩ | ⟨E, hp1, hv⟩
    · obtain ⟨X2, S2, rfl, hI2, hb2, ⟨ho, h0⟩ | ⟨E, he, _, _⟩⟩ := hst hp1
      · have e9 := Sum.inl.inj ho
        cases e9
        exact ⟨X2, S2, _, 0, rfl, ⟨hI2, hb2.trans hb, hd1', hd2'⟩, Sum.inl.inj hv, h0, fun _ => hf⟩
      · cases he
    · obtain ⟨X2, S2, rfl, hI2, hb2, ⟨ho, h0⟩ | ⟨E2, he, h0, hc⟩⟩ := hst hp1
      · cases ho
      · cases he
        refine ⟨X2, S2, _, _, rfl, ⟨hI2, hb2.trans hb, hd1', hd2'⟩, Sum.inl.inj hv, h0, fun z => ?_⟩
        rcases hc with rfl | rfl | rfl <;> exact absurd z (by decide)
  subst hv
  obtain ⟨hI2, hb2, hd1', hd2'⟩ := id hL2
  refine x_istore5 (pc := 1586) G dl_1586 (by decide) rfl ?_
  refine x_aload2 (pc := 1588) G dl_1588 ?_
  refine x_aload0 (pc := 1589) G dl_1589 ?_
  refine x_iload4 (pc := 1590) G dl_1590 ?_
  refine x_iconst (pc := 1592) (v := 1) G dl_1592 (by decide) ?_
  refine x_iadd (pc := 1593) G dl_1593 ?_
  refine x_sld (pc := 1594) G hX hbl hbA hx1 dl_1594 ?_
  refine x_aload0 (pc := 1595) G dl_1595 ?_
  refine x_iload4 (pc := 1596) G dl_1596 ?_
  refine x_iconst (pc := 1598) (v := 2) G dl_1598 (by decide) ?_
  refine x_iadd (pc := 1599) G dl_1599 ?_
  refine x_sld (pc := 1600) G hX hbl hbA hx2 dl_1600 ?_
  refine x_aload0 (pc := 1601) G dl_1601 ?_
  refine x_iload4 (pc := 1602) G dl_1602 ?_
  refine x_iconst (pc := 1604) (v := 3) G dl_1604 (by decide) ?_
  refine x_iadd (pc := 1605) G dl_1605 ?_
  refine x_sld (pc := 1606) G hX hbl hbA hx3 dl_1606 ?_
  have hr := rc_change (k := k) hl hH hI.2.2.2 (p1 := (xs (nI i + 1).toNatClampNeg)) (p2 := (xs (nI i + 2).toNatClampNeg)) (p3 := (xs (nI i + 3).toNatClampNeg))
  refine Wx_perm hd2' ?_
  refine x_callV (pc := 1607) (bc1 := bc1) (bs1 := bs1) (n := 3) (As := [.int (xs (nI i + 1).toNatClampNeg), .int (xs (nI i + 2).toNatClampNeg), .int (xs (nI i + 3).toNatClampNeg)]) G (hr.frame (fun a ha z => hd2' a z ha)) (List.mem_append_left _ mW_mo.1) ((if_pos mW_mo.1).trans mW_mo.2) (show vwCl[12]? = some (_, _, _) from rfl) q_ml_L_240 q_im_yX11_change q_se_yX11_change q_in_X11 q_co_yX11_change ⟨by decide, by decide, by decide +kernel⟩ ⟨Nat.le_of_ble_eq_true rfl, Nat.le_of_ble_eq_true rfl⟩ (Nat.zero_le _) (Nat.le_refl _) (Nat.le_refl _) rfl rfl dl_1607 (fun v w9 hp => ?_) (fun E w9 hp => by obtain ⟨_, hq, _⟩ := hp; cases hq.1)
  obtain ⟨h9, ⟨hv, rfl⟩, _, rfl⟩ := hp
  have hv := Sum.inl.inj hv
  subst hv
  refine Wx_perm (fun a ha z => hd2' a z ha) ?_
  refine x_istore6 (pc := 1610) G dl_1610 (by decide) rfl ?_
  refine x_aload2 (pc := 1612) G dl_1612 ?_
  refine Wx_perm hd2' ?_
  refine x_callV (pc := 1613) (bc1 := bc1) (bs1 := bs1) (n := 0) (As := []) G ((c_thrown (k := k) (M := (f_change (xs (nI i + 1).toNatClampNeg) (xs (nI i + 2).toNatClampNeg) (xs (nI i + 3).toNatClampNeg) M).2) hl hH).frame (fun a ha z => hd2' a z ha)) (List.mem_append_left _ mW_mo.1) ((if_pos mW_mo.1).trans mW_mo.2) (show vwCl[12]? = some (_, _, _) from rfl) q_ml_L_172 q_im_yX11_thrown q_se_yX11_thrown q_in_X11 q_co_yX11_thrown ⟨by decide, by decide, by decide +kernel⟩ ⟨Nat.le_of_ble_eq_true rfl, Nat.le_of_ble_eq_true rfl⟩ (Nat.zero_le _) (Nat.le_refl _) (Nat.le_refl _) rfl rfl dl_1613 (fun v w9 hp => ?_) (fun E w9 hp => by obtain ⟨_, hq, _⟩ := hp; cases hq.1)
  obtain ⟨h9, ⟨hv, rfl⟩, _, rfl⟩ := hp
  have hv := Sum.inl.inj hv
  subst hv
  refine Wx_perm (fun a ha z => hd2' a z ha) ?_
  refine x_iload5 (pc := 1616) G dl_1616 ?_
  refine x_icmp_eq (pc := 1618) (tgt := 1623) G dl_1618 rfl (fun _ => ?_) (fun z9 => absurd hk z9)
  refine x_iload5 (pc := 1623) G dl_1623 ?_
  refine x_if_ne (pc := 1625) (tgt := 1640) (y := 0) G dl_1625 rfl (fun _ => ?_) (fun z9 => ?_)
  · skip
    refine x_goto (pc := 1640) (tgt := 3248) G dl_1640 rfl ?_
    exact Wx_l8 (hend X2 S2 _ f2 hL2)
  · have hf := hz z9
    refine x_aload3 (pc := 1628) G dl_1628 ?_
    refine x_iconst (pc := 1629) (v := 0) G dl_1629 (by decide) ?_
    refine x_old (pc := 1630) G hd1' dl_1630 ?_
    refine x_iload6 (pc := 1631) G dl_1631 ?_
    refine x_i2l (pc := 1633) G dl_1633 ?_
    refine x_lcmp (pc := 1634) G dl_1634 ?_
    refine x_if_eq (pc := 1635) (tgt := 1640) (y := 0) G dl_1635 rfl (fun _ => ?_) (fun z8 => absurd (lg_same hf) z8)
    refine x_goto (pc := 1640) (tgt := 3248) G dl_1640 rfl ?_
    exact Wx_l8 (hend X2 S2 _ f2 hL2)
theorem dl_1643 : decode cL_law 1643 = .ok (.aload_n 1, 1) := by decide +kernel
theorem dl_1644 : decode cL_law 1644 = .ok (.aload_n 0, 1) := by decide +kernel
theorem dl_1645 : decode cL_law 1645 = .ok (.iload 4, 2) := by decide +kernel
theorem dl_1647 : decode cL_law 1647 = .ok (.iconst 1, 1) := by decide +kernel
theorem dl_1648 : decode cL_law 1648 = .ok (.iadd, 1) := by decide +kernel
theorem dl_1649 : decode cL_law 1649 = .ok (.iaload, 1) := by decide +kernel
theorem dl_1650 : decode cL_law 1650 = .ok (.aload_n 3, 1) := by decide +kernel
theorem dl_1651 : decode cL_law 1651 = .ok (.invokestatic 241, 3) := by decide +kernel
theorem dl_1654 : decode cL_law 1654 = .ok (.istore 5, 2) := by decide +kernel
theorem dl_1656 : decode cL_law 1656 = .ok (.aload_n 2, 1) := by decide +kernel
theorem dl_1657 : decode cL_law 1657 = .ok (.aload_n 0, 1) := by decide +kernel
theorem dl_1658 : decode cL_law 1658 = .ok (.iload 4, 2) := by decide +kernel
theorem dl_1660 : decode cL_law 1660 = .ok (.iconst 1, 1) := by decide +kernel
theorem dl_1661 : decode cL_law 1661 = .ok (.iadd, 1) := by decide +kernel
theorem dl_1662 : decode cL_law 1662 = .ok (.iaload, 1) := by decide +kernel
theorem dl_1663 : decode cL_law 1663 = .ok (.invokevirtual 243, 3) := by decide +kernel
theorem dl_1666 : decode cL_law 1666 = .ok (.lstore 6, 2) := by decide +kernel
theorem dl_1668 : decode cL_law 1668 = .ok (.aload_n 2, 1) := by decide +kernel
theorem dl_1669 : decode cL_law 1669 = .ok (.invokevirtual 172, 3) := by decide +kernel
theorem dl_1672 : decode cL_law 1672 = .ok (.iload 5, 2) := by decide +kernel
theorem dl_1674 : decode cL_law 1674 = .ok (.if_icmp .eq 5, 3) := by decide +kernel
theorem dl_1677 : decode cL_law 1677 = .ok (.iconst 0, 1) := by decide +kernel
theorem dl_1678 : decode cL_law 1678 = .ok (.ireturn, 1) := by decide +kernel
theorem dl_1679 : decode cL_law 1679 = .ok (.iload 5, 2) := by decide +kernel
theorem dl_1681 : decode cL_law 1681 = .ok (.ifCond .ne 14, 3) := by decide +kernel
theorem dl_1684 : decode cL_law 1684 = .ok (.aload_n 3, 1) := by decide +kernel
theorem dl_1685 : decode cL_law 1685 = .ok (.iconst 0, 1) := by decide +kernel
theorem dl_1686 : decode cL_law 1686 = .ok (.laload, 1) := by decide +kernel
theorem dl_1687 : decode cL_law 1687 = .ok (.lload 6, 2) := by decide +kernel
theorem dl_1689 : decode cL_law 1689 = .ok (.lcmp, 1) := by decide +kernel
theorem dl_1690 : decode cL_law 1690 = .ok (.ifCond .eq 5, 3) := by decide +kernel
theorem dl_1693 : decode cL_law 1693 = .ok (.iconst 0, 1) := by decide +kernel
theorem dl_1694 : decode cL_law 1694 = .ok (.ireturn, 1) := by decide +kernel
theorem dl_1695 : decode cL_law 1695 = .ok (.goto 1553, 3) := by decide +kernel
set_option maxRecDepth 100000 in
set_option maxHeartbeats 4000000 in
theorem lk_end {p : Program} {l : Launch} {e : Env} {s : State} {m : MethodId} {args : Array Value} {below : List Frame} {meth : Method} {c : Code} {k : KC} {A : Nat → Prop} {Q : State → Prop} {bc1 bs1 b0 Ln b ao mo i : Nat} {xs : Nat → Int32} {ad : Nat → Nat} {f : Nat → Int64} {X : CX} {S : CT} {M : MS} {rt9 : Option FieldType} (hl : l.stackTraces = false) (G : GX p l room_1 s m args meth c k A RL cL_law 8 rt9) (hX : va_X b0 Ln xs s s.heap) (hbl : b0 < s.heap.size) (hbA : ¬ A b0) (hH : HM mo ad) (hi : i + 8 ≤ Ln) (hL : Ln ≤ 4096) (h : LV9 k b X S ao f mo ad M) (hend : ∀ X2 S2 M2 f2, LV9 k b X2 S2 ao f2 mo ad M2 → Wx p l e room_1 s m args below meth c k A 8 Q bc1 bs1 3248 [some (.ref b0), some (.ref b), some (.ref mo), some (.ref ao), some (.int (nI i)), none, none, none] [] (WL k X2 S2 ao f2 mo ad M2)) : Wx p l e room_1 s m args below meth c k A 8 Q (bc1 + 1) (bs1 + 6) 1643 [some (.ref b0), some (.ref b), some (.ref mo), some (.ref ao), some (.int (nI i)), none, none, none] [] (WL k X S ao f mo ad M) := by
  obtain ⟨hI, hb, hd1, hd2⟩ := h
  obtain ⟨hbm, fs, hbf⟩ := cw11 (k := k) (S := S) hI.1 hb
  have hvr := vr11 hb
  have hx1 : vp_in (nI i + 1) Ln := ix_in (j := 1) rfl (by omega) hL
  unfold WL
  refine x_aload1 (pc := 1643) G dl_1643 ?_
  refine x_aload0 (pc := 1644) G dl_1644 ?_
  refine x_iload4 (pc := 1645) G dl_1645 ?_
  refine x_iconst (pc := 1647) (v := 1) G dl_1647 (by decide) ?_
  refine x_iadd (pc := 1648) G dl_1648 ?_
  refine x_sld (pc := 1649) G hX hbl hbA hx1 dl_1649 ?_
  refine x_aload3 (pc := 1650) G dl_1650 ?_
  have hC := kc_end (k := k) hl hI (p1 := (xs (nI i + 1).toNatClampNeg))
  rw [hvr] at hC
  have hst := fun {o : Out} {w : Wd} => so_end (k := k) (o := o) (w := w) (p1 := (xs (nI i + 1).toNatClampNeg)) hI
  have hh := ch_end hl hbm hbf hd1 hC (fun o w hp => by
    obtain ⟨_, _, _, _, _, ⟨ho, _⟩ | ⟨E, he, _, hc⟩⟩ := hst hp
    · exact Or.inl ⟨_, ho⟩
    · exact Or.inr ⟨E, he, hc⟩)
  have hh := MI.frame hh hd2
  refine x_callSW (pc := 1651) (bc1 := bc1) (bs1 := bs1) (n := 3) (As := [.ref b, .int (xs (nI i + 1).toNatClampNeg), .ref ao]) G hh q_ml_L_241 q_st_yL_end q_in_L q_cw_end ⟨by decide, by decide, by decide +kernel⟩ ⟨Nat.le_of_ble_eq_true rfl, Nat.le_of_ble_eq_true rfl⟩ (Nat.zero_le _) (Nat.le_refl _) (Nat.le_refl _) rfl rfl dl_1651 (fun v w9 hp => ?_)
  obtain ⟨X2, S2, f2, kc, rfl, hL2, hv, hk, hz⟩ : ∃ X2 S2 f2 kc, w9 = wu (wu (cW k X2 S2) (oW k ao f2)) (mW k mo ad M) ∧ LV9 k b X2 S2 ao f2 mo ad (f_end (xs (nI i + 1).toNatClampNeg) M).2 ∧ v = some (.int kc) ∧ mI (f_end (xs (nI i + 1).toNatClampNeg) M).2 0 = kc ∧ (kc = 0 → f2 0 = (f_end (xs (nI i + 1).toNatClampNeg) M).1) := by
    obtain ⟨h9, ⟨w1, f1, rfl, hd1', hpp⟩, hd2', rfl⟩ := hp
    rcases hpp with ⟨r, hp1, hv, hf⟩ | ⟨E, hp1, hv⟩
    · obtain ⟨X2, S2, rfl, hI2, hb2, ⟨ho, h0⟩ | ⟨E, he, _, _⟩⟩ := hst hp1
      · have e9 := Sum.inl.inj ho
        cases e9
        exact ⟨X2, S2, _, 0, rfl, ⟨hI2, hb2.trans hb, hd1', hd2'⟩, Sum.inl.inj hv, h0, fun _ => hf⟩
      · cases he
    · obtain ⟨X2, S2, rfl, hI2, hb2, ⟨ho, h0⟩ | ⟨E2, he, h0, hc⟩⟩ := hst hp1
      · cases ho
      · cases he
        refine ⟨X2, S2, _, _, rfl, ⟨hI2, hb2.trans hb, hd1', hd2'⟩, Sum.inl.inj hv, h0, fun z => ?_⟩
        rcases hc with rfl | rfl <;> exact absurd z (by decide)
  subst hv
  obtain ⟨hI2, hb2, hd1', hd2'⟩ := id hL2
  refine x_istore5 (pc := 1654) G dl_1654 (by decide) rfl ?_
  refine x_aload2 (pc := 1656) G dl_1656 ?_
  refine x_aload0 (pc := 1657) G dl_1657 ?_
  refine x_iload4 (pc := 1658) G dl_1658 ?_
  refine x_iconst (pc := 1660) (v := 1) G dl_1660 (by decide) ?_
  refine x_iadd (pc := 1661) G dl_1661 ?_
  refine x_sld (pc := 1662) G hX hbl hbA hx1 dl_1662 ?_
  have hr := rc_end (k := k) hl hH hI.2.2.2 (p1 := (xs (nI i + 1).toNatClampNeg))
  refine Wx_perm hd2' ?_
  refine x_callV (pc := 1663) (bc1 := bc1) (bs1 := bs1) (n := 1) (As := [.int (xs (nI i + 1).toNatClampNeg)]) G (hr.frame (fun a ha z => hd2' a z ha)) (List.mem_append_left _ mW_mo.1) ((if_pos mW_mo.1).trans mW_mo.2) (show vwCl[12]? = some (_, _, _) from rfl) q_ml_L_243 q_im_yX11_end q_se_yX11_end q_in_X11 q_co_yX11_end ⟨by decide, by decide, by decide +kernel⟩ ⟨Nat.le_of_ble_eq_true rfl, Nat.le_of_ble_eq_true rfl⟩ (Nat.zero_le _) (Nat.le_refl _) (Nat.le_refl _) rfl rfl dl_1663 (fun v w9 hp => ?_) (fun E w9 hp => by obtain ⟨_, hq, _⟩ := hp; cases hq.1)
  obtain ⟨h9, ⟨hv, rfl⟩, _, rfl⟩ := hp
  have hv := Sum.inl.inj hv
  subst hv
  refine Wx_perm (fun a ha z => hd2' a z ha) ?_
  refine x_lstore6 (pc := 1666) G dl_1666 (by decide) rfl ?_
  refine x_aload2 (pc := 1668) G dl_1668 ?_
  refine Wx_perm hd2' ?_
  refine x_callV (pc := 1669) (bc1 := bc1) (bs1 := bs1) (n := 0) (As := []) G ((c_thrown (k := k) (M := (f_end (xs (nI i + 1).toNatClampNeg) M).2) hl hH).frame (fun a ha z => hd2' a z ha)) (List.mem_append_left _ mW_mo.1) ((if_pos mW_mo.1).trans mW_mo.2) (show vwCl[12]? = some (_, _, _) from rfl) q_ml_L_172 q_im_yX11_thrown q_se_yX11_thrown q_in_X11 q_co_yX11_thrown ⟨by decide, by decide, by decide +kernel⟩ ⟨Nat.le_of_ble_eq_true rfl, Nat.le_of_ble_eq_true rfl⟩ (Nat.zero_le _) (Nat.le_refl _) (Nat.le_refl _) rfl rfl dl_1669 (fun v w9 hp => ?_) (fun E w9 hp => by obtain ⟨_, hq, _⟩ := hp; cases hq.1)
  obtain ⟨h9, ⟨hv, rfl⟩, _, rfl⟩ := hp
  have hv := Sum.inl.inj hv
  subst hv
  refine Wx_perm (fun a ha z => hd2' a z ha) ?_
  refine x_iload5 (pc := 1672) G dl_1672 ?_
  refine x_icmp_eq (pc := 1674) (tgt := 1679) G dl_1674 rfl (fun _ => ?_) (fun z9 => absurd hk z9)
  refine x_iload5 (pc := 1679) G dl_1679 ?_
  refine x_if_ne (pc := 1681) (tgt := 1695) (y := 0) G dl_1681 rfl (fun _ => ?_) (fun z9 => ?_)
  · skip
    refine x_goto (pc := 1695) (tgt := 3248) G dl_1695 rfl ?_
    exact Wx_l8 (hend X2 S2 _ f2 hL2)
  · have hf := hz z9
    refine x_aload3 (pc := 1684) G dl_1684 ?_
    refine x_iconst (pc := 1685) (v := 0) G dl_1685 (by decide) ?_
    refine x_old (pc := 1686) G hd1' dl_1686 ?_
    refine x_lload6 (pc := 1687) G dl_1687 ?_
    refine x_lcmp (pc := 1689) G dl_1689 ?_
    refine x_if_eq (pc := 1690) (tgt := 1695) (y := 0) G dl_1690 rfl (fun _ => ?_) (fun z8 => absurd (lg_same hf) z8)
    refine x_goto (pc := 1695) (tgt := 3248) G dl_1695 rfl ?_
    exact Wx_l8 (hend X2 S2 _ f2 hL2)
theorem dl_1698 : decode cL_law 1698 = .ok (.aload_n 1, 1) := by decide +kernel
theorem dl_1699 : decode cL_law 1699 = .ok (.aload_n 0, 1) := by decide +kernel
theorem dl_1700 : decode cL_law 1700 = .ok (.iload 4, 2) := by decide +kernel
theorem dl_1702 : decode cL_law 1702 = .ok (.iconst 1, 1) := by decide +kernel
theorem dl_1703 : decode cL_law 1703 = .ok (.iadd, 1) := by decide +kernel
theorem dl_1704 : decode cL_law 1704 = .ok (.iaload, 1) := by decide +kernel
theorem dl_1705 : decode cL_law 1705 = .ok (.aload_n 0, 1) := by decide +kernel
theorem dl_1706 : decode cL_law 1706 = .ok (.iload 4, 2) := by decide +kernel
theorem dl_1708 : decode cL_law 1708 = .ok (.iconst 2, 1) := by decide +kernel
theorem dl_1709 : decode cL_law 1709 = .ok (.iadd, 1) := by decide +kernel
theorem dl_1710 : decode cL_law 1710 = .ok (.iaload, 1) := by decide +kernel
theorem dl_1711 : decode cL_law 1711 = .ok (.aload_n 0, 1) := by decide +kernel
theorem dl_1712 : decode cL_law 1712 = .ok (.iload 4, 2) := by decide +kernel
theorem dl_1714 : decode cL_law 1714 = .ok (.iconst 3, 1) := by decide +kernel
theorem dl_1715 : decode cL_law 1715 = .ok (.iadd, 1) := by decide +kernel
theorem dl_1716 : decode cL_law 1716 = .ok (.iaload, 1) := by decide +kernel
theorem dl_1717 : decode cL_law 1717 = .ok (.aload_n 0, 1) := by decide +kernel
theorem dl_1718 : decode cL_law 1718 = .ok (.iload 4, 2) := by decide +kernel
theorem dl_1720 : decode cL_law 1720 = .ok (.iconst 4, 1) := by decide +kernel
theorem dl_1721 : decode cL_law 1721 = .ok (.iadd, 1) := by decide +kernel
theorem dl_1722 : decode cL_law 1722 = .ok (.iaload, 1) := by decide +kernel
theorem dl_1723 : decode cL_law 1723 = .ok (.aload_n 3, 1) := by decide +kernel
theorem dl_1724 : decode cL_law 1724 = .ok (.invokestatic 244, 3) := by decide +kernel
theorem dl_1727 : decode cL_law 1727 = .ok (.istore 5, 2) := by decide +kernel
theorem dl_1729 : decode cL_law 1729 = .ok (.aload_n 2, 1) := by decide +kernel
theorem dl_1730 : decode cL_law 1730 = .ok (.aload_n 0, 1) := by decide +kernel
theorem dl_1731 : decode cL_law 1731 = .ok (.iload 4, 2) := by decide +kernel
theorem dl_1733 : decode cL_law 1733 = .ok (.iconst 1, 1) := by decide +kernel
theorem dl_1734 : decode cL_law 1734 = .ok (.iadd, 1) := by decide +kernel
theorem dl_1735 : decode cL_law 1735 = .ok (.iaload, 1) := by decide +kernel
theorem dl_1736 : decode cL_law 1736 = .ok (.aload_n 0, 1) := by decide +kernel
theorem dl_1737 : decode cL_law 1737 = .ok (.iload 4, 2) := by decide +kernel
theorem dl_1739 : decode cL_law 1739 = .ok (.iconst 2, 1) := by decide +kernel
theorem dl_1740 : decode cL_law 1740 = .ok (.iadd, 1) := by decide +kernel
theorem dl_1741 : decode cL_law 1741 = .ok (.iaload, 1) := by decide +kernel
theorem dl_1742 : decode cL_law 1742 = .ok (.aload_n 0, 1) := by decide +kernel
theorem dl_1743 : decode cL_law 1743 = .ok (.iload 4, 2) := by decide +kernel
theorem dl_1745 : decode cL_law 1745 = .ok (.iconst 3, 1) := by decide +kernel
theorem dl_1746 : decode cL_law 1746 = .ok (.iadd, 1) := by decide +kernel
theorem dl_1747 : decode cL_law 1747 = .ok (.iaload, 1) := by decide +kernel
theorem dl_1748 : decode cL_law 1748 = .ok (.aload_n 0, 1) := by decide +kernel
theorem dl_1749 : decode cL_law 1749 = .ok (.iload 4, 2) := by decide +kernel
theorem dl_1751 : decode cL_law 1751 = .ok (.iconst 4, 1) := by decide +kernel
theorem dl_1752 : decode cL_law 1752 = .ok (.iadd, 1) := by decide +kernel
theorem dl_1753 : decode cL_law 1753 = .ok (.iaload, 1) := by decide +kernel
theorem dl_1754 : decode cL_law 1754 = .ok (.invokevirtual 246, 3) := by decide +kernel
theorem dl_1757 : decode cL_law 1757 = .ok (.istore 6, 2) := by decide +kernel
theorem dl_1759 : decode cL_law 1759 = .ok (.aload_n 2, 1) := by decide +kernel
theorem dl_1760 : decode cL_law 1760 = .ok (.invokevirtual 172, 3) := by decide +kernel
theorem dl_1763 : decode cL_law 1763 = .ok (.iload 5, 2) := by decide +kernel
theorem dl_1765 : decode cL_law 1765 = .ok (.if_icmp .eq 5, 3) := by decide +kernel
theorem dl_1768 : decode cL_law 1768 = .ok (.iconst 0, 1) := by decide +kernel
theorem dl_1769 : decode cL_law 1769 = .ok (.ireturn, 1) := by decide +kernel
theorem dl_1770 : decode cL_law 1770 = .ok (.iload 5, 2) := by decide +kernel
theorem dl_1772 : decode cL_law 1772 = .ok (.ifCond .ne 15, 3) := by decide +kernel
theorem dl_1775 : decode cL_law 1775 = .ok (.aload_n 3, 1) := by decide +kernel
theorem dl_1776 : decode cL_law 1776 = .ok (.iconst 0, 1) := by decide +kernel
theorem dl_1777 : decode cL_law 1777 = .ok (.laload, 1) := by decide +kernel
theorem dl_1778 : decode cL_law 1778 = .ok (.iload 6, 2) := by decide +kernel
theorem dl_1780 : decode cL_law 1780 = .ok (.i2l, 1) := by decide +kernel
theorem dl_1781 : decode cL_law 1781 = .ok (.lcmp, 1) := by decide +kernel
theorem dl_1782 : decode cL_law 1782 = .ok (.ifCond .eq 5, 3) := by decide +kernel
theorem dl_1785 : decode cL_law 1785 = .ok (.iconst 0, 1) := by decide +kernel
theorem dl_1786 : decode cL_law 1786 = .ok (.ireturn, 1) := by decide +kernel
theorem dl_1787 : decode cL_law 1787 = .ok (.goto 1461, 3) := by decide +kernel
set_option maxRecDepth 100000 in
set_option maxHeartbeats 4000000 in
theorem lk_invoice {p : Program} {l : Launch} {e : Env} {s : State} {m : MethodId} {args : Array Value} {below : List Frame} {meth : Method} {c : Code} {k : KC} {A : Nat → Prop} {Q : State → Prop} {bc1 bs1 b0 Ln b ao mo i : Nat} {xs : Nat → Int32} {ad : Nat → Nat} {f : Nat → Int64} {X : CX} {S : CT} {M : MS} {rt9 : Option FieldType} (hl : l.stackTraces = false) (G : GX p l room_1 s m args meth c k A RL cL_law 8 rt9) (hX : va_X b0 Ln xs s s.heap) (hbl : b0 < s.heap.size) (hbA : ¬ A b0) (hH : HM mo ad) (hi : i + 8 ≤ Ln) (hL : Ln ≤ 4096) (h : LV9 k b X S ao f mo ad M) (hend : ∀ X2 S2 M2 f2, LV9 k b X2 S2 ao f2 mo ad M2 → Wx p l e room_1 s m args below meth c k A 8 Q bc1 bs1 3248 [some (.ref b0), some (.ref b), some (.ref mo), some (.ref ao), some (.int (nI i)), none, none, none] [] (WL k X2 S2 ao f2 mo ad M2)) : Wx p l e room_1 s m args below meth c k A 8 Q (bc1 + 2) (bs1 + 91) 1698 [some (.ref b0), some (.ref b), some (.ref mo), some (.ref ao), some (.int (nI i)), none, none, none] [] (WL k X S ao f mo ad M) := by
  obtain ⟨hI, hb, hd1, hd2⟩ := h
  obtain ⟨hbm, fs, hbf⟩ := cw11 (k := k) (S := S) hI.1 hb
  have hvr := vr11 hb
  have hx1 : vp_in (nI i + 1) Ln := ix_in (j := 1) rfl (by omega) hL
  have hx2 : vp_in (nI i + 2) Ln := ix_in (j := 2) rfl (by omega) hL
  have hx3 : vp_in (nI i + 3) Ln := ix_in (j := 3) rfl (by omega) hL
  have hx4 : vp_in (nI i + 4) Ln := ix_in (j := 4) rfl (by omega) hL
  unfold WL
  refine x_aload1 (pc := 1698) G dl_1698 ?_
  refine x_aload0 (pc := 1699) G dl_1699 ?_
  refine x_iload4 (pc := 1700) G dl_1700 ?_
  refine x_iconst (pc := 1702) (v := 1) G dl_1702 (by decide) ?_
  refine x_iadd (pc := 1703) G dl_1703 ?_
  refine x_sld (pc := 1704) G hX hbl hbA hx1 dl_1704 ?_
  refine x_aload0 (pc := 1705) G dl_1705 ?_
  refine x_iload4 (pc := 1706) G dl_1706 ?_
  refine x_iconst (pc := 1708) (v := 2) G dl_1708 (by decide) ?_
  refine x_iadd (pc := 1709) G dl_1709 ?_
  refine x_sld (pc := 1710) G hX hbl hbA hx2 dl_1710 ?_
  refine x_aload0 (pc := 1711) G dl_1711 ?_
  refine x_iload4 (pc := 1712) G dl_1712 ?_
  refine x_iconst (pc := 1714) (v := 3) G dl_1714 (by decide) ?_
  refine x_iadd (pc := 1715) G dl_1715 ?_
  refine x_sld (pc := 1716) G hX hbl hbA hx3 dl_1716 ?_
  refine x_aload0 (pc := 1717) G dl_1717 ?_
  refine x_iload4 (pc := 1718) G dl_1718 ?_
  refine x_iconst (pc := 1720) (v := 4) G dl_1720 (by decide) ?_
  refine x_iadd (pc := 1721) G dl_1721 ?_
  refine x_sld (pc := 1722) G hX hbl hbA hx4 dl_1722 ?_
  refine x_aload3 (pc := 1723) G dl_1723 ?_
  have hC := kc_invoice (k := k) hl hI (p1 := (xs (nI i + 1).toNatClampNeg)) (p2 := (xs (nI i + 2).toNatClampNeg)) (p3 := (xs (nI i + 3).toNatClampNeg)) (p4 := (xs (nI i + 4).toNatClampNeg))
  rw [hvr] at hC
  have hst := fun {o : Out} {w : Wd} => so_invoice (k := k) (o := o) (w := w) (p1 := (xs (nI i + 1).toNatClampNeg)) (p2 := (xs (nI i + 2).toNatClampNeg)) (p3 := (xs (nI i + 3).toNatClampNeg)) (p4 := (xs (nI i + 4).toNatClampNeg)) hI
  have hh := ch_invoice hl hbm hbf hd1 hC (fun o w hp => by
    obtain ⟨_, _, _, _, _, ⟨ho, _⟩ | ⟨E, he, _, hc⟩⟩ := hst hp
    · exact Or.inl ⟨_, ho⟩
    · exact Or.inr ⟨E, he, hc⟩)
  have hh := MI.frame hh hd2
  refine x_callSW (pc := 1724) (bc1 := bc1) (bs1 := bs1) (n := 6) (As := [.ref b, .int (xs (nI i + 1).toNatClampNeg), .int (xs (nI i + 2).toNatClampNeg), .int (xs (nI i + 3).toNatClampNeg), .int (xs (nI i + 4).toNatClampNeg), .ref ao]) G hh q_ml_L_244 q_st_yL_invoice q_in_L q_cw_invoice ⟨by decide, by decide, by decide +kernel⟩ ⟨Nat.le_of_ble_eq_true rfl, Nat.le_of_ble_eq_true rfl⟩ (Nat.zero_le _) (Nat.le_refl _) (Nat.le_refl _) rfl rfl dl_1724 (fun v w9 hp => ?_)
  obtain ⟨X2, S2, f2, kc, rfl, hL2, hv, hk, hz⟩ : ∃ X2 S2 f2 kc, w9 = wu (wu (cW k X2 S2) (oW k ao f2)) (mW k mo ad M) ∧ LV9 k b X2 S2 ao f2 mo ad (f_invoice (xs (nI i + 1).toNatClampNeg) (xs (nI i + 2).toNatClampNeg) (xs (nI i + 3).toNatClampNeg) (xs (nI i + 4).toNatClampNeg) M).2 ∧ v = some (.int kc) ∧ mI (f_invoice (xs (nI i + 1).toNatClampNeg) (xs (nI i + 2).toNatClampNeg) (xs (nI i + 3).toNatClampNeg) (xs (nI i + 4).toNatClampNeg) M).2 0 = kc ∧ (kc = 0 → f2 0 = (f_invoice (xs (nI i + 1).toNatClampNeg) (xs (nI i + 2).toNatClampNeg) (xs (nI i + 3).toNatClampNeg) (xs (nI i + 4).toNatClampNeg) M).1.toInt64) := by
    obtain ⟨h9, ⟨w1, f1, rfl, hd1', hpp⟩, hd2', rfl⟩ := hp
    rcases hpp with ⟨r, hp1, hv, hf⟩ | ⟨E, hp1, hv⟩
    · obtain ⟨X2, S2, rfl, hI2, hb2, ⟨ho, h0⟩ | ⟨E, he, _, _⟩⟩ := hst hp1
      · have e9 := Sum.inl.inj ho
        cases e9
        exact ⟨X2, S2, _, 0, rfl, ⟨hI2, hb2.trans hb, hd1', hd2'⟩, Sum.inl.inj hv, h0, fun _ => hf⟩
      · cases he
    · obtain ⟨X2, S2, rfl, hI2, hb2, ⟨ho, h0⟩ | ⟨E2, he, h0, hc⟩⟩ := hst hp1
      · cases ho
      · cases he
        refine ⟨X2, S2, _, _, rfl, ⟨hI2, hb2.trans hb, hd1', hd2'⟩, Sum.inl.inj hv, h0, fun z => ?_⟩
        rcases hc with rfl | rfl | rfl <;> exact absurd z (by decide)
  subst hv
  obtain ⟨hI2, hb2, hd1', hd2'⟩ := id hL2
  refine x_istore5 (pc := 1727) G dl_1727 (by decide) rfl ?_
  refine x_aload2 (pc := 1729) G dl_1729 ?_
  refine x_aload0 (pc := 1730) G dl_1730 ?_
  refine x_iload4 (pc := 1731) G dl_1731 ?_
  refine x_iconst (pc := 1733) (v := 1) G dl_1733 (by decide) ?_
  refine x_iadd (pc := 1734) G dl_1734 ?_
  refine x_sld (pc := 1735) G hX hbl hbA hx1 dl_1735 ?_
  refine x_aload0 (pc := 1736) G dl_1736 ?_
  refine x_iload4 (pc := 1737) G dl_1737 ?_
  refine x_iconst (pc := 1739) (v := 2) G dl_1739 (by decide) ?_
  refine x_iadd (pc := 1740) G dl_1740 ?_
  refine x_sld (pc := 1741) G hX hbl hbA hx2 dl_1741 ?_
  refine x_aload0 (pc := 1742) G dl_1742 ?_
  refine x_iload4 (pc := 1743) G dl_1743 ?_
  refine x_iconst (pc := 1745) (v := 3) G dl_1745 (by decide) ?_
  refine x_iadd (pc := 1746) G dl_1746 ?_
  refine x_sld (pc := 1747) G hX hbl hbA hx3 dl_1747 ?_
  refine x_aload0 (pc := 1748) G dl_1748 ?_
  refine x_iload4 (pc := 1749) G dl_1749 ?_
  refine x_iconst (pc := 1751) (v := 4) G dl_1751 (by decide) ?_
  refine x_iadd (pc := 1752) G dl_1752 ?_
  refine x_sld (pc := 1753) G hX hbl hbA hx4 dl_1753 ?_
  have hr := rc_invoice (k := k) hl hH hI.2.2.2 (p1 := (xs (nI i + 1).toNatClampNeg)) (p2 := (xs (nI i + 2).toNatClampNeg)) (p3 := (xs (nI i + 3).toNatClampNeg)) (p4 := (xs (nI i + 4).toNatClampNeg))
  refine Wx_perm hd2' ?_
  refine x_callV (pc := 1754) (bc1 := bc1) (bs1 := bs1) (n := 4) (As := [.int (xs (nI i + 1).toNatClampNeg), .int (xs (nI i + 2).toNatClampNeg), .int (xs (nI i + 3).toNatClampNeg), .int (xs (nI i + 4).toNatClampNeg)]) G (hr.frame (fun a ha z => hd2' a z ha)) (List.mem_append_left _ mW_mo.1) ((if_pos mW_mo.1).trans mW_mo.2) (show vwCl[12]? = some (_, _, _) from rfl) q_ml_L_246 q_im_yX11_invoice q_se_yX11_invoice q_in_X11 q_co_yX11_invoice ⟨by decide, by decide, by decide +kernel⟩ ⟨Nat.le_of_ble_eq_true rfl, Nat.le_of_ble_eq_true rfl⟩ (Nat.zero_le _) (Nat.le_refl _) (Nat.le_refl _) rfl rfl dl_1754 (fun v w9 hp => ?_) (fun E w9 hp => by obtain ⟨_, hq, _⟩ := hp; cases hq.1)
  obtain ⟨h9, ⟨hv, rfl⟩, _, rfl⟩ := hp
  have hv := Sum.inl.inj hv
  subst hv
  refine Wx_perm (fun a ha z => hd2' a z ha) ?_
  refine x_istore6 (pc := 1757) G dl_1757 (by decide) rfl ?_
  refine x_aload2 (pc := 1759) G dl_1759 ?_
  refine Wx_perm hd2' ?_
  refine x_callV (pc := 1760) (bc1 := bc1) (bs1 := bs1) (n := 0) (As := []) G ((c_thrown (k := k) (M := (f_invoice (xs (nI i + 1).toNatClampNeg) (xs (nI i + 2).toNatClampNeg) (xs (nI i + 3).toNatClampNeg) (xs (nI i + 4).toNatClampNeg) M).2) hl hH).frame (fun a ha z => hd2' a z ha)) (List.mem_append_left _ mW_mo.1) ((if_pos mW_mo.1).trans mW_mo.2) (show vwCl[12]? = some (_, _, _) from rfl) q_ml_L_172 q_im_yX11_thrown q_se_yX11_thrown q_in_X11 q_co_yX11_thrown ⟨by decide, by decide, by decide +kernel⟩ ⟨Nat.le_of_ble_eq_true rfl, Nat.le_of_ble_eq_true rfl⟩ (Nat.zero_le _) (Nat.le_refl _) (Nat.le_refl _) rfl rfl dl_1760 (fun v w9 hp => ?_) (fun E w9 hp => by obtain ⟨_, hq, _⟩ := hp; cases hq.1)
  obtain ⟨h9, ⟨hv, rfl⟩, _, rfl⟩ := hp
  have hv := Sum.inl.inj hv
  subst hv
  refine Wx_perm (fun a ha z => hd2' a z ha) ?_
  refine x_iload5 (pc := 1763) G dl_1763 ?_
  refine x_icmp_eq (pc := 1765) (tgt := 1770) G dl_1765 rfl (fun _ => ?_) (fun z9 => absurd hk z9)
  refine x_iload5 (pc := 1770) G dl_1770 ?_
  refine x_if_ne (pc := 1772) (tgt := 1787) (y := 0) G dl_1772 rfl (fun _ => ?_) (fun z9 => ?_)
  · skip
    refine x_goto (pc := 1787) (tgt := 3248) G dl_1787 rfl ?_
    exact Wx_l8 (hend X2 S2 _ f2 hL2)
  · have hf := hz z9
    refine x_aload3 (pc := 1775) G dl_1775 ?_
    refine x_iconst (pc := 1776) (v := 0) G dl_1776 (by decide) ?_
    refine x_old (pc := 1777) G hd1' dl_1777 ?_
    refine x_iload6 (pc := 1778) G dl_1778 ?_
    refine x_i2l (pc := 1780) G dl_1780 ?_
    refine x_lcmp (pc := 1781) G dl_1781 ?_
    refine x_if_eq (pc := 1782) (tgt := 1787) (y := 0) G dl_1782 rfl (fun _ => ?_) (fun z8 => absurd (lg_same hf) z8)
    refine x_goto (pc := 1787) (tgt := 3248) G dl_1787 rfl ?_
    exact Wx_l8 (hend X2 S2 _ f2 hL2)
