theorem dl_236 : decode cL_law 236 = .ok (.aload_n 1, 1) := by decide +kernel
theorem dl_237 : decode cL_law 237 = .ok (.aload_n 0, 1) := by decide +kernel
theorem dl_238 : decode cL_law 238 = .ok (.iload 4, 2) := by decide +kernel
theorem dl_240 : decode cL_law 240 = .ok (.iconst 1, 1) := by decide +kernel
theorem dl_241 : decode cL_law 241 = .ok (.iadd, 1) := by decide +kernel
theorem dl_242 : decode cL_law 242 = .ok (.iaload, 1) := by decide +kernel
theorem dl_243 : decode cL_law 243 = .ok (.aload_n 0, 1) := by decide +kernel
theorem dl_244 : decode cL_law 244 = .ok (.iload 4, 2) := by decide +kernel
theorem dl_246 : decode cL_law 246 = .ok (.iconst 2, 1) := by decide +kernel
theorem dl_247 : decode cL_law 247 = .ok (.iadd, 1) := by decide +kernel
theorem dl_248 : decode cL_law 248 = .ok (.iaload, 1) := by decide +kernel
theorem dl_249 : decode cL_law 249 = .ok (.aload_n 3, 1) := by decide +kernel
theorem dl_250 : decode cL_law 250 = .ok (.invokestatic 166, 3) := by decide +kernel
theorem dl_253 : decode cL_law 253 = .ok (.istore 5, 2) := by decide +kernel
theorem dl_255 : decode cL_law 255 = .ok (.aload_n 2, 1) := by decide +kernel
theorem dl_256 : decode cL_law 256 = .ok (.aload_n 0, 1) := by decide +kernel
theorem dl_257 : decode cL_law 257 = .ok (.iload 4, 2) := by decide +kernel
theorem dl_259 : decode cL_law 259 = .ok (.iconst 1, 1) := by decide +kernel
theorem dl_260 : decode cL_law 260 = .ok (.iadd, 1) := by decide +kernel
theorem dl_261 : decode cL_law 261 = .ok (.iaload, 1) := by decide +kernel
theorem dl_262 : decode cL_law 262 = .ok (.aload_n 0, 1) := by decide +kernel
theorem dl_263 : decode cL_law 263 = .ok (.iload 4, 2) := by decide +kernel
theorem dl_265 : decode cL_law 265 = .ok (.iconst 2, 1) := by decide +kernel
theorem dl_266 : decode cL_law 266 = .ok (.iadd, 1) := by decide +kernel
theorem dl_267 : decode cL_law 267 = .ok (.iaload, 1) := by decide +kernel
theorem dl_268 : decode cL_law 268 = .ok (.invokevirtual 171, 3) := by decide +kernel
theorem dl_271 : decode cL_law 271 = .ok (.istore 6, 2) := by decide +kernel
theorem dl_273 : decode cL_law 273 = .ok (.aload_n 2, 1) := by decide +kernel
theorem dl_274 : decode cL_law 274 = .ok (.invokevirtual 172, 3) := by decide +kernel
theorem dl_277 : decode cL_law 277 = .ok (.iload 5, 2) := by decide +kernel
theorem dl_279 : decode cL_law 279 = .ok (.if_icmp .eq 5, 3) := by decide +kernel
theorem dl_282 : decode cL_law 282 = .ok (.iconst 0, 1) := by decide +kernel
theorem dl_283 : decode cL_law 283 = .ok (.ireturn, 1) := by decide +kernel
theorem dl_284 : decode cL_law 284 = .ok (.iload 5, 2) := by decide +kernel
theorem dl_286 : decode cL_law 286 = .ok (.ifCond .ne 15, 3) := by decide +kernel
theorem dl_289 : decode cL_law 289 = .ok (.aload_n 3, 1) := by decide +kernel
theorem dl_290 : decode cL_law 290 = .ok (.iconst 0, 1) := by decide +kernel
theorem dl_291 : decode cL_law 291 = .ok (.laload, 1) := by decide +kernel
theorem dl_292 : decode cL_law 292 = .ok (.iload 6, 2) := by decide +kernel
theorem dl_294 : decode cL_law 294 = .ok (.i2l, 1) := by decide +kernel
theorem dl_295 : decode cL_law 295 = .ok (.lcmp, 1) := by decide +kernel
theorem dl_296 : decode cL_law 296 = .ok (.ifCond .eq 5, 3) := by decide +kernel
theorem dl_299 : decode cL_law 299 = .ok (.iconst 0, 1) := by decide +kernel
theorem dl_300 : decode cL_law 300 = .ok (.ireturn, 1) := by decide +kernel
theorem dl_301 : decode cL_law 301 = .ok (.goto 2947, 3) := by decide +kernel
set_option maxRecDepth 100000 in
set_option maxHeartbeats 4000000 in
theorem lc_person {p : Program} {l : Launch} {e : Env} {s : State} {m : MethodId} {args : Array Value} {below : List Frame} {meth : Method} {c : Code} {k : KC} {A : Nat → Prop} {Q : State → Prop} {bc1 bs1 b0 Ln b ao mo i : Nat} {xs : Nat → Int32} {ad : Nat → Nat} {f : Nat → Int64} {X : CX} {S : CT} {M : MS} {rt9 : Option FieldType} (hl : l.stackTraces = false) (G : GX p l room_1 s m args meth c k A RL cL_law 8 rt9) (hX : va_X b0 Ln xs s s.heap) (hbl : b0 < s.heap.size) (hbA : ¬ A b0) (hH : HM mo ad) (hi : i + 8 ≤ Ln) (hL : Ln ≤ 4096) (h : LV9 k b X S ao f mo ad M) (hend : ∀ X2 S2 M2 f2, LV9 k b X2 S2 ao f2 mo ad M2 → Wx p l e room_1 s m args below meth c k A 8 Q bc1 bs1 3248 [some (.ref b0), some (.ref b), some (.ref mo), some (.ref ao), some (.int (nI i)), none, none, none] [] (WL k X2 S2 ao f2 mo ad M2)) : Wx p l e room_1 s m args below meth c k A 8 Q (bc1 + 2) (bs1 + 80) 236 [some (.ref b0), some (.ref b), some (.ref mo), some (.ref ao), some (.int (nI i)), none, none, none] [] (WL k X S ao f mo ad M) := by
  obtain ⟨hI, hb, hd1, hd2⟩ := h
  obtain ⟨hbm, fs, hbf⟩ := cw11 (k := k) (S := S) hI.1 hb
  have hvr := vr11 hb
  have hx1 : vp_in (nI i + 1) Ln := ix_in (j := 1) rfl (by omega) hL
  have hx2 : vp_in (nI i + 2) Ln := ix_in (j := 2) rfl (by omega) hL
  unfold WL
  refine x_aload1 (pc := 236) G dl_236 ?_
  refine x_aload0 (pc := 237) G dl_237 ?_
  refine x_iload4 (pc := 238) G dl_238 ?_
  refine x_iconst (pc := 240) (v := 1) G dl_240 (by decide) ?_
  refine x_iadd (pc := 241) G dl_241 ?_
  refine x_sld (pc := 242) G hX hbl hbA hx1 dl_242 ?_
  refine x_aload0 (pc := 243) G dl_243 ?_
  refine x_iload4 (pc := 244) G dl_244 ?_
  refine x_iconst (pc := 246) (v := 2) G dl_246 (by decide) ?_
  refine x_iadd (pc := 247) G dl_247 ?_
  refine x_sld (pc := 248) G hX hbl hbA hx2 dl_248 ?_
  refine x_aload3 (pc := 249) G dl_249 ?_
  have hC := kc_person (k := k) hl hI (p1 := (xs (nI i + 1).toNatClampNeg)) (p2 := (xs (nI i + 2).toNatClampNeg))
  rw [hvr] at hC
  have hst := fun {o : Out} {w : Wd} => so_person (k := k) (o := o) (w := w) (p1 := (xs (nI i + 1).toNatClampNeg)) (p2 := (xs (nI i + 2).toNatClampNeg)) hI
  have hh := ch_person hl hbm hbf hd1 hC (fun o w hp => by
    obtain ⟨_, _, _, _, _, ⟨ho, _⟩ | ⟨E, he, _, hc⟩⟩ := hst hp
    · exact Or.inl ⟨_, ho⟩
    · exact Or.inr ⟨E, he, hc⟩)
  have hh := MI.frame hh hd2
  refine x_callSW (pc := 250) (bc1 := bc1) (bs1 := bs1) (n := 4) (As := [.ref b, .int (xs (nI i + 1).toNatClampNeg), .int (xs (nI i + 2).toNatClampNeg), .ref ao]) G hh q_ml_L_166 q_st_yL_person q_in_L q_cw_person ⟨by decide, by decide, by decide +kernel⟩ ⟨Nat.le_of_ble_eq_true rfl, Nat.le_of_ble_eq_true rfl⟩ (Nat.zero_le _) (Nat.le_refl _) (Nat.le_refl _) rfl rfl dl_250 (fun v w9 hp => ?_)
  obtain ⟨X2, S2, f2, kc, rfl, hL2, hv, hk, hz⟩ : ∃ X2 S2 f2 kc, w9 = wu (wu (cW k X2 S2) (oW k ao f2)) (mW k mo ad M) ∧ LV9 k b X2 S2 ao f2 mo ad (f_person (xs (nI i + 1).toNatClampNeg) (xs (nI i + 2).toNatClampNeg) M).2 ∧ v = some (.int kc) ∧ mI (f_person (xs (nI i + 1).toNatClampNeg) (xs (nI i + 2).toNatClampNeg) M).2 0 = kc ∧ (kc = 0 → f2 0 = (f_person (xs (nI i + 1).toNatClampNeg) (xs (nI i + 2).toNatClampNeg) M).1.toInt64) := by
    obtain ⟨h9, ⟨w1, f1, rfl, hd1', hpp⟩, hd2', rfl⟩ := hp
    rcases hpp with ⟨r, hp1, hv, hf⟩ | ⟨E, hp1, hv⟩
    · obtain ⟨X2, S2, rfl, hI2, hb2, ⟨ho, h0⟩ | ⟨E, he, _, _⟩⟩ := hst hp1
      · have e9 := Sum.inl.inj ho
        cases e9
        exact ⟨X2, S2, _, 0, rfl, ⟨hI2, hb2.trans hb, hd1', hd2'⟩, Sum.inl.inj hv, h0, fun _ => hf⟩
      · cases he
    · obtain ⟨X2, S2, rfl, hI2, hb2, ⟨ho, h0⟩ | ⟨E2, he, h0, hc⟩⟩ := hst hp1
      · cases ho
      · cases he
        refine ⟨X2, S2, _, _, rfl, ⟨hI2, hb2.trans hb, hd1', hd2'⟩, Sum.inl.inj hv, h0, fun z => ?_⟩
        rcases hc with rfl | rfl | rfl <;> exact absurd z (by decide)
  subst hv
  obtain ⟨hI2, hb2, hd1', hd2'⟩ := id hL2
  refine x_istore5 (pc := 253) G dl_253 (by decide) rfl ?_
  refine x_aload2 (pc := 255) G dl_255 ?_
  refine x_aload0 (pc := 256) G dl_256 ?_
  refine x_iload4 (pc := 257) G dl_257 ?_
  refine x_iconst (pc := 259) (v := 1) G dl_259 (by decide) ?_
  refine x_iadd (pc := 260) G dl_260 ?_
  refine x_sld (pc := 261) G hX hbl hbA hx1 dl_261 ?_
  refine x_aload0 (pc := 262) G dl_262 ?_
  refine x_iload4 (pc := 263) G dl_263 ?_
  refine x_iconst (pc := 265) (v := 2) G dl_265 (by decide) ?_
  refine x_iadd (pc := 266) G dl_266 ?_
  refine x_sld (pc := 267) G hX hbl hbA hx2 dl_267 ?_
  have hr := rc_person (k := k) hl hH hI.2.2.2 (p1 := (xs (nI i + 1).toNatClampNeg)) (p2 := (xs (nI i + 2).toNatClampNeg))
  refine Wx_perm hd2' ?_
  refine x_callV (pc := 268) (bc1 := bc1) (bs1 := bs1) (n := 2) (As := [.int (xs (nI i + 1).toNatClampNeg), .int (xs (nI i + 2).toNatClampNeg)]) G (hr.frame (fun a ha z => hd2' a z ha)) (List.mem_append_left _ mW_mo.1) ((if_pos mW_mo.1).trans mW_mo.2) (show vwCl[12]? = some (_, _, _) from rfl) q_ml_L_171 q_im_yX11_person q_se_yX11_person q_in_X11 q_co_yX11_person ⟨by decide, by decide, by decide +kernel⟩ ⟨Nat.le_of_ble_eq_true rfl, Nat.le_of_ble_eq_true rfl⟩ (Nat.zero_le _) (Nat.le_refl _) (Nat.le_refl _) rfl rfl dl_268 (fun v w9 hp => ?_) (fun E w9 hp => by obtain ⟨_, hq, _⟩ := hp; cases hq.1)
  obtain ⟨h9, ⟨hv, rfl⟩, _, rfl⟩ := hp
  have hv := Sum.inl.inj hv
  subst hv
  refine Wx_perm (fun a ha z => hd2' a z ha) ?_
  refine x_istore6 (pc := 271) G dl_271 (by decide) rfl ?_
  refine x_aload2 (pc := 273) G dl_273 ?_
  refine Wx_perm hd2' ?_
  refine x_callV (pc := 274) (bc1 := bc1) (bs1 := bs1) (n := 0) (As := []) G ((c_thrown (k := k) (M := (f_person (xs (nI i + 1).toNatClampNeg) (xs (nI i + 2).toNatClampNeg) M).2) hl hH).frame (fun a ha z => hd2' a z ha)) (List.mem_append_left _ mW_mo.1) ((if_pos mW_mo.1).trans mW_mo.2) (show vwCl[12]? = some (_, _, _) from rfl) q_ml_L_172 q_im_yX11_thrown q_se_yX11_thrown q_in_X11 q_co_yX11_thrown ⟨by decide, by decide, by decide +kernel⟩ ⟨Nat.le_of_ble_eq_true rfl, Nat.le_of_ble_eq_true rfl⟩ (Nat.zero_le _) (Nat.le_refl _) (Nat.le_refl _) rfl rfl dl_274 (fun v w9 hp => ?_) (fun E w9 hp => by obtain ⟨_, hq, _⟩ := hp; cases hq.1)
  obtain ⟨h9, ⟨hv, rfl⟩, _, rfl⟩ := hp
  have hv := Sum.inl.inj hv
  subst hv
  refine Wx_perm (fun a ha z => hd2' a z ha) ?_
  refine x_iload5 (pc := 277) G dl_277 ?_
  refine x_icmp_eq (pc := 279) (tgt := 284) G dl_279 rfl (fun _ => ?_) (fun z9 => absurd hk z9)
  refine x_iload5 (pc := 284) G dl_284 ?_
  refine x_if_ne (pc := 286) (tgt := 301) (y := 0) G dl_286 rfl (fun _ => ?_) (fun z9 => ?_)
  · skip
    refine x_goto (pc := 301) (tgt := 3248) G dl_301 rfl ?_
    exact Wx_l8 (hend X2 S2 _ f2 hL2)
  · have hf := hz z9
    refine x_aload3 (pc := 289) G dl_289 ?_
    refine x_iconst (pc := 290) (v := 0) G dl_290 (by decide) ?_
    refine x_old (pc := 291) G hd1' dl_291 ?_
    refine x_iload6 (pc := 292) G dl_292 ?_
    refine x_i2l (pc := 294) G dl_294 ?_
    refine x_lcmp (pc := 295) G dl_295 ?_
    refine x_if_eq (pc := 296) (tgt := 301) (y := 0) G dl_296 rfl (fun _ => ?_) (fun z8 => absurd (lg_same hf) z8)
    refine x_goto (pc := 301) (tgt := 3248) G dl_301 rfl ?_
    exact Wx_l8 (hend X2 S2 _ f2 hL2)
