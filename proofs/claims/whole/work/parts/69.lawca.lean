theorem dl_236 : decode cL_law 236 = .ok (.aload_n 1, 1) := by decide +kernel
theorem dl_237 : decode cL_law 237 = .ok (.aload_n 0, 1) := by decide +kernel
theorem dl_238 : decode cL_law 238 = .ok (.iload 4, 2) := by decide +kernel
theorem dl_240 : decode cL_law 240 = .ok (.iconst 1, 1) := by decide +kernel
theorem dl_241 : decode cL_law 241 = .ok (.iadd, 1) := by decide +kernel
theorem dl_242 : decode cL_law 242 = .ok (.iaload, 1) := by decide +kernel
theorem dl_243 : decode cL_law 243 = .ok (.aload_n 0, 1) := by decide +kernel
theorem dl_244 : decode cL_law 244 = .ok (.iload 4, 2) := by decide +kernel
theorem dl_246 : decode cL_law 246 = .ok (.iconst 2, 1) := by decide +kernel
theorem dl_247 : decode cL_law 247 = .ok (.iadd, 1) := by decide +kernel
theorem dl_248 : decode cL_law 248 = .ok (.iaload, 1) := by decide +kernel
theorem dl_249 : decode cL_law 249 = .ok (.aload_n 3, 1) := by decide +kernel
theorem dl_250 : decode cL_law 250 = .ok (.invokestatic 166, 3) := by decide +kernel
theorem dl_253 : decode cL_law 253 = .ok (.istore 5, 2) := by decide +kernel
theorem dl_255 : decode cL_law 255 = .ok (.aload_n 2, 1) := by decide +kernel
theorem dl_256 : decode cL_law 256 = .ok (.aload_n 0, 1) := by decide +kernel
theorem dl_257 : decode cL_law 257 = .ok (.iload 4, 2) := by decide +kernel
theorem dl_259 : decode cL_law 259 = .ok (.iconst 1, 1) := by decide +kernel
theorem dl_260 : decode cL_law 260 = .ok (.iadd, 1) := by decide +kernel
theorem dl_261 : decode cL_law 261 = .ok (.iaload, 1) := by decide +kernel
theorem dl_262 : decode cL_law 262 = .ok (.aload_n 0, 1) := by decide +kernel
theorem dl_263 : decode cL_law 263 = .ok (.iload 4, 2) := by decide +kernel
theorem dl_265 : decode cL_law 265 = .ok (.iconst 2, 1) := by decide +kernel
theorem dl_266 : decode cL_law 266 = .ok (.iadd, 1) := by decide +kernel
theorem dl_267 : decode cL_law 267 = .ok (.iaload, 1) := by decide +kernel
theorem dl_268 : decode cL_law 268 = .ok (.invokevirtual 171, 3) := by decide +kernel
theorem dl_271 : decode cL_law 271 = .ok (.istore 6, 2) := by decide +kernel
theorem dl_273 : decode cL_law 273 = .ok (.aload_n 2, 1) := by decide +kernel
theorem dl_274 : decode cL_law 274 = .ok (.invokevirtual 172, 3) := by decide +kernel
theorem dl_277 : decode cL_law 277 = .ok (.iload 5, 2) := by decide +kernel
theorem dl_279 : decode cL_law 279 = .ok (.if_icmp .eq 5, 3) := by decide +kernel
theorem dl_282 : decode cL_law 282 = .ok (.iconst 0, 1) := by decide +kernel
theorem dl_283 : decode cL_law 283 = .ok (.ireturn, 1) := by decide +kernel
theorem dl_284 : decode cL_law 284 = .ok (.iload 5, 2) := by decide +kernel
theorem dl_286 : decode cL_law 286 = .ok (.ifCond .ne 15, 3) := by decide +kernel
theorem dl_289 : decode cL_law 289 = .ok (.aload_n 3, 1) := by decide +kernel
theorem dl_290 : decode cL_law 290 = .ok (.iconst 0, 1) := by decide +kernel
theorem dl_291 : decode cL_law 291 = .ok (.laload, 1) := by decide +kernel
theorem dl_292 : decode cL_law 292 = .ok (.iload 6, 2) := by decide +kernel
theorem dl_294 : decode cL_law 294 = .ok (.i2l, 1) := by decide +kernel
theorem dl_295 : decode cL_law 295 = .ok (.lcmp, 1) := by decide +kernel
theorem dl_296 : decode cL_law 296 = .ok (.ifCond .eq 5, 3) := by decide +kernel
theorem dl_299 : decode cL_law 299 = .ok (.iconst 0, 1) := by decide +kernel
theorem dl_300 : decode cL_law 300 = .ok (.ireturn, 1) := by decide +kernel
theorem dl_301 : decode cL_law 301 = .ok (.goto 2947, 3) := by decide +kernel
set_option maxRecDepth 100000 in
set_option maxHeartbeats 4000000 in
theorem lk_person {p : Program} {l : Launch} {e : Env} {s : State} {m : MethodId} {args : Array Value} {below : List Frame} {meth : Method} {c : Code} {k : KC} {A : Nat → Prop} {Q : State → Prop} {bc1 bs1 b0 Ln b ao mo i : Nat} {xs : Nat → Int32} {ad : Nat → Nat} {f : Nat → Int64} {X : CX} {S : CT} {M : MS} {rt9 : Option FieldType} (hl : l.stackTraces = false) (G : GX p l room_1 s m args meth c k A RL cL_law 8 rt9) (hX : va_X b0 Ln xs s s.heap) (hbl : b0 < s.heap.size) (hbA : ¬ A b0) (hH : HM mo ad) (hi : i + 8 ≤ Ln) (hL : Ln ≤ 4096) (h : LV9 k b X S ao f mo ad M) (hend : ∀ X2 S2 M2 f2, LV9 k b X2 S2 ao f2 mo ad M2 → Wx p l e room_1 s m args below meth c k A 8 Q bc1 bs1 3248 [some (.ref b0), some (.ref b), some (.ref mo), some (.ref ao), some (.int (nI i)), none, none, none] [] (WL k X2 S2 ao f2 mo ad M2)) : Wx p l e room_1 s m args below meth c k A 8 Q (bc1 + 2) (bs1 + 80) 236 [some (.ref b0), some (.ref b), some (.ref mo), some (.ref ao), some (.int (nI i)), none, none, none] [] (WL k X S ao f mo ad M) := by
  obtain ⟨hI, hb, hd1, hd2⟩ := h
  obtain ⟨hbm, fs, hbf⟩ := cw11 (k := k) (S := S) hI.1 hb
  have hvr := vr11 hb
  have hx1 : vp_in (nI i + 1) Ln := ix_in (j := 1) rfl (by omega) hL
  have hx2 : vp_in (nI i + 2) Ln := ix_in (j := 2) rfl (by omega) hL
  unfold WL
  refine x_aload1 (pc := 236) G dl_236 ?_
  refine x_aload0 (pc := 237) G dl_237 ?_
  refine x_iload4 (pc := 238) G dl_238 ?_
  refine x_iconst (pc := 240) (v := 1) G dl_240 (by decide) ?_
  refine x_iadd (pc := 241) G dl_241 ?_
  refine x_sld (pc := 242) G hX hbl hbA hx1 dl_242 ?_
  refine x_aload0 (pc := 243) G dl_243 ?_
  refine x_iload4 (pc := 244) G dl_244 ?_
  refine x_iconst (pc := 246) (v := 2) G dl_246 (by decide) ?_
  refine x_iadd (pc := 247) G dl_247 ?_
  refine x_sld (pc := 248) G hX hbl hbA hx2 dl_248 ?_
  refine x_aload3 (pc := 249) G dl_249 ?_
  have hC := kc_person (k := k) hl hI (p1 := (xs (nI i + 1).toNatClampNeg)) (p2 := (xs (nI i + 2).toNatClampNeg))
  rw [hvr] at hC
  have hst := fun {o : Out} {w : Wd} => so_person (k := k) (o := o) (w := w) (p1 := (xs (nI i + 1).toNatClampNeg)) (p2 := (xs (nI i + 2).toNatClampNeg)) hI
  have hh := ch_person hl hbm hbf hd1 hC (fun o w hp => by
    obtain ⟨_, _, _, _, _, ⟨ho, _⟩ | ⟨E, he, _, hc⟩⟩ := hst hp
    · exact Or.inl ⟨_, ho⟩
    · exact Or.inr ⟨E, he, hc⟩)
  have hh := MI.frame hh hd2
  refine x_callSW (pc := 250) (bc1 := bc1) (bs1 := bs1) (n := 4) (As := [.ref b, .int (xs (nI i + 1).toNatClampNeg), .int (xs (nI i + 2).toNatClampNeg), .ref ao]) G hh q_ml_L_166 q_st_yL_person q_in_L q_cw_person ⟨by decide, by decide, by decide +kernel⟩ ⟨Nat.le_of_ble_eq_true rfl, Nat.le_of_ble_eq_true rfl⟩ (Nat.zero_le _) (Nat.le_refl _) (Nat.le_refl _) rfl rfl dl_250 (fun v w9 hp => ?_)
  obtain ⟨X2, S2, f2, kc, rfl, hL2, hv, hk, hz⟩ : ∃ X2 S2 f2 kc, w9 = wu (wu (cW k X2 S2) (oW k ao f2)) (mW k mo ad M) ∧ LV9 k b X2 S2 ao f2 mo ad (f_person (xs (nI i + 1).toNatClampNeg) (xs (nI i + 2).toNatClampNeg) M).2 ∧ v = some (.int kc) ∧ mI (f_person (xs (nI i + 1).toNatClampNeg) (xs (nI i + 2).toNatClampNeg) M).2 0 = kc ∧ (kc = 0 → f2 0 = (f_person (xs (nI i + 1).toNatClampNeg) (xs (nI i + 2).toNatClampNeg) M).1.toInt64) := by
    obtain ⟨h9, ⟨w1, f1, rfl, hd1', hpp⟩, hd2', rfl⟩ := hp
    rcases hpp with ⟨r, hp1, hv, hf⟩ | ⟨E, hp1, hv⟩
    · obtain ⟨X2, S2, rfl, hI2, hb2, ⟨ho, h0⟩ | ⟨E, he, _, _⟩⟩ := hst hp1
      · have e9 := Sum.inl.inj ho
        cases e9
        exact ⟨X2, S2, _, 0, rfl, ⟨hI2, hb2.trans hb, hd1', hd2'⟩, Sum.inl.inj hv, h0, fun _ => hf⟩
      · cases he
    · obtain ⟨X2, S2, rfl, hI2, hb2, ⟨ho, h0⟩ | ⟨E2, he, h0, hc⟩⟩ := hst hp1
      · cases ho
      · cases he
        refine ⟨X2, S2, _, _, rfl, ⟨hI2, hb2.trans hb, hd1', hd2'⟩, Sum.inl.inj hv, h0, fun z => ?_⟩
        rcases hc with rfl | rfl | rfl <;> exact absurd z (by decide)
  subst hv
  obtain ⟨hI2, hb2, hd1', hd2'⟩ := id hL2
  refine x_istore5 (pc := 253) G dl_253 (by decide) rfl ?_
  refine x_aload2 (pc := 255) G dl_255 ?_
  refine x_aload0 (pc := 256) G dl_256 ?_
  refine x_iload4 (pc := 257) G dl_257 ?_
  refine x_iconst (pc := 259) (v := 1) G dl_259 (by decide) ?_
  refine x_iadd (pc := 260) G dl_260 ?_
  refine x_sld (pc := 261) G hX hbl hbA hx1 dl_261 ?_
  refine x_aload0 (pc := 262) G dl_262 ?_
  refine x_iload4 (pc := 263) G dl_263 ?_
  refine x_iconst (pc := 265) (v := 2) G dl_265 (by decide) ?_
  refine x_iadd (pc := 266) G dl_266 ?_
  refine x_sld (pc := 267) G hX hbl hbA hx2 dl_267 ?_
  have hr := rc_person (k := k) hl hH hI.2.2.2 (p1 := (xs (nI i + 1).toNatClampNeg)) (p2 := (xs (nI i + 2).toNatClampNeg))
  refine Wx_perm hd2' ?_
  refine x_callV (pc := 268) (bc1 := bc1) (bs1 := bs1) (n := 2) (As := [.int (xs (nI i + 1).toNatClampNeg), .int (xs (nI i + 2).toNatClampNeg)]) G (hr.frame (fun a ha z => hd2' a z ha)) (List.mem_append_left _ mW_mo.1) ((if_pos mW_mo.1).trans mW_mo.2) (show vwCl[12]? = some (_, _, _) from rfl) q_ml_L_171 q_im_yX11_person q_se_yX11_person q_in_X11 q_co_yX11_person ⟨by decide, by decide, by decide +kernel⟩ ⟨Nat.le_of_ble_eq_true rfl, Nat.le_of_ble_eq_true rfl⟩ (Nat.zero_le _) (Nat.le_refl _) (Nat.le_refl _) rfl rfl dl_268 (fun v w9 hp => ?_) (fun E w9 hp => by obtain ⟨_, hq, _⟩ := hp; cases hq.1)
  obtain ⟨h9, ⟨hv, rfl⟩, _, rfl⟩ := hp
  have hv := Sum.inl.inj hv
  subst hv
  refine Wx_perm (fun a ha z => hd2' a z ha) ?_
  refine x_istore6 (pc := 271) G dl_271 (by decide) rfl ?_
  refine x_aload2 (pc := 273) G dl_273 ?_
  refine Wx_perm hd2' ?_
  refine x_callV (pc := 274) (bc1 := bc1) (bs1 := bs1) (n := 0) (As := []) G ((c_thrown (k := k) (M := (f_person (xs (nI i + 1).toNatClampNeg) (xs (nI i + 2).toNatClampNeg) M).2) hl hH).frame (fun a ha z => hd2' a z ha)) (List.mem_append_left _ mW_mo.1) ((if_pos mW_mo.1).trans mW_mo.2) (show vwCl[12]? = some (_, _, _) from rfl) q_ml_L_172 q_im_yX11_thrown q_se_yX11_thrown q_in_X11 q_co_yX11_thrown ⟨by decide, by decide, by decide +kernel⟩ ⟨Nat.le_of_ble_eq_true rfl, Nat.le_of_ble_eq_true rfl⟩ (Nat.zero_le _) (Nat.le_refl _) (Nat.le_refl _) rfl rfl dl_274 (fun v w9 hp => ?_) (fun E w9 hp => by obtain ⟨_, hq, _⟩ := hp; cases hq.1)
  obtain ⟨h9, ⟨hv, rfl⟩, _, rfl⟩ := hp
  have hv := Sum.inl.inj hv
  subst hv
  refine Wx_perm (fun a ha z => hd2' a z ha) ?_
  refine x_iload5 (pc := 277) G dl_277 ?_
  refine x_icmp_eq (pc := 279) (tgt := 284) G dl_279 rfl (fun _ => ?_) (fun z9 => absurd hk z9)
  refine x_iload5 (pc := 284) G dl_284 ?_
  refine x_if_ne (pc := 286) (tgt := 301) (y := 0) G dl_286 rfl (fun _ => ?_) (fun z9 => ?_)
  · skip
    refine x_goto (pc := 301) (tgt := 3248) G dl_301 rfl ?_
    exact Wx_l8 (hend X2 S2 _ f2 hL2)
  · have hf := hz z9
    refine x_aload3 (pc := 289) G dl_289 ?_
    refine x_iconst (pc := 290) (v := 0) G dl_290 (by decide) ?_
    refine x_old (pc := 291) G hd1' dl_291 ?_
    refine x_iload6 (pc := 292) G dl_292 ?_
    refine x_i2l (pc := 294) G dl_294 ?_
    refine x_lcmp (pc := 295) G dl_295 ?_
    refine x_if_eq (pc := 296) (tgt := 301) (y := 0) G dl_296 rfl (fun _ => ?_) (fun z8 => absurd (lg_same hf) z8)
    refine x_goto (pc := 301) (tgt := 3248) G dl_301 rfl ?_
    exact Wx_l8 (hend X2 S2 _ f2 hL2)
theorem dl_304 : decode cL_law 304 = .ok (.aload_n 1, 1) := by decide +kernel
theorem dl_305 : decode cL_law 305 = .ok (.aload_n 0, 1) := by decide +kernel
theorem dl_306 : decode cL_law 306 = .ok (.iload 4, 2) := by decide +kernel
theorem dl_308 : decode cL_law 308 = .ok (.iconst 1, 1) := by decide +kernel
theorem dl_309 : decode cL_law 309 = .ok (.iadd, 1) := by decide +kernel
theorem dl_310 : decode cL_law 310 = .ok (.iaload, 1) := by decide +kernel
theorem dl_311 : decode cL_law 311 = .ok (.aload_n 0, 1) := by decide +kernel
theorem dl_312 : decode cL_law 312 = .ok (.iload 4, 2) := by decide +kernel
theorem dl_314 : decode cL_law 314 = .ok (.iconst 2, 1) := by decide +kernel
theorem dl_315 : decode cL_law 315 = .ok (.iadd, 1) := by decide +kernel
theorem dl_316 : decode cL_law 316 = .ok (.iaload, 1) := by decide +kernel
theorem dl_317 : decode cL_law 317 = .ok (.aload_n 0, 1) := by decide +kernel
theorem dl_318 : decode cL_law 318 = .ok (.iload 4, 2) := by decide +kernel
theorem dl_320 : decode cL_law 320 = .ok (.iconst 3, 1) := by decide +kernel
theorem dl_321 : decode cL_law 321 = .ok (.iadd, 1) := by decide +kernel
theorem dl_322 : decode cL_law 322 = .ok (.iaload, 1) := by decide +kernel
theorem dl_323 : decode cL_law 323 = .ok (.invokestatic 176, 3) := by decide +kernel
theorem dl_326 : decode cL_law 326 = .ok (.istore 5, 2) := by decide +kernel
theorem dl_328 : decode cL_law 328 = .ok (.aload_n 2, 1) := by decide +kernel
theorem dl_329 : decode cL_law 329 = .ok (.aload_n 0, 1) := by decide +kernel
theorem dl_330 : decode cL_law 330 = .ok (.iload 4, 2) := by decide +kernel
theorem dl_332 : decode cL_law 332 = .ok (.iconst 1, 1) := by decide +kernel
theorem dl_333 : decode cL_law 333 = .ok (.iadd, 1) := by decide +kernel
theorem dl_334 : decode cL_law 334 = .ok (.iaload, 1) := by decide +kernel
theorem dl_335 : decode cL_law 335 = .ok (.aload_n 0, 1) := by decide +kernel
theorem dl_336 : decode cL_law 336 = .ok (.iload 4, 2) := by decide +kernel
theorem dl_338 : decode cL_law 338 = .ok (.iconst 2, 1) := by decide +kernel
theorem dl_339 : decode cL_law 339 = .ok (.iadd, 1) := by decide +kernel
theorem dl_340 : decode cL_law 340 = .ok (.iaload, 1) := by decide +kernel
theorem dl_341 : decode cL_law 341 = .ok (.aload_n 0, 1) := by decide +kernel
theorem dl_342 : decode cL_law 342 = .ok (.iload 4, 2) := by decide +kernel
theorem dl_344 : decode cL_law 344 = .ok (.iconst 3, 1) := by decide +kernel
theorem dl_345 : decode cL_law 345 = .ok (.iadd, 1) := by decide +kernel
theorem dl_346 : decode cL_law 346 = .ok (.iaload, 1) := by decide +kernel
theorem dl_347 : decode cL_law 347 = .ok (.invokevirtual 179, 3) := by decide +kernel
theorem dl_350 : decode cL_law 350 = .ok (.aload_n 2, 1) := by decide +kernel
theorem dl_351 : decode cL_law 351 = .ok (.invokevirtual 172, 3) := by decide +kernel
theorem dl_354 : decode cL_law 354 = .ok (.iload 5, 2) := by decide +kernel
theorem dl_356 : decode cL_law 356 = .ok (.if_icmp .eq 5, 3) := by decide +kernel
theorem dl_359 : decode cL_law 359 = .ok (.iconst 0, 1) := by decide +kernel
theorem dl_360 : decode cL_law 360 = .ok (.ireturn, 1) := by decide +kernel
theorem dl_361 : decode cL_law 361 = .ok (.goto 2887, 3) := by decide +kernel
set_option maxRecDepth 100000 in
set_option maxHeartbeats 4000000 in
theorem lk_absent {p : Program} {l : Launch} {e : Env} {s : State} {m : MethodId} {args : Array Value} {below : List Frame} {meth : Method} {c : Code} {k : KC} {A : Nat → Prop} {Q : State → Prop} {bc1 bs1 b0 Ln b ao mo i : Nat} {xs : Nat → Int32} {ad : Nat → Nat} {f : Nat → Int64} {X : CX} {S : CT} {M : MS} {rt9 : Option FieldType} (hl : l.stackTraces = false) (G : GX p l room_1 s m args meth c k A RL cL_law 8 rt9) (hX : va_X b0 Ln xs s s.heap) (hbl : b0 < s.heap.size) (hbA : ¬ A b0) (hH : HM mo ad) (hi : i + 8 ≤ Ln) (hL : Ln ≤ 4096) (h : LV9 k b X S ao f mo ad M) (hend : ∀ X2 S2 M2 f2, LV9 k b X2 S2 ao f2 mo ad M2 → Wx p l e room_1 s m args below meth c k A 8 Q bc1 bs1 3248 [some (.ref b0), some (.ref b), some (.ref mo), some (.ref ao), some (.int (nI i)), none, none, none] [] (WL k X2 S2 ao f2 mo ad M2)) : Wx p l e room_1 s m args below meth c k A 8 Q (bc1 + 1) (bs1 + 6) 304 [some (.ref b0), some (.ref b), some (.ref mo), some (.ref ao), some (.int (nI i)), none, none, none] [] (WL k X S ao f mo ad M) := by
  obtain ⟨hI, hb, hd1, hd2⟩ := h
  obtain ⟨hbm, fs, hbf⟩ := cw11 (k := k) (S := S) hI.1 hb
  have hvr := vr11 hb
  have hx1 : vp_in (nI i + 1) Ln := ix_in (j := 1) rfl (by omega) hL
  have hx2 : vp_in (nI i + 2) Ln := ix_in (j := 2) rfl (by omega) hL
  have hx3 : vp_in (nI i + 3) Ln := ix_in (j := 3) rfl (by omega) hL
  unfold WL
  refine x_aload1 (pc := 304) G dl_304 ?_
  refine x_aload0 (pc := 305) G dl_305 ?_
  refine x_iload4 (pc := 306) G dl_306 ?_
  refine x_iconst (pc := 308) (v := 1) G dl_308 (by decide) ?_
  refine x_iadd (pc := 309) G dl_309 ?_
  refine x_sld (pc := 310) G hX hbl hbA hx1 dl_310 ?_
  refine x_aload0 (pc := 311) G dl_311 ?_
  refine x_iload4 (pc := 312) G dl_312 ?_
  refine x_iconst (pc := 314) (v := 2) G dl_314 (by decide) ?_
  refine x_iadd (pc := 315) G dl_315 ?_
  refine x_sld (pc := 316) G hX hbl hbA hx2 dl_316 ?_
  refine x_aload0 (pc := 317) G dl_317 ?_
  refine x_iload4 (pc := 318) G dl_318 ?_
  refine x_iconst (pc := 320) (v := 3) G dl_320 (by decide) ?_
  refine x_iadd (pc := 321) G dl_321 ?_
  refine x_sld (pc := 322) G hX hbl hbA hx3 dl_322 ?_
  have hC := kc_absent (k := k) hl hI (p1 := (xs (nI i + 1).toNatClampNeg)) (p2 := (xs (nI i + 2).toNatClampNeg)) (p3 := (xs (nI i + 3).toNatClampNeg))
  rw [hvr] at hC
  have hst := fun {o : Out} {w : Wd} => so_absent (k := k) (o := o) (w := w) (p1 := (xs (nI i + 1).toNatClampNeg)) (p2 := (xs (nI i + 2).toNatClampNeg)) (p3 := (xs (nI i + 3).toNatClampNeg)) hI
  have hh := ch_absent hl hbm hbf hC (fun o w hp => by
    obtain ⟨_, _, _, _, _, ⟨ho, _⟩ | ⟨E, he, _, hc⟩⟩ := hst hp
    · exact Or.inl ho
    · exact Or.inr ⟨E, he, hc⟩)
  have hh := MI.frame hh hd1
  have hh := MI.frame hh hd2
  refine x_callSW (pc := 323) (bc1 := bc1) (bs1 := bs1) (n := 4) (As := [.ref b, .int (xs (nI i + 1).toNatClampNeg), .int (xs (nI i + 2).toNatClampNeg), .int (xs (nI i + 3).toNatClampNeg)]) G hh q_ml_L_176 q_st_yL_absent q_in_L q_cw_absent ⟨by decide, by decide, by decide +kernel⟩ ⟨Nat.le_of_ble_eq_true rfl, Nat.le_of_ble_eq_true rfl⟩ (Nat.zero_le _) (Nat.le_refl _) (Nat.le_refl _) rfl rfl dl_323 (fun v w9 hp => ?_)
  obtain ⟨X2, S2, f2, kc, rfl, hL2, hv, hk, hz⟩ : ∃ X2 S2 f2 kc, w9 = wu (wu (cW k X2 S2) (oW k ao f2)) (mW k mo ad M) ∧ LV9 k b X2 S2 ao f2 mo ad (f_absent (xs (nI i + 1).toNatClampNeg) (xs (nI i + 2).toNatClampNeg) (xs (nI i + 3).toNatClampNeg) M) ∧ v = some (.int kc) ∧ mI (f_absent (xs (nI i + 1).toNatClampNeg) (xs (nI i + 2).toNatClampNeg) (xs (nI i + 3).toNatClampNeg) M) 0 = kc ∧ (kc = 0 → True) := by
    obtain ⟨h9, ⟨h8, ⟨w1, rfl, hpp⟩, hd1', rfl⟩, hd2', rfl⟩ := hp
    rcases hpp with ⟨hp1, hv⟩ | ⟨E, hp1, hv⟩
    · obtain ⟨X2, S2, rfl, hI2, hb2, ⟨ho, h0⟩ | ⟨E, he, _, _⟩⟩ := hst hp1
      · exact ⟨X2, S2, _, 0, rfl, ⟨hI2, hb2.trans hb, hd1', hd2'⟩, Sum.inl.inj hv, h0, fun _ => trivial⟩
      · cases he
    · obtain ⟨X2, S2, rfl, hI2, hb2, ⟨ho, h0⟩ | ⟨E2, he, h0, hc⟩⟩ := hst hp1
      · cases ho
      · cases he
        refine ⟨X2, S2, _, _, rfl, ⟨hI2, hb2.trans hb, hd1', hd2'⟩, Sum.inl.inj hv, h0, fun z => ?_⟩
        rcases hc with rfl | rfl <;> exact absurd z (by decide)
  subst hv
  obtain ⟨hI2, hb2, hd1', hd2'⟩ := id hL2
  refine x_istore5 (pc := 326) G dl_326 (by decide) rfl ?_
  refine x_aload2 (pc := 328) G dl_328 ?_
  refine x_aload0 (pc := 329) G dl_329 ?_
  refine x_iload4 (pc := 330) G dl_330 ?_
  refine x_iconst (pc := 332) (v := 1) G dl_332 (by decide) ?_
  refine x_iadd (pc := 333) G dl_333 ?_
  refine x_sld (pc := 334) G hX hbl hbA hx1 dl_334 ?_
  refine x_aload0 (pc := 335) G dl_335 ?_
  refine x_iload4 (pc := 336) G dl_336 ?_
  refine x_iconst (pc := 338) (v := 2) G dl_338 (by decide) ?_
  refine x_iadd (pc := 339) G dl_339 ?_
  refine x_sld (pc := 340) G hX hbl hbA hx2 dl_340 ?_
  refine x_aload0 (pc := 341) G dl_341 ?_
  refine x_iload4 (pc := 342) G dl_342 ?_
  refine x_iconst (pc := 344) (v := 3) G dl_344 (by decide) ?_
  refine x_iadd (pc := 345) G dl_345 ?_
  refine x_sld (pc := 346) G hX hbl hbA hx3 dl_346 ?_
  have hr := rc_absent (k := k) hl hH hI.2.2.2 (p1 := (xs (nI i + 1).toNatClampNeg)) (p2 := (xs (nI i + 2).toNatClampNeg)) (p3 := (xs (nI i + 3).toNatClampNeg))
  refine Wx_perm hd2' ?_
  refine x_callV (pc := 347) (bc1 := bc1) (bs1 := bs1) (n := 3) (As := [.int (xs (nI i + 1).toNatClampNeg), .int (xs (nI i + 2).toNatClampNeg), .int (xs (nI i + 3).toNatClampNeg)]) G (hr.frame (fun a ha z => hd2' a z ha)) (List.mem_append_left _ mW_mo.1) ((if_pos mW_mo.1).trans mW_mo.2) (show vwCl[12]? = some (_, _, _) from rfl) q_ml_L_179 q_im_yX11_absent q_se_yX11_absent q_in_X11 q_co_yX11_absent ⟨by decide, by decide, by decide +kernel⟩ ⟨Nat.le_of_ble_eq_true rfl, Nat.le_of_ble_eq_true rfl⟩ (Nat.zero_le _) (Nat.le_refl _) (Nat.le_refl _) rfl rfl dl_347 (fun v w9 hp => ?_) (fun E w9 hp => by obtain ⟨_, hq, _⟩ := hp; cases hq.1)
  obtain ⟨h9, ⟨hv, rfl⟩, _, rfl⟩ := hp
  have hv := Sum.inl.inj hv
  subst hv
  refine Wx_perm (fun a ha z => hd2' a z ha) ?_
  refine x_aload2 (pc := 350) G dl_350 ?_
  refine Wx_perm hd2' ?_
  refine x_callV (pc := 351) (bc1 := bc1) (bs1 := bs1) (n := 0) (As := []) G ((c_thrown (k := k) (M := (f_absent (xs (nI i + 1).toNatClampNeg) (xs (nI i + 2).toNatClampNeg) (xs (nI i + 3).toNatClampNeg) M)) hl hH).frame (fun a ha z => hd2' a z ha)) (List.mem_append_left _ mW_mo.1) ((if_pos mW_mo.1).trans mW_mo.2) (show vwCl[12]? = some (_, _, _) from rfl) q_ml_L_172 q_im_yX11_thrown q_se_yX11_thrown q_in_X11 q_co_yX11_thrown ⟨by decide, by decide, by decide +kernel⟩ ⟨Nat.le_of_ble_eq_true rfl, Nat.le_of_ble_eq_true rfl⟩ (Nat.zero_le _) (Nat.le_refl _) (Nat.le_refl _) rfl rfl dl_351 (fun v w9 hp => ?_) (fun E w9 hp => by obtain ⟨_, hq, _⟩ := hp; cases hq.1)
  obtain ⟨h9, ⟨hv, rfl⟩, _, rfl⟩ := hp
  have hv := Sum.inl.inj hv
  subst hv
  refine Wx_perm (fun a ha z => hd2' a z ha) ?_
  refine x_iload5 (pc := 354) G dl_354 ?_
  refine x_icmp_eq (pc := 356) (tgt := 361) G dl_356 rfl (fun _ => ?_) (fun z9 => absurd hk z9)
  refine x_goto (pc := 361) (tgt := 3248) G dl_361 rfl ?_
  exact Wx_l8 (hend X2 S2 _ f2 hL2)
theorem dl_364 : decode cL_law 364 = .ok (.aload_n 1, 1) := by decide +kernel
theorem dl_365 : decode cL_law 365 = .ok (.aload_n 0, 1) := by decide +kernel
theorem dl_366 : decode cL_law 366 = .ok (.iload 4, 2) := by decide +kernel
theorem dl_368 : decode cL_law 368 = .ok (.iconst 1, 1) := by decide +kernel
theorem dl_369 : decode cL_law 369 = .ok (.iadd, 1) := by decide +kernel
theorem dl_370 : decode cL_law 370 = .ok (.iaload, 1) := by decide +kernel
theorem dl_371 : decode cL_law 371 = .ok (.aload_n 3, 1) := by decide +kernel
theorem dl_372 : decode cL_law 372 = .ok (.invokestatic 180, 3) := by decide +kernel
theorem dl_375 : decode cL_law 375 = .ok (.istore 5, 2) := by decide +kernel
theorem dl_377 : decode cL_law 377 = .ok (.aload_n 2, 1) := by decide +kernel
theorem dl_378 : decode cL_law 378 = .ok (.aload_n 0, 1) := by decide +kernel
theorem dl_379 : decode cL_law 379 = .ok (.iload 4, 2) := by decide +kernel
theorem dl_381 : decode cL_law 381 = .ok (.iconst 1, 1) := by decide +kernel
theorem dl_382 : decode cL_law 382 = .ok (.iadd, 1) := by decide +kernel
theorem dl_383 : decode cL_law 383 = .ok (.iaload, 1) := by decide +kernel
theorem dl_384 : decode cL_law 384 = .ok (.invokevirtual 183, 3) := by decide +kernel
theorem dl_387 : decode cL_law 387 = .ok (.istore 6, 2) := by decide +kernel
theorem dl_389 : decode cL_law 389 = .ok (.aload_n 2, 1) := by decide +kernel
theorem dl_390 : decode cL_law 390 = .ok (.invokevirtual 172, 3) := by decide +kernel
theorem dl_393 : decode cL_law 393 = .ok (.iload 5, 2) := by decide +kernel
theorem dl_395 : decode cL_law 395 = .ok (.if_icmp .eq 5, 3) := by decide +kernel
theorem dl_398 : decode cL_law 398 = .ok (.iconst 0, 1) := by decide +kernel
theorem dl_399 : decode cL_law 399 = .ok (.ireturn, 1) := by decide +kernel
theorem dl_400 : decode cL_law 400 = .ok (.iload 5, 2) := by decide +kernel
theorem dl_402 : decode cL_law 402 = .ok (.ifCond .ne 15, 3) := by decide +kernel
theorem dl_405 : decode cL_law 405 = .ok (.aload_n 3, 1) := by decide +kernel
theorem dl_406 : decode cL_law 406 = .ok (.iconst 0, 1) := by decide +kernel
theorem dl_407 : decode cL_law 407 = .ok (.laload, 1) := by decide +kernel
theorem dl_408 : decode cL_law 408 = .ok (.iload 6, 2) := by decide +kernel
theorem dl_410 : decode cL_law 410 = .ok (.i2l, 1) := by decide +kernel
theorem dl_411 : decode cL_law 411 = .ok (.lcmp, 1) := by decide +kernel
theorem dl_412 : decode cL_law 412 = .ok (.ifCond .eq 5, 3) := by decide +kernel
theorem dl_415 : decode cL_law 415 = .ok (.iconst 0, 1) := by decide +kernel
theorem dl_416 : decode cL_law 416 = .ok (.ireturn, 1) := by decide +kernel
theorem dl_417 : decode cL_law 417 = .ok (.goto 2831, 3) := by decide +kernel
set_option maxRecDepth 100000 in
set_option maxHeartbeats 4000000 in
theorem lk_controller {p : Program} {l : Launch} {e : Env} {s : State} {m : MethodId} {args : Array Value} {below : List Frame} {meth : Method} {c : Code} {k : KC} {A : Nat → Prop} {Q : State → Prop} {bc1 bs1 b0 Ln b ao mo i : Nat} {xs : Nat → Int32} {ad : Nat → Nat} {f : Nat → Int64} {X : CX} {S : CT} {M : MS} {rt9 : Option FieldType} (hl : l.stackTraces = false) (G : GX p l room_1 s m args meth c k A RL cL_law 8 rt9) (hX : va_X b0 Ln xs s s.heap) (hbl : b0 < s.heap.size) (hbA : ¬ A b0) (hH : HM mo ad) (hi : i + 8 ≤ Ln) (hL : Ln ≤ 4096) (h : LV9 k b X S ao f mo ad M) (hend : ∀ X2 S2 M2 f2, LV9 k b X2 S2 ao f2 mo ad M2 → Wx p l e room_1 s m args below meth c k A 8 Q bc1 bs1 3248 [some (.ref b0), some (.ref b), some (.ref mo), some (.ref ao), some (.int (nI i)), none, none, none] [] (WL k X2 S2 ao f2 mo ad M2)) : Wx p l e room_1 s m args below meth c k A 8 Q (bc1 + 1) (bs1 + 6) 364 [some (.ref b0), some (.ref b), some (.ref mo), some (.ref ao), some (.int (nI i)), none, none, none] [] (WL k X S ao f mo ad M) := by
  obtain ⟨hI, hb, hd1, hd2⟩ := h
  obtain ⟨hbm, fs, hbf⟩ := cw11 (k := k) (S := S) hI.1 hb
  have hvr := vr11 hb
  have hx1 : vp_in (nI i + 1) Ln := ix_in (j := 1) rfl (by omega) hL
  unfold WL
  refine x_aload1 (pc := 364) G dl_364 ?_
  refine x_aload0 (pc := 365) G dl_365 ?_
  refine x_iload4 (pc := 366) G dl_366 ?_
  refine x_iconst (pc := 368) (v := 1) G dl_368 (by decide) ?_
  refine x_iadd (pc := 369) G dl_369 ?_
  refine x_sld (pc := 370) G hX hbl hbA hx1 dl_370 ?_
  refine x_aload3 (pc := 371) G dl_371 ?_
  have hC := kc_controller (k := k) hl hI (p1 := (xs (nI i + 1).toNatClampNeg))
  rw [hvr] at hC
  have hst := fun {o : Out} {w : Wd} => so_controller (k := k) (o := o) (w := w) (p1 := (xs (nI i + 1).toNatClampNeg)) hI
  have hh := ch_controller hl hbm hbf hd1 hC (fun o w hp => by
    obtain ⟨_, _, _, _, _, ⟨ho, _⟩ | ⟨E, he, _, hc⟩⟩ := hst hp
    · exact Or.inl ⟨_, ho⟩
    · exact Or.inr ⟨E, he, hc⟩)
  have hh := MI.frame hh hd2
  refine x_callSW (pc := 372) (bc1 := bc1) (bs1 := bs1) (n := 3) (As := [.ref b, .int (xs (nI i + 1).toNatClampNeg), .ref ao]) G hh q_ml_L_180 q_st_yL_controller q_in_L q_cw_controller ⟨by decide, by decide, by decide +kernel⟩ ⟨Nat.le_of_ble_eq_true rfl, Nat.le_of_ble_eq_true rfl⟩ (Nat.zero_le _) (Nat.le_refl _) (Nat.le_refl _) rfl rfl dl_372 (fun v w9 hp => ?_)
  obtain ⟨X2, S2, f2, kc, rfl, hL2, hv, hk, hz⟩ : ∃ X2 S2 f2 kc, w9 = wu (wu (cW k X2 S2) (oW k ao f2)) (mW k mo ad M) ∧ LV9 k b X2 S2 ao f2 mo ad (f_controller (xs (nI i + 1).toNatClampNeg) M).2 ∧ v = some (.int kc) ∧ mI (f_controller (xs (nI i + 1).toNatClampNeg) M).2 0 = kc ∧ (kc = 0 → f2 0 = (f_controller (xs (nI i + 1).toNatClampNeg) M).1.toInt64) := by
    obtain ⟨h9, ⟨w1, f1, rfl, hd1', hpp⟩, hd2', rfl⟩ := hp
    rcases hpp with ⟨r, hp1, hv, hf⟩ | ⟨E, hp1, hv⟩
    · obtain ⟨X2, S2, rfl, hI2, hb2, ⟨ho, h0⟩ | ⟨E, he, _, _⟩⟩ := hst hp1
      · have e9 := Sum.inl.inj ho
        cases e9
        exact ⟨X2, S2, _, 0, rfl, ⟨hI2, hb2.trans hb, hd1', hd2'⟩, Sum.inl.inj hv, h0, fun _ => hf⟩
      · cases he
    · obtain ⟨X2, S2, rfl, hI2, hb2, ⟨ho, h0⟩ | ⟨E2, he, h0, hc⟩⟩ := hst hp1
      · cases ho
      · cases he
        refine ⟨X2, S2, _, _, rfl, ⟨hI2, hb2.trans hb, hd1', hd2'⟩, Sum.inl.inj hv, h0, fun z => ?_⟩
        rcases hc with rfl <;> exact absurd z (by decide)
  subst hv
  obtain ⟨hI2, hb2, hd1', hd2'⟩ := id hL2
  refine x_istore5 (pc := 375) G dl_375 (by decide) rfl ?_
  refine x_aload2 (pc := 377) G dl_377 ?_
  refine x_aload0 (pc := 378) G dl_378 ?_
  refine x_iload4 (pc := 379) G dl_379 ?_
  refine x_iconst (pc := 381) (v := 1) G dl_381 (by decide) ?_
  refine x_iadd (pc := 382) G dl_382 ?_
  refine x_sld (pc := 383) G hX hbl hbA hx1 dl_383 ?_
  have hr := rc_controller (k := k) hl hH hI.2.2.2 (p1 := (xs (nI i + 1).toNatClampNeg))
  refine Wx_perm hd2' ?_
  refine x_callV (pc := 384) (bc1 := bc1) (bs1 := bs1) (n := 1) (As := [.int (xs (nI i + 1).toNatClampNeg)]) G (hr.frame (fun a ha z => hd2' a z ha)) (List.mem_append_left _ mW_mo.1) ((if_pos mW_mo.1).trans mW_mo.2) (show vwCl[12]? = some (_, _, _) from rfl) q_ml_L_183 q_im_yX11_controller q_se_yX11_controller q_in_X11 q_co_yX11_controller ⟨by decide, by decide, by decide +kernel⟩ ⟨Nat.le_of_ble_eq_true rfl, Nat.le_of_ble_eq_true rfl⟩ (Nat.zero_le _) (Nat.le_refl _) (Nat.le_refl _) rfl rfl dl_384 (fun v w9 hp => ?_) (fun E w9 hp => by obtain ⟨_, hq, _⟩ := hp; cases hq.1)
  obtain ⟨h9, ⟨hv, rfl⟩, _, rfl⟩ := hp
  have hv := Sum.inl.inj hv
  subst hv
  refine Wx_perm (fun a ha z => hd2' a z ha) ?_
  refine x_istore6 (pc := 387) G dl_387 (by decide) rfl ?_
  refine x_aload2 (pc := 389) G dl_389 ?_
  refine Wx_perm hd2' ?_
  refine x_callV (pc := 390) (bc1 := bc1) (bs1 := bs1) (n := 0) (As := []) G ((c_thrown (k := k) (M := (f_controller (xs (nI i + 1).toNatClampNeg) M).2) hl hH).frame (fun a ha z => hd2' a z ha)) (List.mem_append_left _ mW_mo.1) ((if_pos mW_mo.1).trans mW_mo.2) (show vwCl[12]? = some (_, _, _) from rfl) q_ml_L_172 q_im_yX11_thrown q_se_yX11_thrown q_in_X11 q_co_yX11_thrown ⟨by decide, by decide, by decide +kernel⟩ ⟨Nat.le_of_ble_eq_true rfl, Nat.le_of_ble_eq_true rfl⟩ (Nat.zero_le _) (Nat.le_refl _) (Nat.le_refl _) rfl rfl dl_390 (fun v w9 hp => ?_) (fun E w9 hp => by obtain ⟨_, hq, _⟩ := hp; cases hq.1)
  obtain ⟨h9, ⟨hv, rfl⟩, _, rfl⟩ := hp
  have hv := Sum.inl.inj hv
  subst hv
  refine Wx_perm (fun a ha z => hd2' a z ha) ?_
  refine x_iload5 (pc := 393) G dl_393 ?_
  refine x_icmp_eq (pc := 395) (tgt := 400) G dl_395 rfl (fun _ => ?_) (fun z9 => absurd hk z9)
  refine x_iload5 (pc := 400) G dl_400 ?_
  refine x_if_ne (pc := 402) (tgt := 417) (y := 0) G dl_402 rfl (fun _ => ?_) (fun z9 => ?_)
  · skip
    refine x_goto (pc := 417) (tgt := 3248) G dl_417 rfl ?_
    exact Wx_l8 (hend X2 S2 _ f2 hL2)
  · have hf := hz z9
    refine x_aload3 (pc := 405) G dl_405 ?_
    refine x_iconst (pc := 406) (v := 0) G dl_406 (by decide) ?_
    refine x_old (pc := 407) G hd1' dl_407 ?_
    refine x_iload6 (pc := 408) G dl_408 ?_
    refine x_i2l (pc := 410) G dl_410 ?_
    refine x_lcmp (pc := 411) G dl_411 ?_
    refine x_if_eq (pc := 412) (tgt := 417) (y := 0) G dl_412 rfl (fun _ => ?_) (fun z8 => absurd (lg_same hf) z8)
    refine x_goto (pc := 417) (tgt := 3248) G dl_417 rfl ?_
    exact Wx_l8 (hend X2 S2 _ f2 hL2)
theorem dl_420 : decode cL_law 420 = .ok (.aload_n 1, 1) := by decide +kernel
theorem dl_421 : decode cL_law 421 = .ok (.aload_n 0, 1) := by decide +kernel
theorem dl_422 : decode cL_law 422 = .ok (.iload 4, 2) := by decide +kernel
theorem dl_424 : decode cL_law 424 = .ok (.iconst 1, 1) := by decide +kernel
theorem dl_425 : decode cL_law 425 = .ok (.iadd, 1) := by decide +kernel
theorem dl_426 : decode cL_law 426 = .ok (.iaload, 1) := by decide +kernel
theorem dl_427 : decode cL_law 427 = .ok (.aload_n 0, 1) := by decide +kernel
theorem dl_428 : decode cL_law 428 = .ok (.iload 4, 2) := by decide +kernel
theorem dl_430 : decode cL_law 430 = .ok (.iconst 2, 1) := by decide +kernel
theorem dl_431 : decode cL_law 431 = .ok (.iadd, 1) := by decide +kernel
theorem dl_432 : decode cL_law 432 = .ok (.iaload, 1) := by decide +kernel
theorem dl_433 : decode cL_law 433 = .ok (.aload_n 0, 1) := by decide +kernel
theorem dl_434 : decode cL_law 434 = .ok (.iload 4, 2) := by decide +kernel
theorem dl_436 : decode cL_law 436 = .ok (.iconst 3, 1) := by decide +kernel
theorem dl_437 : decode cL_law 437 = .ok (.iadd, 1) := by decide +kernel
theorem dl_438 : decode cL_law 438 = .ok (.iaload, 1) := by decide +kernel
theorem dl_439 : decode cL_law 439 = .ok (.aload_n 3, 1) := by decide +kernel
theorem dl_440 : decode cL_law 440 = .ok (.invokestatic 184, 3) := by decide +kernel
theorem dl_443 : decode cL_law 443 = .ok (.istore 5, 2) := by decide +kernel
theorem dl_445 : decode cL_law 445 = .ok (.aload_n 2, 1) := by decide +kernel
theorem dl_446 : decode cL_law 446 = .ok (.aload_n 0, 1) := by decide +kernel
theorem dl_447 : decode cL_law 447 = .ok (.iload 4, 2) := by decide +kernel
theorem dl_449 : decode cL_law 449 = .ok (.iconst 1, 1) := by decide +kernel
theorem dl_450 : decode cL_law 450 = .ok (.iadd, 1) := by decide +kernel
theorem dl_451 : decode cL_law 451 = .ok (.iaload, 1) := by decide +kernel
theorem dl_452 : decode cL_law 452 = .ok (.aload_n 0, 1) := by decide +kernel
theorem dl_453 : decode cL_law 453 = .ok (.iload 4, 2) := by decide +kernel
theorem dl_455 : decode cL_law 455 = .ok (.iconst 2, 1) := by decide +kernel
theorem dl_456 : decode cL_law 456 = .ok (.iadd, 1) := by decide +kernel
theorem dl_457 : decode cL_law 457 = .ok (.iaload, 1) := by decide +kernel
theorem dl_458 : decode cL_law 458 = .ok (.aload_n 0, 1) := by decide +kernel
theorem dl_459 : decode cL_law 459 = .ok (.iload 4, 2) := by decide +kernel
theorem dl_461 : decode cL_law 461 = .ok (.iconst 3, 1) := by decide +kernel
theorem dl_462 : decode cL_law 462 = .ok (.iadd, 1) := by decide +kernel
theorem dl_463 : decode cL_law 463 = .ok (.iaload, 1) := by decide +kernel
theorem dl_464 : decode cL_law 464 = .ok (.invokevirtual 187, 3) := by decide +kernel
theorem dl_467 : decode cL_law 467 = .ok (.lstore 6, 2) := by decide +kernel
theorem dl_469 : decode cL_law 469 = .ok (.aload_n 2, 1) := by decide +kernel
theorem dl_470 : decode cL_law 470 = .ok (.invokevirtual 172, 3) := by decide +kernel
theorem dl_473 : decode cL_law 473 = .ok (.iload 5, 2) := by decide +kernel
theorem dl_475 : decode cL_law 475 = .ok (.if_icmp .eq 5, 3) := by decide +kernel
theorem dl_478 : decode cL_law 478 = .ok (.iconst 0, 1) := by decide +kernel
theorem dl_479 : decode cL_law 479 = .ok (.ireturn, 1) := by decide +kernel
theorem dl_480 : decode cL_law 480 = .ok (.iload 5, 2) := by decide +kernel
theorem dl_482 : decode cL_law 482 = .ok (.ifCond .ne 14, 3) := by decide +kernel
theorem dl_485 : decode cL_law 485 = .ok (.aload_n 3, 1) := by decide +kernel
theorem dl_486 : decode cL_law 486 = .ok (.iconst 0, 1) := by decide +kernel
theorem dl_487 : decode cL_law 487 = .ok (.laload, 1) := by decide +kernel
theorem dl_488 : decode cL_law 488 = .ok (.lload 6, 2) := by decide +kernel
theorem dl_490 : decode cL_law 490 = .ok (.lcmp, 1) := by decide +kernel
theorem dl_491 : decode cL_law 491 = .ok (.ifCond .eq 5, 3) := by decide +kernel
theorem dl_494 : decode cL_law 494 = .ok (.iconst 0, 1) := by decide +kernel
theorem dl_495 : decode cL_law 495 = .ok (.ireturn, 1) := by decide +kernel
theorem dl_496 : decode cL_law 496 = .ok (.goto 2752, 3) := by decide +kernel
set_option maxRecDepth 100000 in
set_option maxHeartbeats 4000000 in
theorem lk_budget {p : Program} {l : Launch} {e : Env} {s : State} {m : MethodId} {args : Array Value} {below : List Frame} {meth : Method} {c : Code} {k : KC} {A : Nat → Prop} {Q : State → Prop} {bc1 bs1 b0 Ln b ao mo i : Nat} {xs : Nat → Int32} {ad : Nat → Nat} {f : Nat → Int64} {X : CX} {S : CT} {M : MS} {rt9 : Option FieldType} (hl : l.stackTraces = false) (G : GX p l room_1 s m args meth c k A RL cL_law 8 rt9) (hX : va_X b0 Ln xs s s.heap) (hbl : b0 < s.heap.size) (hbA : ¬ A b0) (hH : HM mo ad) (hi : i + 8 ≤ Ln) (hL : Ln ≤ 4096) (h : LV9 k b X S ao f mo ad M) (hend : ∀ X2 S2 M2 f2, LV9 k b X2 S2 ao f2 mo ad M2 → Wx p l e room_1 s m args below meth c k A 8 Q bc1 bs1 3248 [some (.ref b0), some (.ref b), some (.ref mo), some (.ref ao), some (.int (nI i)), none, none, none] [] (WL k X2 S2 ao f2 mo ad M2)) : Wx p l e room_1 s m args below meth c k A 8 Q (bc1 + 1) (bs1 + 6) 420 [some (.ref b0), some (.ref b), some (.ref mo), some (.ref ao), some (.int (nI i)), none, none, none] [] (WL k X S ao f mo ad M) := by
  obtain ⟨hI, hb, hd1, hd2⟩ := h
  obtain ⟨hbm, fs, hbf⟩ := cw11 (k := k) (S := S) hI.1 hb
  have hvr := vr11 hb
  have hx1 : vp_in (nI i + 1) Ln := ix_in (j := 1) rfl (by omega) hL
  have hx2 : vp_in (nI i + 2) Ln := ix_in (j := 2) rfl (by omega) hL
  have hx3 : vp_in (nI i + 3) Ln := ix_in (j := 3) rfl (by omega) hL
  unfold WL
  refine x_aload1 (pc := 420) G dl_420 ?_
  refine x_aload0 (pc := 421) G dl_421 ?_
  refine x_iload4 (pc := 422) G dl_422 ?_
  refine x_iconst (pc := 424) (v := 1) G dl_424 (by decide) ?_
  refine x_iadd (pc := 425) G dl_425 ?_
  refine x_sld (pc := 426) G hX hbl hbA hx1 dl_426 ?_
  refine x_aload0 (pc := 427) G dl_427 ?_
  refine x_iload4 (pc := 428) G dl_428 ?_
  refine x_iconst (pc := 430) (v := 2) G dl_430 (by decide) ?_
  refine x_iadd (pc := 431) G dl_431 ?_
  refine x_sld (pc := 432) G hX hbl hbA hx2 dl_432 ?_
  refine x_aload0 (pc := 433) G dl_433 ?_
  refine x_iload4 (pc := 434) G dl_434 ?_
  refine x_iconst (pc := 436) (v := 3) G dl_436 (by decide) ?_
  refine x_iadd (pc := 437) G dl_437 ?_
  refine x_sld (pc := 438) G hX hbl hbA hx3 dl_438 ?_
  refine x_aload3 (pc := 439) G dl_439 ?_
  have hC := kc_budget (k := k) hl hI (p1 := (xs (nI i + 1).toNatClampNeg)) (p2 := (xs (nI i + 2).toNatClampNeg)) (p3 := (xs (nI i + 3).toNatClampNeg))
  rw [hvr] at hC
  have hst := fun {o : Out} {w : Wd} => so_budget (k := k) (o := o) (w := w) (p1 := (xs (nI i + 1).toNatClampNeg)) (p2 := (xs (nI i + 2).toNatClampNeg)) (p3 := (xs (nI i + 3).toNatClampNeg)) hI
  have hh := ch_budget hl hbm hbf hd1 hC (fun o w hp => by
    obtain ⟨_, _, _, _, _, ⟨ho, _⟩ | ⟨E, he, _, hc⟩⟩ := hst hp
    · exact Or.inl ⟨_, ho⟩
    · exact Or.inr ⟨E, he, hc⟩)
  have hh := MI.frame hh hd2
  refine x_callSW (pc := 440) (bc1 := bc1) (bs1 := bs1) (n := 5) (As := [.ref b, .int (xs (nI i + 1).toNatClampNeg), .int (xs (nI i + 2).toNatClampNeg), .int (xs (nI i + 3).toNatClampNeg), .ref ao]) G hh q_ml_L_184 q_st_yL_budget q_in_L q_cw_budget ⟨by decide, by decide, by decide +kernel⟩ ⟨Nat.le_of_ble_eq_true rfl, Nat.le_of_ble_eq_true rfl⟩ (Nat.zero_le _) (Nat.le_refl _) (Nat.le_refl _) rfl rfl dl_440 (fun v w9 hp => ?_)
  obtain ⟨X2, S2, f2, kc, rfl, hL2, hv, hk, hz⟩ : ∃ X2 S2 f2 kc, w9 = wu (wu (cW k X2 S2) (oW k ao f2)) (mW k mo ad M) ∧ LV9 k b X2 S2 ao f2 mo ad (f_budget (xs (nI i + 1).toNatClampNeg) (xs (nI i + 2).toNatClampNeg) (xs (nI i + 3).toNatClampNeg) M).2 ∧ v = some (.int kc) ∧ mI (f_budget (xs (nI i + 1).toNatClampNeg) (xs (nI i + 2).toNatClampNeg) (xs (nI i + 3).toNatClampNeg) M).2 0 = kc ∧ (kc = 0 → f2 0 = (f_budget (xs (nI i + 1).toNatClampNeg) (xs (nI i + 2).toNatClampNeg) (xs (nI i + 3).toNatClampNeg) M).1) := by
    obtain ⟨h9, ⟨w1, f1, rfl, hd1', hpp⟩, hd2', rfl⟩ := hp
    rcases hpp with ⟨r, hp1, hv, hf⟩ | ⟨E, hp1, hv⟩
    · obtain ⟨X2, S2, rfl, hI2, hb2, ⟨ho, h0⟩ | ⟨E, he, _, _⟩⟩ := hst hp1
      · have e9 := Sum.inl.inj ho
        cases e9
        exact ⟨X2, S2, _, 0, rfl, ⟨hI2, hb2.trans hb, hd1', hd2'⟩, Sum.inl.inj hv, h0, fun _ => hf⟩
      · cases he
    · obtain ⟨X2, S2, rfl, hI2, hb2, ⟨ho, h0⟩ | ⟨E2, he, h0, hc⟩⟩ := hst hp1
      · cases ho
      · cases he
        refine ⟨X2, S2, _, _, rfl, ⟨hI2, hb2.trans hb, hd1', hd2'⟩, Sum.inl.inj hv, h0, fun z => ?_⟩
        rcases hc with rfl | rfl <;> exact absurd z (by decide)
  subst hv
  obtain ⟨hI2, hb2, hd1', hd2'⟩ := id hL2
  refine x_istore5 (pc := 443) G dl_443 (by decide) rfl ?_
  refine x_aload2 (pc := 445) G dl_445 ?_
  refine x_aload0 (pc := 446) G dl_446 ?_
  refine x_iload4 (pc := 447) G dl_447 ?_
  refine x_iconst (pc := 449) (v := 1) G dl_449 (by decide) ?_
  refine x_iadd (pc := 450) G dl_450 ?_
  refine x_sld (pc := 451) G hX hbl hbA hx1 dl_451 ?_
  refine x_aload0 (pc := 452) G dl_452 ?_
  refine x_iload4 (pc := 453) G dl_453 ?_
  refine x_iconst (pc := 455) (v := 2) G dl_455 (by decide) ?_
  refine x_iadd (pc := 456) G dl_456 ?_
  refine x_sld (pc := 457) G hX hbl hbA hx2 dl_457 ?_
  refine x_aload0 (pc := 458) G dl_458 ?_
  refine x_iload4 (pc := 459) G dl_459 ?_
  refine x_iconst (pc := 461) (v := 3) G dl_461 (by decide) ?_
  refine x_iadd (pc := 462) G dl_462 ?_
  refine x_sld (pc := 463) G hX hbl hbA hx3 dl_463 ?_
  have hr := rc_budget (k := k) hl hH hI.2.2.2 (p1 := (xs (nI i + 1).toNatClampNeg)) (p2 := (xs (nI i + 2).toNatClampNeg)) (p3 := (xs (nI i + 3).toNatClampNeg))
  refine Wx_perm hd2' ?_
  refine x_callV (pc := 464) (bc1 := bc1) (bs1 := bs1) (n := 3) (As := [.int (xs (nI i + 1).toNatClampNeg), .int (xs (nI i + 2).toNatClampNeg), .int (xs (nI i + 3).toNatClampNeg)]) G (hr.frame (fun a ha z => hd2' a z ha)) (List.mem_append_left _ mW_mo.1) ((if_pos mW_mo.1).trans mW_mo.2) (show vwCl[12]? = some (_, _, _) from rfl) q_ml_L_187 q_im_yX11_budget q_se_yX11_budget q_in_X11 q_co_yX11_budget ⟨by decide, by decide, by decide +kernel⟩ ⟨Nat.le_of_ble_eq_true rfl, Nat.le_of_ble_eq_true rfl⟩ (Nat.zero_le _) (Nat.le_refl _) (Nat.le_refl _) rfl rfl dl_464 (fun v w9 hp => ?_) (fun E w9 hp => by obtain ⟨_, hq, _⟩ := hp; cases hq.1)
  obtain ⟨h9, ⟨hv, rfl⟩, _, rfl⟩ := hp
  have hv := Sum.inl.inj hv
  subst hv
  refine Wx_perm (fun a ha z => hd2' a z ha) ?_
  refine x_lstore6 (pc := 467) G dl_467 (by decide) rfl ?_
  refine x_aload2 (pc := 469) G dl_469 ?_
  refine Wx_perm hd2' ?_
  refine x_callV (pc := 470) (bc1 := bc1) (bs1 := bs1) (n := 0) (As := []) G ((c_thrown (k := k) (M := (f_budget (xs (nI i + 1).toNatClampNeg) (xs (nI i + 2).toNatClampNeg) (xs (nI i + 3).toNatClampNeg) M).2) hl hH).frame (fun a ha z => hd2' a z ha)) (List.mem_append_left _ mW_mo.1) ((if_pos mW_mo.1).trans mW_mo.2) (show vwCl[12]? = some (_, _, _) from rfl) q_ml_L_172 q_im_yX11_thrown q_se_yX11_thrown q_in_X11 q_co_yX11_thrown ⟨by decide, by decide, by decide +kernel⟩ ⟨Nat.le_of_ble_eq_true rfl, Nat.le_of_ble_eq_true rfl⟩ (Nat.zero_le _) (Nat.le_refl _) (Nat.le_refl _) rfl rfl dl_470 (fun v w9 hp => ?_) (fun E w9 hp => by obtain ⟨_, hq, _⟩ := hp; cases hq.1)
  obtain ⟨h9, ⟨hv, rfl⟩, _, rfl⟩ := hp
  have hv := Sum.inl.inj hv
  subst hv
  refine Wx_perm (fun a ha z => hd2' a z ha) ?_
  refine x_iload5 (pc := 473) G dl_473 ?_
  refine x_icmp_eq (pc := 475) (tgt := 480) G dl_475 rfl (fun _ => ?_) (fun z9 => absurd hk z9)
  refine x_iload5 (pc := 480) G dl_480 ?_
  refine x_if_ne (pc := 482) (tgt := 496) (y := 0) G dl_482 rfl (fun _ => ?_) (fun z9 => ?_)
  · skip
    refine x_goto (pc := 496) (tgt := 3248) G dl_496 rfl ?_
    exact Wx_l8 (hend X2 S2 _ f2 hL2)
  · have hf := hz z9
    refine x_aload3 (pc := 485) G dl_485 ?_
    refine x_iconst (pc := 486) (v := 0) G dl_486 (by decide) ?_
    refine x_old (pc := 487) G hd1' dl_487 ?_
    refine x_lload6 (pc := 488) G dl_488 ?_
    refine x_lcmp (pc := 490) G dl_490 ?_
    refine x_if_eq (pc := 491) (tgt := 496) (y := 0) G dl_491 rfl (fun _ => ?_) (fun z8 => absurd (lg_same hf) z8)
    refine x_goto (pc := 496) (tgt := 3248) G dl_496 rfl ?_
    exact Wx_l8 (hend X2 S2 _ f2 hL2)
theorem dl_499 : decode cL_law 499 = .ok (.aload_n 1, 1) := by decide +kernel
theorem dl_500 : decode cL_law 500 = .ok (.aload_n 0, 1) := by decide +kernel
theorem dl_501 : decode cL_law 501 = .ok (.iload 4, 2) := by decide +kernel
theorem dl_503 : decode cL_law 503 = .ok (.iconst 1, 1) := by decide +kernel
theorem dl_504 : decode cL_law 504 = .ok (.iadd, 1) := by decide +kernel
theorem dl_505 : decode cL_law 505 = .ok (.iaload, 1) := by decide +kernel
theorem dl_506 : decode cL_law 506 = .ok (.aload_n 0, 1) := by decide +kernel
theorem dl_507 : decode cL_law 507 = .ok (.iload 4, 2) := by decide +kernel
theorem dl_509 : decode cL_law 509 = .ok (.iconst 2, 1) := by decide +kernel
theorem dl_510 : decode cL_law 510 = .ok (.iadd, 1) := by decide +kernel
theorem dl_511 : decode cL_law 511 = .ok (.iaload, 1) := by decide +kernel
theorem dl_512 : decode cL_law 512 = .ok (.aload_n 0, 1) := by decide +kernel
theorem dl_513 : decode cL_law 513 = .ok (.iload 4, 2) := by decide +kernel
theorem dl_515 : decode cL_law 515 = .ok (.iconst 3, 1) := by decide +kernel
theorem dl_516 : decode cL_law 516 = .ok (.iadd, 1) := by decide +kernel
theorem dl_517 : decode cL_law 517 = .ok (.iaload, 1) := by decide +kernel
theorem dl_518 : decode cL_law 518 = .ok (.aload_n 0, 1) := by decide +kernel
theorem dl_519 : decode cL_law 519 = .ok (.iload 4, 2) := by decide +kernel
theorem dl_521 : decode cL_law 521 = .ok (.iconst 4, 1) := by decide +kernel
theorem dl_522 : decode cL_law 522 = .ok (.iadd, 1) := by decide +kernel
theorem dl_523 : decode cL_law 523 = .ok (.iaload, 1) := by decide +kernel
theorem dl_524 : decode cL_law 524 = .ok (.aload_n 3, 1) := by decide +kernel
theorem dl_525 : decode cL_law 525 = .ok (.invokestatic 188, 3) := by decide +kernel
theorem dl_528 : decode cL_law 528 = .ok (.istore 5, 2) := by decide +kernel
theorem dl_530 : decode cL_law 530 = .ok (.aload_n 2, 1) := by decide +kernel
theorem dl_531 : decode cL_law 531 = .ok (.aload_n 0, 1) := by decide +kernel
theorem dl_532 : decode cL_law 532 = .ok (.iload 4, 2) := by decide +kernel
theorem dl_534 : decode cL_law 534 = .ok (.iconst 1, 1) := by decide +kernel
theorem dl_535 : decode cL_law 535 = .ok (.iadd, 1) := by decide +kernel
theorem dl_536 : decode cL_law 536 = .ok (.iaload, 1) := by decide +kernel
theorem dl_537 : decode cL_law 537 = .ok (.aload_n 0, 1) := by decide +kernel
theorem dl_538 : decode cL_law 538 = .ok (.iload 4, 2) := by decide +kernel
theorem dl_540 : decode cL_law 540 = .ok (.iconst 2, 1) := by decide +kernel
theorem dl_541 : decode cL_law 541 = .ok (.iadd, 1) := by decide +kernel
theorem dl_542 : decode cL_law 542 = .ok (.iaload, 1) := by decide +kernel
theorem dl_543 : decode cL_law 543 = .ok (.aload_n 0, 1) := by decide +kernel
theorem dl_544 : decode cL_law 544 = .ok (.iload 4, 2) := by decide +kernel
theorem dl_546 : decode cL_law 546 = .ok (.iconst 3, 1) := by decide +kernel
theorem dl_547 : decode cL_law 547 = .ok (.iadd, 1) := by decide +kernel
theorem dl_548 : decode cL_law 548 = .ok (.iaload, 1) := by decide +kernel
theorem dl_549 : decode cL_law 549 = .ok (.aload_n 0, 1) := by decide +kernel
theorem dl_550 : decode cL_law 550 = .ok (.iload 4, 2) := by decide +kernel
theorem dl_552 : decode cL_law 552 = .ok (.iconst 4, 1) := by decide +kernel
theorem dl_553 : decode cL_law 553 = .ok (.iadd, 1) := by decide +kernel
theorem dl_554 : decode cL_law 554 = .ok (.iaload, 1) := by decide +kernel
theorem dl_555 : decode cL_law 555 = .ok (.invokevirtual 191, 3) := by decide +kernel
theorem dl_558 : decode cL_law 558 = .ok (.lstore 6, 2) := by decide +kernel
theorem dl_560 : decode cL_law 560 = .ok (.aload_n 2, 1) := by decide +kernel
theorem dl_561 : decode cL_law 561 = .ok (.invokevirtual 172, 3) := by decide +kernel
theorem dl_564 : decode cL_law 564 = .ok (.iload 5, 2) := by decide +kernel
theorem dl_566 : decode cL_law 566 = .ok (.if_icmp .eq 5, 3) := by decide +kernel
theorem dl_569 : decode cL_law 569 = .ok (.iconst 0, 1) := by decide +kernel
theorem dl_570 : decode cL_law 570 = .ok (.ireturn, 1) := by decide +kernel
theorem dl_571 : decode cL_law 571 = .ok (.iload 5, 2) := by decide +kernel
theorem dl_573 : decode cL_law 573 = .ok (.ifCond .ne 14, 3) := by decide +kernel
theorem dl_576 : decode cL_law 576 = .ok (.aload_n 3, 1) := by decide +kernel
theorem dl_577 : decode cL_law 577 = .ok (.iconst 0, 1) := by decide +kernel
theorem dl_578 : decode cL_law 578 = .ok (.laload, 1) := by decide +kernel
theorem dl_579 : decode cL_law 579 = .ok (.lload 6, 2) := by decide +kernel
theorem dl_581 : decode cL_law 581 = .ok (.lcmp, 1) := by decide +kernel
theorem dl_582 : decode cL_law 582 = .ok (.ifCond .eq 5, 3) := by decide +kernel
theorem dl_585 : decode cL_law 585 = .ok (.iconst 0, 1) := by decide +kernel
theorem dl_586 : decode cL_law 586 = .ok (.ireturn, 1) := by decide +kernel
theorem dl_587 : decode cL_law 587 = .ok (.goto 2661, 3) := by decide +kernel
set_option maxRecDepth 100000 in
set_option maxHeartbeats 4000000 in
theorem lk_transfer {p : Program} {l : Launch} {e : Env} {s : State} {m : MethodId} {args : Array Value} {below : List Frame} {meth : Method} {c : Code} {k : KC} {A : Nat → Prop} {Q : State → Prop} {bc1 bs1 b0 Ln b ao mo i : Nat} {xs : Nat → Int32} {ad : Nat → Nat} {f : Nat → Int64} {X : CX} {S : CT} {M : MS} {rt9 : Option FieldType} (hl : l.stackTraces = false) (G : GX p l room_1 s m args meth c k A RL cL_law 8 rt9) (hX : va_X b0 Ln xs s s.heap) (hbl : b0 < s.heap.size) (hbA : ¬ A b0) (hH : HM mo ad) (hi : i + 8 ≤ Ln) (hL : Ln ≤ 4096) (h : LV9 k b X S ao f mo ad M) (hend : ∀ X2 S2 M2 f2, LV9 k b X2 S2 ao f2 mo ad M2 → Wx p l e room_1 s m args below meth c k A 8 Q bc1 bs1 3248 [some (.ref b0), some (.ref b), some (.ref mo), some (.ref ao), some (.int (nI i)), none, none, none] [] (WL k X2 S2 ao f2 mo ad M2)) : Wx p l e room_1 s m args below meth c k A 8 Q (bc1 + 1) (bs1 + 6) 499 [some (.ref b0), some (.ref b), some (.ref mo), some (.ref ao), some (.int (nI i)), none, none, none] [] (WL k X S ao f mo ad M) := by
  obtain ⟨hI, hb, hd1, hd2⟩ := h
  obtain ⟨hbm, fs, hbf⟩ := cw11 (k := k) (S := S) hI.1 hb
  have hvr := vr11 hb
  have hx1 : vp_in (nI i + 1) Ln := ix_in (j := 1) rfl (by omega) hL
  have hx2 : vp_in (nI i + 2) Ln := ix_in (j := 2) rfl (by omega) hL
  have hx3 : vp_in (nI i + 3) Ln := ix_in (j := 3) rfl (by omega) hL
  have hx4 : vp_in (nI i + 4) Ln := ix_in (j := 4) rfl (by omega) hL
  unfold WL
  refine x_aload1 (pc := 499) G dl_499 ?_
  refine x_aload0 (pc := 500) G dl_500 ?_
  refine x_iload4 (pc := 501) G dl_501 ?_
  refine x_iconst (pc := 503) (v := 1) G dl_503 (by decide) ?_
  refine x_iadd (pc := 504) G dl_504 ?_
  refine x_sld (pc := 505) G hX hbl hbA hx1 dl_505 ?_
  refine x_aload0 (pc := 506) G dl_506 ?_
  refine x_iload4 (pc := 507) G dl_507 ?_
  refine x_iconst (pc := 509) (v := 2) G dl_509 (by decide) ?_
  refine x_iadd (pc := 510) G dl_510 ?_
  refine x_sld (pc := 511) G hX hbl hbA hx2 dl_511 ?_
  refine x_aload0 (pc := 512) G dl_512 ?_
  refine x_iload4 (pc := 513) G dl_513 ?_
  refine x_iconst (pc := 515) (v := 3) G dl_515 (by decide) ?_
  refine x_iadd (pc := 516) G dl_516 ?_
  refine x_sld (pc := 517) G hX hbl hbA hx3 dl_517 ?_
  refine x_aload0 (pc := 518) G dl_518 ?_
  refine x_iload4 (pc := 519) G dl_519 ?_
  refine x_iconst (pc := 521) (v := 4) G dl_521 (by decide) ?_
  refine x_iadd (pc := 522) G dl_522 ?_
  refine x_sld (pc := 523) G hX hbl hbA hx4 dl_523 ?_
  refine x_aload3 (pc := 524) G dl_524 ?_
  have hC := kc_transfer (k := k) hl hI (p1 := (xs (nI i + 1).toNatClampNeg)) (p2 := (xs (nI i + 2).toNatClampNeg)) (p3 := (xs (nI i + 3).toNatClampNeg)) (p4 := (xs (nI i + 4).toNatClampNeg))
  rw [hvr] at hC
  have hst := fun {o : Out} {w : Wd} => so_transfer (k := k) (o := o) (w := w) (p1 := (xs (nI i + 1).toNatClampNeg)) (p2 := (xs (nI i + 2).toNatClampNeg)) (p3 := (xs (nI i + 3).toNatClampNeg)) (p4 := (xs (nI i + 4).toNatClampNeg)) hI
  have hh := ch_transfer hl hbm hbf hd1 hC (fun o w hp => by
    obtain ⟨_, _, _, _, _, ⟨ho, _⟩ | ⟨E, he, _, hc⟩⟩ := hst hp
    · exact Or.inl ⟨_, ho⟩
    · exact Or.inr ⟨E, he, hc⟩)
  have hh := MI.frame hh hd2
  refine x_callSW (pc := 525) (bc1 := bc1) (bs1 := bs1) (n := 6) (As := [.ref b, .int (xs (nI i + 1).toNatClampNeg), .int (xs (nI i + 2).toNatClampNeg), .int (xs (nI i + 3).toNatClampNeg), .int (xs (nI i + 4).toNatClampNeg), .ref ao]) G hh q_ml_L_188 q_st_yL_transfer q_in_L q_cw_transfer ⟨by decide, by decide, by decide +kernel⟩ ⟨Nat.le_of_ble_eq_true rfl, Nat.le_of_ble_eq_true rfl⟩ (Nat.zero_le _) (Nat.le_refl _) (Nat.le_refl _) rfl rfl dl_525 (fun v w9 hp => ?_)
  obtain ⟨X2, S2, f2, kc, rfl, hL2, hv, hk, hz⟩ : ∃ X2 S2 f2 kc, w9 = wu (wu (cW k X2 S2) (oW k ao f2)) (mW k mo ad M) ∧ LV9 k b X2 S2 ao f2 mo ad (f_transfer (xs (nI i + 1).toNatClampNeg) (xs (nI i + 2).toNatClampNeg) (xs (nI i + 3).toNatClampNeg) (xs (nI i + 4).toNatClampNeg) M).2 ∧ v = some (.int kc) ∧ mI (f_transfer (xs (nI i + 1).toNatClampNeg) (xs (nI i + 2).toNatClampNeg) (xs (nI i + 3).toNatClampNeg) (xs (nI i + 4).toNatClampNeg) M).2 0 = kc ∧ (kc = 0 → f2 0 = (f_transfer (xs (nI i + 1).toNatClampNeg) (xs (nI i + 2).toNatClampNeg) (xs (nI i + 3).toNatClampNeg) (xs (nI i + 4).toNatClampNeg) M).1) := by
    obtain ⟨h9, ⟨w1, f1, rfl, hd1', hpp⟩, hd2', rfl⟩ := hp
    rcases hpp with ⟨r, hp1, hv, hf⟩ | ⟨E, hp1, hv⟩
    · obtain ⟨X2, S2, rfl, hI2, hb2, ⟨ho, h0⟩ | ⟨E, he, _, _⟩⟩ := hst hp1
      · have e9 := Sum.inl.inj ho
        cases e9
        exact ⟨X2, S2, _, 0, rfl, ⟨hI2, hb2.trans hb, hd1', hd2'⟩, Sum.inl.inj hv, h0, fun _ => hf⟩
      · cases he
    · obtain ⟨X2, S2, rfl, hI2, hb2, ⟨ho, h0⟩ | ⟨E2, he, h0, hc⟩⟩ := hst hp1
      · cases ho
      · cases he
        refine ⟨X2, S2, _, _, rfl, ⟨hI2, hb2.trans hb, hd1', hd2'⟩, Sum.inl.inj hv, h0, fun z => ?_⟩
        rcases hc with rfl | rfl | rfl <;> exact absurd z (by decide)
  subst hv
  obtain ⟨hI2, hb2, hd1', hd2'⟩ := id hL2
  refine x_istore5 (pc := 528) G dl_528 (by decide) rfl ?_
  refine x_aload2 (pc := 530) G dl_530 ?_
  refine x_aload0 (pc := 531) G dl_531 ?_
  refine x_iload4 (pc := 532) G dl_532 ?_
  refine x_iconst (pc := 534) (v := 1) G dl_534 (by decide) ?_
  refine x_iadd (pc := 535) G dl_535 ?_
  refine x_sld (pc := 536) G hX hbl hbA hx1 dl_536 ?_
  refine x_aload0 (pc := 537) G dl_537 ?_
  refine x_iload4 (pc := 538) G dl_538 ?_
  refine x_iconst (pc := 540) (v := 2) G dl_540 (by decide) ?_
  refine x_iadd (pc := 541) G dl_541 ?_
  refine x_sld (pc := 542) G hX hbl hbA hx2 dl_542 ?_
  refine x_aload0 (pc := 543) G dl_543 ?_
  refine x_iload4 (pc := 544) G dl_544 ?_
  refine x_iconst (pc := 546) (v := 3) G dl_546 (by decide) ?_
  refine x_iadd (pc := 547) G dl_547 ?_
  refine x_sld (pc := 548) G hX hbl hbA hx3 dl_548 ?_
  refine x_aload0 (pc := 549) G dl_549 ?_
  refine x_iload4 (pc := 550) G dl_550 ?_
  refine x_iconst (pc := 552) (v := 4) G dl_552 (by decide) ?_
  refine x_iadd (pc := 553) G dl_553 ?_
  refine x_sld (pc := 554) G hX hbl hbA hx4 dl_554 ?_
  have hr := rc_transfer (k := k) hl hH hI.2.2.2 (p1 := (xs (nI i + 1).toNatClampNeg)) (p2 := (xs (nI i + 2).toNatClampNeg)) (p3 := (xs (nI i + 3).toNatClampNeg)) (p4 := (xs (nI i + 4).toNatClampNeg))
  refine Wx_perm hd2' ?_
  refine x_callV (pc := 555) (bc1 := bc1) (bs1 := bs1) (n := 4) (As := [.int (xs (nI i + 1).toNatClampNeg), .int (xs (nI i + 2).toNatClampNeg), .int (xs (nI i + 3).toNatClampNeg), .int (xs (nI i + 4).toNatClampNeg)]) G (hr.frame (fun a ha z => hd2' a z ha)) (List.mem_append_left _ mW_mo.1) ((if_pos mW_mo.1).trans mW_mo.2) (show vwCl[12]? = some (_, _, _) from rfl) q_ml_L_191 q_im_yX11_transfer q_se_yX11_transfer q_in_X11 q_co_yX11_transfer ⟨by decide, by decide, by decide +kernel⟩ ⟨Nat.le_of_ble_eq_true rfl, Nat.le_of_ble_eq_true rfl⟩ (Nat.zero_le _) (Nat.le_refl _) (Nat.le_refl _) rfl rfl dl_555 (fun v w9 hp => ?_) (fun E w9 hp => by obtain ⟨_, hq, _⟩ := hp; cases hq.1)
  obtain ⟨h9, ⟨hv, rfl⟩, _, rfl⟩ := hp
  have hv := Sum.inl.inj hv
  subst hv
  refine Wx_perm (fun a ha z => hd2' a z ha) ?_
  refine x_lstore6 (pc := 558) G dl_558 (by decide) rfl ?_
  refine x_aload2 (pc := 560) G dl_560 ?_
  refine Wx_perm hd2' ?_
  refine x_callV (pc := 561) (bc1 := bc1) (bs1 := bs1) (n := 0) (As := []) G ((c_thrown (k := k) (M := (f_transfer (xs (nI i + 1).toNatClampNeg) (xs (nI i + 2).toNatClampNeg) (xs (nI i + 3).toNatClampNeg) (xs (nI i + 4).toNatClampNeg) M).2) hl hH).frame (fun a ha z => hd2' a z ha)) (List.mem_append_left _ mW_mo.1) ((if_pos mW_mo.1).trans mW_mo.2) (show vwCl[12]? = some (_, _, _) from rfl) q_ml_L_172 q_im_yX11_thrown q_se_yX11_thrown q_in_X11 q_co_yX11_thrown ⟨by decide, by decide, by decide +kernel⟩ ⟨Nat.le_of_ble_eq_true rfl, Nat.le_of_ble_eq_true rfl⟩ (Nat.zero_le _) (Nat.le_refl _) (Nat.le_refl _) rfl rfl dl_561 (fun v w9 hp => ?_) (fun E w9 hp => by obtain ⟨_, hq, _⟩ := hp; cases hq.1)
  obtain ⟨h9, ⟨hv, rfl⟩, _, rfl⟩ := hp
  have hv := Sum.inl.inj hv
  subst hv
  refine Wx_perm (fun a ha z => hd2' a z ha) ?_
  refine x_iload5 (pc := 564) G dl_564 ?_
  refine x_icmp_eq (pc := 566) (tgt := 571) G dl_566 rfl (fun _ => ?_) (fun z9 => absurd hk z9)
  refine x_iload5 (pc := 571) G dl_571 ?_
  refine x_if_ne (pc := 573) (tgt := 587) (y := 0) G dl_573 rfl (fun _ => ?_) (fun z9 => ?_)
  · skip
    refine x_goto (pc := 587) (tgt := 3248) G dl_587 rfl ?_
    exact Wx_l8 (hend X2 S2 _ f2 hL2)
  · have hf := hz z9
    refine x_aload3 (pc := 576) G dl_576 ?_
    refine x_iconst (pc := 577) (v := 0) G dl_577 (by decide) ?_
    refine x_old (pc := 578) G hd1' dl_578 ?_
    refine x_lload6 (pc := 579) G dl_579 ?_
    refine x_lcmp (pc := 581) G dl_581 ?_
    refine x_if_eq (pc := 582) (tgt := 587) (y := 0) G dl_582 rfl (fun _ => ?_) (fun z8 => absurd (lg_same hf) z8)
    refine x_goto (pc := 587) (tgt := 3248) G dl_587 rfl ?_
    exact Wx_l8 (hend X2 S2 _ f2 hL2)
theorem dl_590 : decode cL_law 590 = .ok (.aload_n 1, 1) := by decide +kernel
theorem dl_591 : decode cL_law 591 = .ok (.aload_n 0, 1) := by decide +kernel
theorem dl_592 : decode cL_law 592 = .ok (.iload 4, 2) := by decide +kernel
theorem dl_594 : decode cL_law 594 = .ok (.iconst 1, 1) := by decide +kernel
theorem dl_595 : decode cL_law 595 = .ok (.iadd, 1) := by decide +kernel
theorem dl_596 : decode cL_law 596 = .ok (.iaload, 1) := by decide +kernel
theorem dl_597 : decode cL_law 597 = .ok (.aload_n 0, 1) := by decide +kernel
theorem dl_598 : decode cL_law 598 = .ok (.iload 4, 2) := by decide +kernel
theorem dl_600 : decode cL_law 600 = .ok (.iconst 2, 1) := by decide +kernel
theorem dl_601 : decode cL_law 601 = .ok (.iadd, 1) := by decide +kernel
theorem dl_602 : decode cL_law 602 = .ok (.iaload, 1) := by decide +kernel
theorem dl_603 : decode cL_law 603 = .ok (.ifCond .eq 7, 3) := by decide +kernel
theorem dl_606 : decode cL_law 606 = .ok (.iconst 1, 1) := by decide +kernel
theorem dl_607 : decode cL_law 607 = .ok (.goto 4, 3) := by decide +kernel
theorem dl_610 : decode cL_law 610 = .ok (.iconst 0, 1) := by decide +kernel
theorem dl_611 : decode cL_law 611 = .ok (.aload_n 3, 1) := by decide +kernel
theorem dl_612 : decode cL_law 612 = .ok (.invokestatic 192, 3) := by decide +kernel
theorem dl_615 : decode cL_law 615 = .ok (.istore 5, 2) := by decide +kernel
theorem dl_617 : decode cL_law 617 = .ok (.aload_n 2, 1) := by decide +kernel
theorem dl_618 : decode cL_law 618 = .ok (.aload_n 0, 1) := by decide +kernel
theorem dl_619 : decode cL_law 619 = .ok (.iload 4, 2) := by decide +kernel
theorem dl_621 : decode cL_law 621 = .ok (.iconst 1, 1) := by decide +kernel
theorem dl_622 : decode cL_law 622 = .ok (.iadd, 1) := by decide +kernel
theorem dl_623 : decode cL_law 623 = .ok (.iaload, 1) := by decide +kernel
theorem dl_624 : decode cL_law 624 = .ok (.aload_n 0, 1) := by decide +kernel
theorem dl_625 : decode cL_law 625 = .ok (.iload 4, 2) := by decide +kernel
theorem dl_627 : decode cL_law 627 = .ok (.iconst 2, 1) := by decide +kernel
theorem dl_628 : decode cL_law 628 = .ok (.iadd, 1) := by decide +kernel
theorem dl_629 : decode cL_law 629 = .ok (.iaload, 1) := by decide +kernel
theorem dl_630 : decode cL_law 630 = .ok (.ifCond .eq 7, 3) := by decide +kernel
theorem dl_633 : decode cL_law 633 = .ok (.iconst 1, 1) := by decide +kernel
theorem dl_634 : decode cL_law 634 = .ok (.goto 4, 3) := by decide +kernel
theorem dl_637 : decode cL_law 637 = .ok (.iconst 0, 1) := by decide +kernel
theorem dl_638 : decode cL_law 638 = .ok (.invokevirtual 195, 3) := by decide +kernel
theorem dl_641 : decode cL_law 641 = .ok (.istore 6, 2) := by decide +kernel
theorem dl_643 : decode cL_law 643 = .ok (.aload_n 2, 1) := by decide +kernel
theorem dl_644 : decode cL_law 644 = .ok (.invokevirtual 172, 3) := by decide +kernel
theorem dl_647 : decode cL_law 647 = .ok (.iload 5, 2) := by decide +kernel
theorem dl_649 : decode cL_law 649 = .ok (.if_icmp .eq 5, 3) := by decide +kernel
theorem dl_652 : decode cL_law 652 = .ok (.iconst 0, 1) := by decide +kernel
theorem dl_653 : decode cL_law 653 = .ok (.ireturn, 1) := by decide +kernel
theorem dl_654 : decode cL_law 654 = .ok (.iload 5, 2) := by decide +kernel
theorem dl_656 : decode cL_law 656 = .ok (.ifCond .ne 22, 3) := by decide +kernel
theorem dl_659 : decode cL_law 659 = .ok (.aload_n 3, 1) := by decide +kernel
theorem dl_660 : decode cL_law 660 = .ok (.iconst 0, 1) := by decide +kernel
theorem dl_661 : decode cL_law 661 = .ok (.laload, 1) := by decide +kernel
theorem dl_662 : decode cL_law 662 = .ok (.iload 6, 2) := by decide +kernel
theorem dl_664 : decode cL_law 664 = .ok (.ifCond .eq 7, 3) := by decide +kernel
theorem dl_667 : decode cL_law 667 = .ok (.lconst 1, 1) := by decide +kernel
theorem dl_668 : decode cL_law 668 = .ok (.goto 4, 3) := by decide +kernel
theorem dl_671 : decode cL_law 671 = .ok (.lconst 0, 1) := by decide +kernel
theorem dl_672 : decode cL_law 672 = .ok (.lcmp, 1) := by decide +kernel
theorem dl_673 : decode cL_law 673 = .ok (.ifCond .eq 5, 3) := by decide +kernel
theorem dl_676 : decode cL_law 676 = .ok (.iconst 0, 1) := by decide +kernel
theorem dl_677 : decode cL_law 677 = .ok (.ireturn, 1) := by decide +kernel
theorem dl_678 : decode cL_law 678 = .ok (.goto 2570, 3) := by decide +kernel
set_option maxRecDepth 100000 in
set_option maxHeartbeats 4000000 in
theorem lk_soft {p : Program} {l : Launch} {e : Env} {s : State} {m : MethodId} {args : Array Value} {below : List Frame} {meth : Method} {c : Code} {k : KC} {A : Nat → Prop} {Q : State → Prop} {bc1 bs1 b0 Ln b ao mo i : Nat} {xs : Nat → Int32} {ad : Nat → Nat} {f : Nat → Int64} {X : CX} {S : CT} {M : MS} {rt9 : Option FieldType} (hl : l.stackTraces = false) (G : GX p l room_1 s m args meth c k A RL cL_law 8 rt9) (hX : va_X b0 Ln xs s s.heap) (hbl : b0 < s.heap.size) (hbA : ¬ A b0) (hH : HM mo ad) (hi : i + 8 ≤ Ln) (hL : Ln ≤ 4096) (h : LV9 k b X S ao f mo ad M) (hend : ∀ X2 S2 M2 f2, LV9 k b X2 S2 ao f2 mo ad M2 → Wx p l e room_1 s m args below meth c k A 8 Q bc1 bs1 3248 [some (.ref b0), some (.ref b), some (.ref mo), some (.ref ao), some (.int (nI i)), none, none, none] [] (WL k X2 S2 ao f2 mo ad M2)) : Wx p l e room_1 s m args below meth c k A 8 Q (bc1 + 1) (bs1 + 6) 590 [some (.ref b0), some (.ref b), some (.ref mo), some (.ref ao), some (.int (nI i)), none, none, none] [] (WL k X S ao f mo ad M) := by
  obtain ⟨hI, hb, hd1, hd2⟩ := h
  obtain ⟨hbm, fs, hbf⟩ := cw11 (k := k) (S := S) hI.1 hb
  have hvr := vr11 hb
  have hx1 : vp_in (nI i + 1) Ln := ix_in (j := 1) rfl (by omega) hL
  have hx2 : vp_in (nI i + 2) Ln := ix_in (j := 2) rfl (by omega) hL
  unfold WL
  by_cases hz0 : (xs (nI i + 2).toNatClampNeg) = 0
  · skip
    refine x_aload1 (pc := 590) G dl_590 ?_
    refine x_aload0 (pc := 591) G dl_591 ?_
    refine x_iload4 (pc := 592) G dl_592 ?_
    refine x_iconst (pc := 594) (v := 1) G dl_594 (by decide) ?_
    refine x_iadd (pc := 595) G dl_595 ?_
    refine x_sld (pc := 596) G hX hbl hbA hx1 dl_596 ?_
    refine x_aload0 (pc := 597) G dl_597 ?_
    refine x_iload4 (pc := 598) G dl_598 ?_
    refine x_iconst (pc := 600) (v := 2) G dl_600 (by decide) ?_
    refine x_iadd (pc := 601) G dl_601 ?_
    refine x_sld (pc := 602) G hX hbl hbA hx2 dl_602 ?_
    refine x_if_eq (pc := 603) (tgt := 610) (y := 0) G dl_603 rfl (fun _ => ?_) (fun z9 => absurd hz0 z9)
    refine x_iconst (pc := 610) (v := 0) G dl_610 (by decide) ?_
    refine x_aload3 (pc := 611) G dl_611 ?_
    have hC := kc_soft (k := k) hl hI (p1 := (xs (nI i + 1).toNatClampNeg)) (p2 := 0) ⟨by decide, by decide⟩
    rw [hvr] at hC
    have hst := fun {o : Out} {w : Wd} => so_soft (k := k) (o := o) (w := w) (p1 := (xs (nI i + 1).toNatClampNeg)) (p2 := 0) (Or.inl rfl) hI
    have hh := ch_soft hl hbm hbf hd1 hC (fun o w hp => by
      obtain ⟨_, _, _, _, _, ⟨ho, _⟩ | ⟨E, he, _, hc⟩⟩ := hst hp
      · exact Or.inl ⟨_, ho⟩
      · exact Or.inr ⟨E, he, hc⟩)
    have hh := MI.frame hh hd2
    refine x_callSW (pc := 612) (bc1 := bc1) (bs1 := bs1) (n := 4) (As := [.ref b, .int (xs (nI i + 1).toNatClampNeg), .int 0, .ref ao]) G hh q_ml_L_192 q_st_yL_soft q_in_L q_cw_soft ⟨by decide, by decide, by decide +kernel⟩ ⟨Nat.le_of_ble_eq_true rfl, Nat.le_of_ble_eq_true rfl⟩ (Nat.zero_le _) (Nat.le_refl _) (Nat.le_refl _) rfl rfl dl_612 (fun v w9 hp => ?_)
    obtain ⟨X2, S2, f2, kc, rfl, hL2, hv, hk, hz⟩ : ∃ X2 S2 f2 kc, w9 = wu (wu (cW k X2 S2) (oW k ao f2)) (mW k mo ad M) ∧ LV9 k b X2 S2 ao f2 mo ad (f_soft (xs (nI i + 1).toNatClampNeg) 0 M).2 ∧ v = some (.int kc) ∧ mI (f_soft (xs (nI i + 1).toNatClampNeg) 0 M).2 0 = kc ∧ (kc = 0 → f2 0 = if (f_soft (xs (nI i + 1).toNatClampNeg) 0 M).1 = 0 then 0 else 1) := by
      obtain ⟨h9, ⟨w1, f1, rfl, hd1', hpp⟩, hd2', rfl⟩ := hp
      rcases hpp with ⟨r, hp1, hv, hf⟩ | ⟨E, hp1, hv⟩
      · obtain ⟨X2, S2, rfl, hI2, hb2, ⟨ho, h0⟩ | ⟨E, he, _, _⟩⟩ := hst hp1
        · have e9 := Sum.inl.inj ho
          cases e9
          exact ⟨X2, S2, _, 0, rfl, ⟨hI2, hb2.trans hb, hd1', hd2'⟩, Sum.inl.inj hv, h0, fun _ => hf⟩
        · cases he
      · obtain ⟨X2, S2, rfl, hI2, hb2, ⟨ho, h0⟩ | ⟨E2, he, h0, hc⟩⟩ := hst hp1
        · cases ho
        · cases he
          refine ⟨X2, S2, _, _, rfl, ⟨hI2, hb2.trans hb, hd1', hd2'⟩, Sum.inl.inj hv, h0, fun z => ?_⟩
          rcases hc with rfl <;> exact absurd z (by decide)
    subst hv
    obtain ⟨hI2, hb2, hd1', hd2'⟩ := id hL2
    refine x_istore5 (pc := 615) G dl_615 (by decide) rfl ?_
    refine x_aload2 (pc := 617) G dl_617 ?_
    refine x_aload0 (pc := 618) G dl_618 ?_
    refine x_iload4 (pc := 619) G dl_619 ?_
    refine x_iconst (pc := 621) (v := 1) G dl_621 (by decide) ?_
    refine x_iadd (pc := 622) G dl_622 ?_
    refine x_sld (pc := 623) G hX hbl hbA hx1 dl_623 ?_
    refine x_aload0 (pc := 624) G dl_624 ?_
    refine x_iload4 (pc := 625) G dl_625 ?_
    refine x_iconst (pc := 627) (v := 2) G dl_627 (by decide) ?_
    refine x_iadd (pc := 628) G dl_628 ?_
    refine x_sld (pc := 629) G hX hbl hbA hx2 dl_629 ?_
    refine x_if_eq (pc := 630) (tgt := 637) (y := 0) G dl_630 rfl (fun _ => ?_) (fun z9 => absurd hz0 z9)
    refine x_iconst (pc := 637) (v := 0) G dl_637 (by decide) ?_
    have hr := rc_soft (k := k) hl hH hI.2.2.2 (p1 := (xs (nI i + 1).toNatClampNeg)) (p2 := 0) (by decide)
    refine Wx_perm hd2' ?_
    refine x_callV (pc := 638) (bc1 := bc1) (bs1 := bs1) (n := 2) (As := [.int (xs (nI i + 1).toNatClampNeg), .int 0]) G (hr.frame (fun a ha z => hd2' a z ha)) (List.mem_append_left _ mW_mo.1) ((if_pos mW_mo.1).trans mW_mo.2) (show vwCl[12]? = some (_, _, _) from rfl) q_ml_L_195 q_im_yX11_soft q_se_yX11_soft q_in_X11 q_co_yX11_soft ⟨by decide, by decide, by decide +kernel⟩ ⟨Nat.le_of_ble_eq_true rfl, Nat.le_of_ble_eq_true rfl⟩ (Nat.zero_le _) (Nat.le_refl _) (Nat.le_refl _) rfl rfl dl_638 (fun v w9 hp => ?_) (fun E w9 hp => by obtain ⟨_, hq, _⟩ := hp; cases hq.1)
    obtain ⟨h9, ⟨hv, rfl⟩, _, rfl⟩ := hp
    have hv := Sum.inl.inj hv
    subst hv
    refine Wx_perm (fun a ha z => hd2' a z ha) ?_
    refine x_istore6 (pc := 641) G dl_641 (by decide) rfl ?_
    refine x_aload2 (pc := 643) G dl_643 ?_
    refine Wx_perm hd2' ?_
    refine x_callV (pc := 644) (bc1 := bc1) (bs1 := bs1) (n := 0) (As := []) G ((c_thrown (k := k) (M := (f_soft (xs (nI i + 1).toNatClampNeg) 0 M).2) hl hH).frame (fun a ha z => hd2' a z ha)) (List.mem_append_left _ mW_mo.1) ((if_pos mW_mo.1).trans mW_mo.2) (show vwCl[12]? = some (_, _, _) from rfl) q_ml_L_172 q_im_yX11_thrown q_se_yX11_thrown q_in_X11 q_co_yX11_thrown ⟨by decide, by decide, by decide +kernel⟩ ⟨Nat.le_of_ble_eq_true rfl, Nat.le_of_ble_eq_true rfl⟩ (Nat.zero_le _) (Nat.le_refl _) (Nat.le_refl _) rfl rfl dl_644 (fun v w9 hp => ?_) (fun E w9 hp => by obtain ⟨_, hq, _⟩ := hp; cases hq.1)
    obtain ⟨h9, ⟨hv, rfl⟩, _, rfl⟩ := hp
    have hv := Sum.inl.inj hv
    subst hv
    refine Wx_perm (fun a ha z => hd2' a z ha) ?_
    refine x_iload5 (pc := 647) G dl_647 ?_
    refine x_icmp_eq (pc := 649) (tgt := 654) G dl_649 rfl (fun _ => ?_) (fun z9 => absurd hk z9)
    refine x_iload5 (pc := 654) G dl_654 ?_
    refine x_if_ne (pc := 656) (tgt := 678) (y := 0) G dl_656 rfl (fun _ => ?_) (fun z9 => ?_)
    · skip
      refine x_goto (pc := 678) (tgt := 3248) G dl_678 rfl ?_
      exact Wx_l8 (hend X2 S2 _ f2 hL2)
    · have hf := hz z9
      refine x_aload3 (pc := 659) G dl_659 ?_
      refine x_iconst (pc := 660) (v := 0) G dl_660 (by decide) ?_
      refine x_old (pc := 661) G hd1' dl_661 ?_
      refine x_iload6 (pc := 662) G dl_662 ?_
      refine x_if_eq (pc := 664) (tgt := 671) (y := 0) G dl_664 rfl (fun z7 => ?_) (fun z7 => ?_)
      · refine x_lconst (pc := 671) (v := 0) G dl_671 (by decide) ?_
        refine x_lcmp (pc := 672) G dl_672 ?_
        refine x_if_eq (pc := 673) (tgt := 678) (y := 0) G dl_673 rfl (fun _ => ?_) (fun z8 => absurd (lg_same (hf.trans (if_pos z7))) z8)
        refine x_goto (pc := 678) (tgt := 3248) G dl_678 rfl ?_
        exact Wx_l8 (hend X2 S2 _ f2 hL2)
      · refine x_lconst (pc := 667) (v := 1) G dl_667 (by decide) ?_
        refine x_goto (pc := 668) (tgt := 672) G dl_668 rfl ?_
        refine x_lcmp (pc := 672) G dl_672 ?_
        refine x_if_eq (pc := 673) (tgt := 678) (y := 0) G dl_673 rfl (fun _ => ?_) (fun z8 => absurd (lg_same (hf.trans (if_neg z7))) z8)
        refine x_goto (pc := 678) (tgt := 3248) G dl_678 rfl ?_
        exact Wx_l8 (hend X2 S2 _ f2 hL2)
  · skip
    refine x_aload1 (pc := 590) G dl_590 ?_
    refine x_aload0 (pc := 591) G dl_591 ?_
    refine x_iload4 (pc := 592) G dl_592 ?_
    refine x_iconst (pc := 594) (v := 1) G dl_594 (by decide) ?_
    refine x_iadd (pc := 595) G dl_595 ?_
    refine x_sld (pc := 596) G hX hbl hbA hx1 dl_596 ?_
    refine x_aload0 (pc := 597) G dl_597 ?_
    refine x_iload4 (pc := 598) G dl_598 ?_
    refine x_iconst (pc := 600) (v := 2) G dl_600 (by decide) ?_
    refine x_iadd (pc := 601) G dl_601 ?_
    refine x_sld (pc := 602) G hX hbl hbA hx2 dl_602 ?_
    refine x_if_eq (pc := 603) (tgt := 610) (y := 0) G dl_603 rfl (fun z9 => absurd z9 hz0) (fun _ => ?_)
    refine x_iconst (pc := 606) (v := 1) G dl_606 (by decide) ?_
    refine x_goto (pc := 607) (tgt := 611) G dl_607 rfl ?_
    refine x_aload3 (pc := 611) G dl_611 ?_
    have hC := kc_soft (k := k) hl hI (p1 := (xs (nI i + 1).toNatClampNeg)) (p2 := 1) ⟨by decide, by decide⟩
    rw [hvr] at hC
    have hst := fun {o : Out} {w : Wd} => so_soft (k := k) (o := o) (w := w) (p1 := (xs (nI i + 1).toNatClampNeg)) (p2 := 1) (Or.inr rfl) hI
    have hh := ch_soft hl hbm hbf hd1 hC (fun o w hp => by
      obtain ⟨_, _, _, _, _, ⟨ho, _⟩ | ⟨E, he, _, hc⟩⟩ := hst hp
      · exact Or.inl ⟨_, ho⟩
      · exact Or.inr ⟨E, he, hc⟩)
    have hh := MI.frame hh hd2
    refine x_callSW (pc := 612) (bc1 := bc1) (bs1 := bs1) (n := 4) (As := [.ref b, .int (xs (nI i + 1).toNatClampNeg), .int 1, .ref ao]) G hh q_ml_L_192 q_st_yL_soft q_in_L q_cw_soft ⟨by decide, by decide, by decide +kernel⟩ ⟨Nat.le_of_ble_eq_true rfl, Nat.le_of_ble_eq_true rfl⟩ (Nat.zero_le _) (Nat.le_refl _) (Nat.le_refl _) rfl rfl dl_612 (fun v w9 hp => ?_)
    obtain ⟨X2, S2, f2, kc, rfl, hL2, hv, hk, hz⟩ : ∃ X2 S2 f2 kc, w9 = wu (wu (cW k X2 S2) (oW k ao f2)) (mW k mo ad M) ∧ LV9 k b X2 S2 ao f2 mo ad (f_soft (xs (nI i + 1).toNatClampNeg) 1 M).2 ∧ v = some (.int kc) ∧ mI (f_soft (xs (nI i + 1).toNatClampNeg) 1 M).2 0 = kc ∧ (kc = 0 → f2 0 = if (f_soft (xs (nI i + 1).toNatClampNeg) 1 M).1 = 0 then 0 else 1) := by
      obtain ⟨h9, ⟨w1, f1, rfl, hd1', hpp⟩, hd2', rfl⟩ := hp
      rcases hpp with ⟨r, hp1, hv, hf⟩ | ⟨E, hp1, hv⟩
      · obtain ⟨X2, S2, rfl, hI2, hb2, ⟨ho, h0⟩ | ⟨E, he, _, _⟩⟩ := hst hp1
        · have e9 := Sum.inl.inj ho
          cases e9
          exact ⟨X2, S2, _, 0, rfl, ⟨hI2, hb2.trans hb, hd1', hd2'⟩, Sum.inl.inj hv, h0, fun _ => hf⟩
        · cases he
      · obtain ⟨X2, S2, rfl, hI2, hb2, ⟨ho, h0⟩ | ⟨E2, he, h0, hc⟩⟩ := hst hp1
        · cases ho
        · cases he
          refine ⟨X2, S2, _, _, rfl, ⟨hI2, hb2.trans hb, hd1', hd2'⟩, Sum.inl.inj hv, h0, fun z => ?_⟩
          rcases hc with rfl <;> exact absurd z (by decide)
    subst hv
    obtain ⟨hI2, hb2, hd1', hd2'⟩ := id hL2
    refine x_istore5 (pc := 615) G dl_615 (by decide) rfl ?_
    refine x_aload2 (pc := 617) G dl_617 ?_
    refine x_aload0 (pc := 618) G dl_618 ?_
    refine x_iload4 (pc := 619) G dl_619 ?_
    refine x_iconst (pc := 621) (v := 1) G dl_621 (by decide) ?_
    refine x_iadd (pc := 622) G dl_622 ?_
    refine x_sld (pc := 623) G hX hbl hbA hx1 dl_623 ?_
    refine x_aload0 (pc := 624) G dl_624 ?_
    refine x_iload4 (pc := 625) G dl_625 ?_
    refine x_iconst (pc := 627) (v := 2) G dl_627 (by decide) ?_
    refine x_iadd (pc := 628) G dl_628 ?_
    refine x_sld (pc := 629) G hX hbl hbA hx2 dl_629 ?_
    refine x_if_eq (pc := 630) (tgt := 637) (y := 0) G dl_630 rfl (fun z9 => absurd z9 hz0) (fun _ => ?_)
    refine x_iconst (pc := 633) (v := 1) G dl_633 (by decide) ?_
    refine x_goto (pc := 634) (tgt := 638) G dl_634 rfl ?_
    have hr := rc_soft (k := k) hl hH hI.2.2.2 (p1 := (xs (nI i + 1).toNatClampNeg)) (p2 := 1) (by decide)
    refine Wx_perm hd2' ?_
    refine x_callV (pc := 638) (bc1 := bc1) (bs1 := bs1) (n := 2) (As := [.int (xs (nI i + 1).toNatClampNeg), .int 1]) G (hr.frame (fun a ha z => hd2' a z ha)) (List.mem_append_left _ mW_mo.1) ((if_pos mW_mo.1).trans mW_mo.2) (show vwCl[12]? = some (_, _, _) from rfl) q_ml_L_195 q_im_yX11_soft q_se_yX11_soft q_in_X11 q_co_yX11_soft ⟨by decide, by decide, by decide +kernel⟩ ⟨Nat.le_of_ble_eq_true rfl, Nat.le_of_ble_eq_true rfl⟩ (Nat.zero_le _) (Nat.le_refl _) (Nat.le_refl _) rfl rfl dl_638 (fun v w9 hp => ?_) (fun E w9 hp => by obtain ⟨_, hq, _⟩ := hp; cases hq.1)
    obtain ⟨h9, ⟨hv, rfl⟩, _, rfl⟩ := hp
    have hv := Sum.inl.inj hv
    subst hv
    refine Wx_perm (fun a ha z => hd2' a z ha) ?_
    refine x_istore6 (pc := 641) G dl_641 (by decide) rfl ?_
    refine x_aload2 (pc := 643) G dl_643 ?_
    refine Wx_perm hd2' ?_
    refine x_callV (pc := 644) (bc1 := bc1) (bs1 := bs1) (n := 0) (As := []) G ((c_thrown (k := k) (M := (f_soft (xs (nI i + 1).toNatClampNeg) 1 M).2) hl hH).frame (fun a ha z => hd2' a z ha)) (List.mem_append_left _ mW_mo.1) ((if_pos mW_mo.1).trans mW_mo.2) (show vwCl[12]? = some (_, _, _) from rfl) q_ml_L_172 q_im_yX11_thrown q_se_yX11_thrown q_in_X11 q_co_yX11_thrown ⟨by decide, by decide, by decide +kernel⟩ ⟨Nat.le_of_ble_eq_true rfl, Nat.le_of_ble_eq_true rfl⟩ (Nat.zero_le _) (Nat.le_refl _) (Nat.le_refl _) rfl rfl dl_644 (fun v w9 hp => ?_) (fun E w9 hp => by obtain ⟨_, hq, _⟩ := hp; cases hq.1)
    obtain ⟨h9, ⟨hv, rfl⟩, _, rfl⟩ := hp
    have hv := Sum.inl.inj hv
    subst hv
    refine Wx_perm (fun a ha z => hd2' a z ha) ?_
    refine x_iload5 (pc := 647) G dl_647 ?_
    refine x_icmp_eq (pc := 649) (tgt := 654) G dl_649 rfl (fun _ => ?_) (fun z9 => absurd hk z9)
    refine x_iload5 (pc := 654) G dl_654 ?_
    refine x_if_ne (pc := 656) (tgt := 678) (y := 0) G dl_656 rfl (fun _ => ?_) (fun z9 => ?_)
    · skip
      refine x_goto (pc := 678) (tgt := 3248) G dl_678 rfl ?_
      exact Wx_l8 (hend X2 S2 _ f2 hL2)
    · have hf := hz z9
      refine x_aload3 (pc := 659) G dl_659 ?_
      refine x_iconst (pc := 660) (v := 0) G dl_660 (by decide) ?_
      refine x_old (pc := 661) G hd1' dl_661 ?_
      refine x_iload6 (pc := 662) G dl_662 ?_
      refine x_if_eq (pc := 664) (tgt := 671) (y := 0) G dl_664 rfl (fun z7 => ?_) (fun z7 => ?_)
      · refine x_lconst (pc := 671) (v := 0) G dl_671 (by decide) ?_
        refine x_lcmp (pc := 672) G dl_672 ?_
        refine x_if_eq (pc := 673) (tgt := 678) (y := 0) G dl_673 rfl (fun _ => ?_) (fun z8 => absurd (lg_same (hf.trans (if_pos z7))) z8)
        refine x_goto (pc := 678) (tgt := 3248) G dl_678 rfl ?_
        exact Wx_l8 (hend X2 S2 _ f2 hL2)
      · refine x_lconst (pc := 667) (v := 1) G dl_667 (by decide) ?_
        refine x_goto (pc := 668) (tgt := 672) G dl_668 rfl ?_
        refine x_lcmp (pc := 672) G dl_672 ?_
        refine x_if_eq (pc := 673) (tgt := 678) (y := 0) G dl_673 rfl (fun _ => ?_) (fun z8 => absurd (lg_same (hf.trans (if_neg z7))) z8)
        refine x_goto (pc := 678) (tgt := 3248) G dl_678 rfl ?_
        exact Wx_l8 (hend X2 S2 _ f2 hL2)
theorem dl_681 : decode cL_law 681 = .ok (.aload_n 1, 1) := by decide +kernel
theorem dl_682 : decode cL_law 682 = .ok (.aload_n 0, 1) := by decide +kernel
theorem dl_683 : decode cL_law 683 = .ok (.iload 4, 2) := by decide +kernel
theorem dl_685 : decode cL_law 685 = .ok (.iconst 1, 1) := by decide +kernel
theorem dl_686 : decode cL_law 686 = .ok (.iadd, 1) := by decide +kernel
theorem dl_687 : decode cL_law 687 = .ok (.iaload, 1) := by decide +kernel
theorem dl_688 : decode cL_law 688 = .ok (.aload_n 3, 1) := by decide +kernel
theorem dl_689 : decode cL_law 689 = .ok (.invokestatic 196, 3) := by decide +kernel
theorem dl_692 : decode cL_law 692 = .ok (.istore 5, 2) := by decide +kernel
theorem dl_694 : decode cL_law 694 = .ok (.aload_n 2, 1) := by decide +kernel
theorem dl_695 : decode cL_law 695 = .ok (.aload_n 0, 1) := by decide +kernel
theorem dl_696 : decode cL_law 696 = .ok (.iload 4, 2) := by decide +kernel
theorem dl_698 : decode cL_law 698 = .ok (.iconst 1, 1) := by decide +kernel
theorem dl_699 : decode cL_law 699 = .ok (.iadd, 1) := by decide +kernel
theorem dl_700 : decode cL_law 700 = .ok (.iaload, 1) := by decide +kernel
theorem dl_701 : decode cL_law 701 = .ok (.invokevirtual 198, 3) := by decide +kernel
theorem dl_704 : decode cL_law 704 = .ok (.istore 6, 2) := by decide +kernel
theorem dl_706 : decode cL_law 706 = .ok (.aload_n 2, 1) := by decide +kernel
theorem dl_707 : decode cL_law 707 = .ok (.invokevirtual 172, 3) := by decide +kernel
theorem dl_710 : decode cL_law 710 = .ok (.iload 5, 2) := by decide +kernel
theorem dl_712 : decode cL_law 712 = .ok (.if_icmp .eq 5, 3) := by decide +kernel
theorem dl_715 : decode cL_law 715 = .ok (.iconst 0, 1) := by decide +kernel
theorem dl_716 : decode cL_law 716 = .ok (.ireturn, 1) := by decide +kernel
theorem dl_717 : decode cL_law 717 = .ok (.iload 5, 2) := by decide +kernel
theorem dl_719 : decode cL_law 719 = .ok (.ifCond .ne 15, 3) := by decide +kernel
theorem dl_722 : decode cL_law 722 = .ok (.aload_n 3, 1) := by decide +kernel
theorem dl_723 : decode cL_law 723 = .ok (.iconst 0, 1) := by decide +kernel
theorem dl_724 : decode cL_law 724 = .ok (.laload, 1) := by decide +kernel
theorem dl_725 : decode cL_law 725 = .ok (.iload 6, 2) := by decide +kernel
theorem dl_727 : decode cL_law 727 = .ok (.i2l, 1) := by decide +kernel
theorem dl_728 : decode cL_law 728 = .ok (.lcmp, 1) := by decide +kernel
theorem dl_729 : decode cL_law 729 = .ok (.ifCond .eq 5, 3) := by decide +kernel
theorem dl_732 : decode cL_law 732 = .ok (.iconst 0, 1) := by decide +kernel
theorem dl_733 : decode cL_law 733 = .ok (.ireturn, 1) := by decide +kernel
theorem dl_734 : decode cL_law 734 = .ok (.goto 2514, 3) := by decide +kernel
set_option maxRecDepth 100000 in
set_option maxHeartbeats 4000000 in
theorem lk_carried {p : Program} {l : Launch} {e : Env} {s : State} {m : MethodId} {args : Array Value} {below : List Frame} {meth : Method} {c : Code} {k : KC} {A : Nat → Prop} {Q : State → Prop} {bc1 bs1 b0 Ln b ao mo i : Nat} {xs : Nat → Int32} {ad : Nat → Nat} {f : Nat → Int64} {X : CX} {S : CT} {M : MS} {rt9 : Option FieldType} (hl : l.stackTraces = false) (G : GX p l room_1 s m args meth c k A RL cL_law 8 rt9) (hX : va_X b0 Ln xs s s.heap) (hbl : b0 < s.heap.size) (hbA : ¬ A b0) (hH : HM mo ad) (hi : i + 8 ≤ Ln) (hL : Ln ≤ 4096) (h : LV9 k b X S ao f mo ad M) (hend : ∀ X2 S2 M2 f2, LV9 k b X2 S2 ao f2 mo ad M2 → Wx p l e room_1 s m args below meth c k A 8 Q bc1 bs1 3248 [some (.ref b0), some (.ref b), some (.ref mo), some (.ref ao), some (.int (nI i)), none, none, none] [] (WL k X2 S2 ao f2 mo ad M2)) : Wx p l e room_1 s m args below meth c k A 8 Q (bc1 + 1) (bs1 + 6) 681 [some (.ref b0), some (.ref b), some (.ref mo), some (.ref ao), some (.int (nI i)), none, none, none] [] (WL k X S ao f mo ad M) := by
  obtain ⟨hI, hb, hd1, hd2⟩ := h
  obtain ⟨hbm, fs, hbf⟩ := cw11 (k := k) (S := S) hI.1 hb
  have hvr := vr11 hb
  have hx1 : vp_in (nI i + 1) Ln := ix_in (j := 1) rfl (by omega) hL
  unfold WL
  refine x_aload1 (pc := 681) G dl_681 ?_
  refine x_aload0 (pc := 682) G dl_682 ?_
  refine x_iload4 (pc := 683) G dl_683 ?_
  refine x_iconst (pc := 685) (v := 1) G dl_685 (by decide) ?_
  refine x_iadd (pc := 686) G dl_686 ?_
  refine x_sld (pc := 687) G hX hbl hbA hx1 dl_687 ?_
  refine x_aload3 (pc := 688) G dl_688 ?_
  have hC := kc_carried (k := k) hl hI (p1 := (xs (nI i + 1).toNatClampNeg))
  rw [hvr] at hC
  have hst := fun {o : Out} {w : Wd} => so_carried (k := k) (o := o) (w := w) (p1 := (xs (nI i + 1).toNatClampNeg)) hI
  have hh := ch_carried hl hbm hbf hd1 hC (fun o w hp => by
    obtain ⟨_, _, _, _, _, ⟨ho, _⟩ | ⟨E, he, _, hc⟩⟩ := hst hp
    · exact Or.inl ⟨_, ho⟩
    · exact Or.inr ⟨E, he, hc⟩)
  have hh := MI.frame hh hd2
  refine x_callSW (pc := 689) (bc1 := bc1) (bs1 := bs1) (n := 3) (As := [.ref b, .int (xs (nI i + 1).toNatClampNeg), .ref ao]) G hh q_ml_L_196 q_st_yL_carried q_in_L q_cw_carried ⟨by decide, by decide, by decide +kernel⟩ ⟨Nat.le_of_ble_eq_true rfl, Nat.le_of_ble_eq_true rfl⟩ (Nat.zero_le _) (Nat.le_refl _) (Nat.le_refl _) rfl rfl dl_689 (fun v w9 hp => ?_)
  obtain ⟨X2, S2, f2, kc, rfl, hL2, hv, hk, hz⟩ : ∃ X2 S2 f2 kc, w9 = wu (wu (cW k X2 S2) (oW k ao f2)) (mW k mo ad M) ∧ LV9 k b X2 S2 ao f2 mo ad (f_carried (xs (nI i + 1).toNatClampNeg) M).2 ∧ v = some (.int kc) ∧ mI (f_carried (xs (nI i + 1).toNatClampNeg) M).2 0 = kc ∧ (kc = 0 → f2 0 = (f_carried (xs (nI i + 1).toNatClampNeg) M).1.toInt64) := by
    obtain ⟨h9, ⟨w1, f1, rfl, hd1', hpp⟩, hd2', rfl⟩ := hp
    rcases hpp with ⟨r, hp1, hv, hf⟩ | ⟨E, hp1, hv⟩
    · obtain ⟨X2, S2, rfl, hI2, hb2, ⟨ho, h0⟩ | ⟨E, he, _, _⟩⟩ := hst hp1
      · have e9 := Sum.inl.inj ho
        cases e9
        exact ⟨X2, S2, _, 0, rfl, ⟨hI2, hb2.trans hb, hd1', hd2'⟩, Sum.inl.inj hv, h0, fun _ => hf⟩
      · cases he
    · obtain ⟨X2, S2, rfl, hI2, hb2, ⟨ho, h0⟩ | ⟨E2, he, h0, hc⟩⟩ := hst hp1
      · cases ho
      · cases he
        refine ⟨X2, S2, _, _, rfl, ⟨hI2, hb2.trans hb, hd1', hd2'⟩, Sum.inl.inj hv, h0, fun z => ?_⟩
        rcases hc with rfl <;> exact absurd z (by decide)
  subst hv
  obtain ⟨hI2, hb2, hd1', hd2'⟩ := id hL2
  refine x_istore5 (pc := 692) G dl_692 (by decide) rfl ?_
  refine x_aload2 (pc := 694) G dl_694 ?_
  refine x_aload0 (pc := 695) G dl_695 ?_
  refine x_iload4 (pc := 696) G dl_696 ?_
  refine x_iconst (pc := 698) (v := 1) G dl_698 (by decide) ?_
  refine x_iadd (pc := 699) G dl_699 ?_
  refine x_sld (pc := 700) G hX hbl hbA hx1 dl_700 ?_
  have hr := rc_carried (k := k) hl hH hI.2.2.2 (p1 := (xs (nI i + 1).toNatClampNeg))
  refine Wx_perm hd2' ?_
  refine x_callV (pc := 701) (bc1 := bc1) (bs1 := bs1) (n := 1) (As := [.int (xs (nI i + 1).toNatClampNeg)]) G (hr.frame (fun a ha z => hd2' a z ha)) (List.mem_append_left _ mW_mo.1) ((if_pos mW_mo.1).trans mW_mo.2) (show vwCl[12]? = some (_, _, _) from rfl) q_ml_L_198 q_im_yX11_carried q_se_yX11_carried q_in_X11 q_co_yX11_carried ⟨by decide, by decide, by decide +kernel⟩ ⟨Nat.le_of_ble_eq_true rfl, Nat.le_of_ble_eq_true rfl⟩ (Nat.zero_le _) (Nat.le_refl _) (Nat.le_refl _) rfl rfl dl_701 (fun v w9 hp => ?_) (fun E w9 hp => by obtain ⟨_, hq, _⟩ := hp; cases hq.1)
  obtain ⟨h9, ⟨hv, rfl⟩, _, rfl⟩ := hp
  have hv := Sum.inl.inj hv
  subst hv
  refine Wx_perm (fun a ha z => hd2' a z ha) ?_
  refine x_istore6 (pc := 704) G dl_704 (by decide) rfl ?_
  refine x_aload2 (pc := 706) G dl_706 ?_
  refine Wx_perm hd2' ?_
  refine x_callV (pc := 707) (bc1 := bc1) (bs1 := bs1) (n := 0) (As := []) G ((c_thrown (k := k) (M := (f_carried (xs (nI i + 1).toNatClampNeg) M).2) hl hH).frame (fun a ha z => hd2' a z ha)) (List.mem_append_left _ mW_mo.1) ((if_pos mW_mo.1).trans mW_mo.2) (show vwCl[12]? = some (_, _, _) from rfl) q_ml_L_172 q_im_yX11_thrown q_se_yX11_thrown q_in_X11 q_co_yX11_thrown ⟨by decide, by decide, by decide +kernel⟩ ⟨Nat.le_of_ble_eq_true rfl, Nat.le_of_ble_eq_true rfl⟩ (Nat.zero_le _) (Nat.le_refl _) (Nat.le_refl _) rfl rfl dl_707 (fun v w9 hp => ?_) (fun E w9 hp => by obtain ⟨_, hq, _⟩ := hp; cases hq.1)
  obtain ⟨h9, ⟨hv, rfl⟩, _, rfl⟩ := hp
  have hv := Sum.inl.inj hv
  subst hv
  refine Wx_perm (fun a ha z => hd2' a z ha) ?_
  refine x_iload5 (pc := 710) G dl_710 ?_
  refine x_icmp_eq (pc := 712) (tgt := 717) G dl_712 rfl (fun _ => ?_) (fun z9 => absurd hk z9)
  refine x_iload5 (pc := 717) G dl_717 ?_
  refine x_if_ne (pc := 719) (tgt := 734) (y := 0) G dl_719 rfl (fun _ => ?_) (fun z9 => ?_)
  · skip
    refine x_goto (pc := 734) (tgt := 3248) G dl_734 rfl ?_
    exact Wx_l8 (hend X2 S2 _ f2 hL2)
  · have hf := hz z9
    refine x_aload3 (pc := 722) G dl_722 ?_
    refine x_iconst (pc := 723) (v := 0) G dl_723 (by decide) ?_
    refine x_old (pc := 724) G hd1' dl_724 ?_
    refine x_iload6 (pc := 725) G dl_725 ?_
    refine x_i2l (pc := 727) G dl_727 ?_
    refine x_lcmp (pc := 728) G dl_728 ?_
    refine x_if_eq (pc := 729) (tgt := 734) (y := 0) G dl_729 rfl (fun _ => ?_) (fun z8 => absurd (lg_same hf) z8)
    refine x_goto (pc := 734) (tgt := 3248) G dl_734 rfl ?_
    exact Wx_l8 (hend X2 S2 _ f2 hL2)
theorem dl_737 : decode cL_law 737 = .ok (.aload_n 1, 1) := by decide +kernel
theorem dl_738 : decode cL_law 738 = .ok (.aload_n 0, 1) := by decide +kernel
theorem dl_739 : decode cL_law 739 = .ok (.iload 4, 2) := by decide +kernel
theorem dl_741 : decode cL_law 741 = .ok (.iconst 1, 1) := by decide +kernel
theorem dl_742 : decode cL_law 742 = .ok (.iadd, 1) := by decide +kernel
theorem dl_743 : decode cL_law 743 = .ok (.iaload, 1) := by decide +kernel
theorem dl_744 : decode cL_law 744 = .ok (.aload_n 0, 1) := by decide +kernel
theorem dl_745 : decode cL_law 745 = .ok (.iload 4, 2) := by decide +kernel
theorem dl_747 : decode cL_law 747 = .ok (.iconst 2, 1) := by decide +kernel
theorem dl_748 : decode cL_law 748 = .ok (.iadd, 1) := by decide +kernel
theorem dl_749 : decode cL_law 749 = .ok (.iaload, 1) := by decide +kernel
theorem dl_750 : decode cL_law 750 = .ok (.aload_n 0, 1) := by decide +kernel
theorem dl_751 : decode cL_law 751 = .ok (.iload 4, 2) := by decide +kernel
theorem dl_753 : decode cL_law 753 = .ok (.iconst 3, 1) := by decide +kernel
theorem dl_754 : decode cL_law 754 = .ok (.iadd, 1) := by decide +kernel
theorem dl_755 : decode cL_law 755 = .ok (.iaload, 1) := by decide +kernel
theorem dl_756 : decode cL_law 756 = .ok (.aload_n 0, 1) := by decide +kernel
theorem dl_757 : decode cL_law 757 = .ok (.iload 4, 2) := by decide +kernel
theorem dl_759 : decode cL_law 759 = .ok (.iconst 4, 1) := by decide +kernel
theorem dl_760 : decode cL_law 760 = .ok (.iadd, 1) := by decide +kernel
theorem dl_761 : decode cL_law 761 = .ok (.iaload, 1) := by decide +kernel
theorem dl_762 : decode cL_law 762 = .ok (.aload_n 0, 1) := by decide +kernel
theorem dl_763 : decode cL_law 763 = .ok (.iload 4, 2) := by decide +kernel
theorem dl_765 : decode cL_law 765 = .ok (.iconst 5, 1) := by decide +kernel
theorem dl_766 : decode cL_law 766 = .ok (.iadd, 1) := by decide +kernel
theorem dl_767 : decode cL_law 767 = .ok (.iaload, 1) := by decide +kernel
theorem dl_768 : decode cL_law 768 = .ok (.aload_n 0, 1) := by decide +kernel
theorem dl_769 : decode cL_law 769 = .ok (.iload 4, 2) := by decide +kernel
theorem dl_771 : decode cL_law 771 = .ok (.bipush 6, 2) := by decide +kernel
theorem dl_773 : decode cL_law 773 = .ok (.iadd, 1) := by decide +kernel
theorem dl_774 : decode cL_law 774 = .ok (.iaload, 1) := by decide +kernel
theorem dl_775 : decode cL_law 775 = .ok (.invokestatic 199, 3) := by decide +kernel
theorem dl_778 : decode cL_law 778 = .ok (.istore 5, 2) := by decide +kernel
theorem dl_780 : decode cL_law 780 = .ok (.aload_n 2, 1) := by decide +kernel
theorem dl_781 : decode cL_law 781 = .ok (.aload_n 0, 1) := by decide +kernel
theorem dl_782 : decode cL_law 782 = .ok (.iload 4, 2) := by decide +kernel
theorem dl_784 : decode cL_law 784 = .ok (.iconst 1, 1) := by decide +kernel
theorem dl_785 : decode cL_law 785 = .ok (.iadd, 1) := by decide +kernel
theorem dl_786 : decode cL_law 786 = .ok (.iaload, 1) := by decide +kernel
theorem dl_787 : decode cL_law 787 = .ok (.aload_n 0, 1) := by decide +kernel
theorem dl_788 : decode cL_law 788 = .ok (.iload 4, 2) := by decide +kernel
theorem dl_790 : decode cL_law 790 = .ok (.iconst 2, 1) := by decide +kernel
theorem dl_791 : decode cL_law 791 = .ok (.iadd, 1) := by decide +kernel
theorem dl_792 : decode cL_law 792 = .ok (.iaload, 1) := by decide +kernel
theorem dl_793 : decode cL_law 793 = .ok (.aload_n 0, 1) := by decide +kernel
theorem dl_794 : decode cL_law 794 = .ok (.iload 4, 2) := by decide +kernel
theorem dl_796 : decode cL_law 796 = .ok (.iconst 3, 1) := by decide +kernel
theorem dl_797 : decode cL_law 797 = .ok (.iadd, 1) := by decide +kernel
theorem dl_798 : decode cL_law 798 = .ok (.iaload, 1) := by decide +kernel
theorem dl_799 : decode cL_law 799 = .ok (.aload_n 0, 1) := by decide +kernel
theorem dl_800 : decode cL_law 800 = .ok (.iload 4, 2) := by decide +kernel
theorem dl_802 : decode cL_law 802 = .ok (.iconst 4, 1) := by decide +kernel
theorem dl_803 : decode cL_law 803 = .ok (.iadd, 1) := by decide +kernel
theorem dl_804 : decode cL_law 804 = .ok (.iaload, 1) := by decide +kernel
theorem dl_805 : decode cL_law 805 = .ok (.aload_n 0, 1) := by decide +kernel
theorem dl_806 : decode cL_law 806 = .ok (.iload 4, 2) := by decide +kernel
theorem dl_808 : decode cL_law 808 = .ok (.iconst 5, 1) := by decide +kernel
theorem dl_809 : decode cL_law 809 = .ok (.iadd, 1) := by decide +kernel
theorem dl_810 : decode cL_law 810 = .ok (.iaload, 1) := by decide +kernel
theorem dl_811 : decode cL_law 811 = .ok (.aload_n 0, 1) := by decide +kernel
theorem dl_812 : decode cL_law 812 = .ok (.iload 4, 2) := by decide +kernel
theorem dl_814 : decode cL_law 814 = .ok (.bipush 6, 2) := by decide +kernel
theorem dl_816 : decode cL_law 816 = .ok (.iadd, 1) := by decide +kernel
theorem dl_817 : decode cL_law 817 = .ok (.iaload, 1) := by decide +kernel
theorem dl_818 : decode cL_law 818 = .ok (.invokevirtual 202, 3) := by decide +kernel
theorem dl_821 : decode cL_law 821 = .ok (.aload_n 2, 1) := by decide +kernel
theorem dl_822 : decode cL_law 822 = .ok (.invokevirtual 172, 3) := by decide +kernel
theorem dl_825 : decode cL_law 825 = .ok (.iload 5, 2) := by decide +kernel
theorem dl_827 : decode cL_law 827 = .ok (.if_icmp .eq 5, 3) := by decide +kernel
theorem dl_830 : decode cL_law 830 = .ok (.iconst 0, 1) := by decide +kernel
theorem dl_831 : decode cL_law 831 = .ok (.ireturn, 1) := by decide +kernel
theorem dl_832 : decode cL_law 832 = .ok (.goto 2416, 3) := by decide +kernel
set_option maxRecDepth 100000 in
set_option maxHeartbeats 4000000 in
theorem lk_supplier {p : Program} {l : Launch} {e : Env} {s : State} {m : MethodId} {args : Array Value} {below : List Frame} {meth : Method} {c : Code} {k : KC} {A : Nat → Prop} {Q : State → Prop} {bc1 bs1 b0 Ln b ao mo i : Nat} {xs : Nat → Int32} {ad : Nat → Nat} {f : Nat → Int64} {X : CX} {S : CT} {M : MS} {rt9 : Option FieldType} (hl : l.stackTraces = false) (G : GX p l room_1 s m args meth c k A RL cL_law 8 rt9) (hX : va_X b0 Ln xs s s.heap) (hbl : b0 < s.heap.size) (hbA : ¬ A b0) (hH : HM mo ad) (hi : i + 8 ≤ Ln) (hL : Ln ≤ 4096) (h : LV9 k b X S ao f mo ad M) (hend : ∀ X2 S2 M2 f2, LV9 k b X2 S2 ao f2 mo ad M2 → Wx p l e room_1 s m args below meth c k A 8 Q bc1 bs1 3248 [some (.ref b0), some (.ref b), some (.ref mo), some (.ref ao), some (.int (nI i)), none, none, none] [] (WL k X2 S2 ao f2 mo ad M2)) : Wx p l e room_1 s m args below meth c k A 8 Q (bc1 + 1) (bs1 + 6) 737 [some (.ref b0), some (.ref b), some (.ref mo), some (.ref ao), some (.int (nI i)), none, none, none] [] (WL k X S ao f mo ad M) := by
  obtain ⟨hI, hb, hd1, hd2⟩ := h
  obtain ⟨hbm, fs, hbf⟩ := cw11 (k := k) (S := S) hI.1 hb
  have hvr := vr11 hb
  have hx1 : vp_in (nI i + 1) Ln := ix_in (j := 1) rfl (by omega) hL
  have hx2 : vp_in (nI i + 2) Ln := ix_in (j := 2) rfl (by omega) hL
  have hx3 : vp_in (nI i + 3) Ln := ix_in (j := 3) rfl (by omega) hL
  have hx4 : vp_in (nI i + 4) Ln := ix_in (j := 4) rfl (by omega) hL
  have hx5 : vp_in (nI i + 5) Ln := ix_in (j := 5) rfl (by omega) hL
  have hx6 : vp_in (nI i + 6) Ln := ix_in (j := 6) rfl (by omega) hL
  unfold WL
  refine x_aload1 (pc := 737) G dl_737 ?_
  refine x_aload0 (pc := 738) G dl_738 ?_
  refine x_iload4 (pc := 739) G dl_739 ?_
  refine x_iconst (pc := 741) (v := 1) G dl_741 (by decide) ?_
  refine x_iadd (pc := 742) G dl_742 ?_
  refine x_sld (pc := 743) G hX hbl hbA hx1 dl_743 ?_
  refine x_aload0 (pc := 744) G dl_744 ?_
  refine x_iload4 (pc := 745) G dl_745 ?_
  refine x_iconst (pc := 747) (v := 2) G dl_747 (by decide) ?_
  refine x_iadd (pc := 748) G dl_748 ?_
  refine x_sld (pc := 749) G hX hbl hbA hx2 dl_749 ?_
  refine x_aload0 (pc := 750) G dl_750 ?_
  refine x_iload4 (pc := 751) G dl_751 ?_
  refine x_iconst (pc := 753) (v := 3) G dl_753 (by decide) ?_
  refine x_iadd (pc := 754) G dl_754 ?_
  refine x_sld (pc := 755) G hX hbl hbA hx3 dl_755 ?_
  refine x_aload0 (pc := 756) G dl_756 ?_
  refine x_iload4 (pc := 757) G dl_757 ?_
  refine x_iconst (pc := 759) (v := 4) G dl_759 (by decide) ?_
  refine x_iadd (pc := 760) G dl_760 ?_
  refine x_sld (pc := 761) G hX hbl hbA hx4 dl_761 ?_
  refine x_aload0 (pc := 762) G dl_762 ?_
  refine x_iload4 (pc := 763) G dl_763 ?_
  refine x_iconst (pc := 765) (v := 5) G dl_765 (by decide) ?_
  refine x_iadd (pc := 766) G dl_766 ?_
  refine x_sld (pc := 767) G hX hbl hbA hx5 dl_767 ?_
  refine x_aload0 (pc := 768) G dl_768 ?_
  refine x_iload4 (pc := 769) G dl_769 ?_
  refine x_bipush (pc := 771) (v := 6) G dl_771 (by decide) ?_
  refine x_iadd (pc := 773) G dl_773 ?_
  refine x_sld (pc := 774) G hX hbl hbA hx6 dl_774 ?_
  have hC := kc_supplier (k := k) hl hI (p1 := (xs (nI i + 1).toNatClampNeg)) (p2 := (xs (nI i + 2).toNatClampNeg)) (p3 := (xs (nI i + 3).toNatClampNeg)) (p4 := (xs (nI i + 4).toNatClampNeg)) (p5 := (xs (nI i + 5).toNatClampNeg)) (p6 := (xs (nI i + 6).toNatClampNeg))
  rw [hvr] at hC
  have hst := fun {o : Out} {w : Wd} => so_supplier (k := k) (o := o) (w := w) (p1 := (xs (nI i + 1).toNatClampNeg)) (p2 := (xs (nI i + 2).toNatClampNeg)) (p3 := (xs (nI i + 3).toNatClampNeg)) (p4 := (xs (nI i + 4).toNatClampNeg)) (p5 := (xs (nI i + 5).toNatClampNeg)) (p6 := (xs (nI i + 6).toNatClampNeg)) hI
  have hh := ch_supplier hl hbm hbf hC (fun o w hp => by
    obtain ⟨_, _, _, _, _, ⟨ho, _⟩ | ⟨E, he, _, hc⟩⟩ := hst hp
    · exact Or.inl ho
    · exact Or.inr ⟨E, he, hc⟩)
  have hh := MI.frame hh hd1
  have hh := MI.frame hh hd2
  refine x_callSW (pc := 775) (bc1 := bc1) (bs1 := bs1) (n := 7) (As := [.ref b, .int (xs (nI i + 1).toNatClampNeg), .int (xs (nI i + 2).toNatClampNeg), .int (xs (nI i + 3).toNatClampNeg), .int (xs (nI i + 4).toNatClampNeg), .int (xs (nI i + 5).toNatClampNeg), .int (xs (nI i + 6).toNatClampNeg)]) G hh q_ml_L_199 q_st_yL_supplier q_in_L q_cw_supplier ⟨by decide, by decide, by decide +kernel⟩ ⟨Nat.le_of_ble_eq_true rfl, Nat.le_of_ble_eq_true rfl⟩ (Nat.zero_le _) (Nat.le_refl _) (Nat.le_refl _) rfl rfl dl_775 (fun v w9 hp => ?_)
  obtain ⟨X2, S2, f2, kc, rfl, hL2, hv, hk, hz⟩ : ∃ X2 S2 f2 kc, w9 = wu (wu (cW k X2 S2) (oW k ao f2)) (mW k mo ad M) ∧ LV9 k b X2 S2 ao f2 mo ad (f_supplier (xs (nI i + 1).toNatClampNeg) (xs (nI i + 2).toNatClampNeg) (xs (nI i + 3).toNatClampNeg) (xs (nI i + 4).toNatClampNeg) (xs (nI i + 5).toNatClampNeg) (xs (nI i + 6).toNatClampNeg) M) ∧ v = some (.int kc) ∧ mI (f_supplier (xs (nI i + 1).toNatClampNeg) (xs (nI i + 2).toNatClampNeg) (xs (nI i + 3).toNatClampNeg) (xs (nI i + 4).toNatClampNeg) (xs (nI i + 5).toNatClampNeg) (xs (nI i + 6).toNatClampNeg) M) 0 = kc ∧ (kc = 0 → True) := by
    obtain ⟨h9, ⟨h8, ⟨w1, rfl, hpp⟩, hd1', rfl⟩, hd2', rfl⟩ := hp
    rcases hpp with ⟨hp1, hv⟩ | ⟨E, hp1, hv⟩
    · obtain ⟨X2, S2, rfl, hI2, hb2, ⟨ho, h0⟩ | ⟨E, he, _, _⟩⟩ := hst hp1
      · exact ⟨X2, S2, _, 0, rfl, ⟨hI2, hb2.trans hb, hd1', hd2'⟩, Sum.inl.inj hv, h0, fun _ => trivial⟩
      · cases he
    · obtain ⟨X2, S2, rfl, hI2, hb2, ⟨ho, h0⟩ | ⟨E2, he, h0, hc⟩⟩ := hst hp1
      · cases ho
      · cases he
        refine ⟨X2, S2, _, _, rfl, ⟨hI2, hb2.trans hb, hd1', hd2'⟩, Sum.inl.inj hv, h0, fun z => ?_⟩
        rcases hc with rfl | rfl <;> exact absurd z (by decide)
  subst hv
  obtain ⟨hI2, hb2, hd1', hd2'⟩ := id hL2
  refine x_istore5 (pc := 778) G dl_778 (by decide) rfl ?_
  refine x_aload2 (pc := 780) G dl_780 ?_
  refine x_aload0 (pc := 781) G dl_781 ?_
  refine x_iload4 (pc := 782) G dl_782 ?_
  refine x_iconst (pc := 784) (v := 1) G dl_784 (by decide) ?_
  refine x_iadd (pc := 785) G dl_785 ?_
  refine x_sld (pc := 786) G hX hbl hbA hx1 dl_786 ?_
  refine x_aload0 (pc := 787) G dl_787 ?_
  refine x_iload4 (pc := 788) G dl_788 ?_
  refine x_iconst (pc := 790) (v := 2) G dl_790 (by decide) ?_
  refine x_iadd (pc := 791) G dl_791 ?_
  refine x_sld (pc := 792) G hX hbl hbA hx2 dl_792 ?_
  refine x_aload0 (pc := 793) G dl_793 ?_
  refine x_iload4 (pc := 794) G dl_794 ?_
  refine x_iconst (pc := 796) (v := 3) G dl_796 (by decide) ?_
  refine x_iadd (pc := 797) G dl_797 ?_
  refine x_sld (pc := 798) G hX hbl hbA hx3 dl_798 ?_
  refine x_aload0 (pc := 799) G dl_799 ?_
  refine x_iload4 (pc := 800) G dl_800 ?_
  refine x_iconst (pc := 802) (v := 4) G dl_802 (by decide) ?_
  refine x_iadd (pc := 803) G dl_803 ?_
  refine x_sld (pc := 804) G hX hbl hbA hx4 dl_804 ?_
  refine x_aload0 (pc := 805) G dl_805 ?_
  refine x_iload4 (pc := 806) G dl_806 ?_
  refine x_iconst (pc := 808) (v := 5) G dl_808 (by decide) ?_
  refine x_iadd (pc := 809) G dl_809 ?_
  refine x_sld (pc := 810) G hX hbl hbA hx5 dl_810 ?_
  refine x_aload0 (pc := 811) G dl_811 ?_
  refine x_iload4 (pc := 812) G dl_812 ?_
  refine x_bipush (pc := 814) (v := 6) G dl_814 (by decide) ?_
  refine x_iadd (pc := 816) G dl_816 ?_
  refine x_sld (pc := 817) G hX hbl hbA hx6 dl_817 ?_
  have hr := rc_supplier (k := k) hl hH hI.2.2.2 (p1 := (xs (nI i + 1).toNatClampNeg)) (p2 := (xs (nI i + 2).toNatClampNeg)) (p3 := (xs (nI i + 3).toNatClampNeg)) (p4 := (xs (nI i + 4).toNatClampNeg)) (p5 := (xs (nI i + 5).toNatClampNeg)) (p6 := (xs (nI i + 6).toNatClampNeg))
  refine Wx_perm hd2' ?_
  refine x_callV (pc := 818) (bc1 := bc1) (bs1 := bs1) (n := 6) (As := [.int (xs (nI i + 1).toNatClampNeg), .int (xs (nI i + 2).toNatClampNeg), .int (xs (nI i + 3).toNatClampNeg), .int (xs (nI i + 4).toNatClampNeg), .int (xs (nI i + 5).toNatClampNeg), .int (xs (nI i + 6).toNatClampNeg)]) G (hr.frame (fun a ha z => hd2' a z ha)) (List.mem_append_left _ mW_mo.1) ((if_pos mW_mo.1).trans mW_mo.2) (show vwCl[12]? = some (_, _, _) from rfl) q_ml_L_202 q_im_yX11_supplier q_se_yX11_supplier q_in_X11 q_co_yX11_supplier ⟨by decide, by decide, by decide +kernel⟩ ⟨Nat.le_of_ble_eq_true rfl, Nat.le_of_ble_eq_true rfl⟩ (Nat.zero_le _) (Nat.le_refl _) (Nat.le_refl _) rfl rfl dl_818 (fun v w9 hp => ?_) (fun E w9 hp => by obtain ⟨_, hq, _⟩ := hp; cases hq.1)
  obtain ⟨h9, ⟨hv, rfl⟩, _, rfl⟩ := hp
  have hv := Sum.inl.inj hv
  subst hv
  refine Wx_perm (fun a ha z => hd2' a z ha) ?_
  refine x_aload2 (pc := 821) G dl_821 ?_
  refine Wx_perm hd2' ?_
  refine x_callV (pc := 822) (bc1 := bc1) (bs1 := bs1) (n := 0) (As := []) G ((c_thrown (k := k) (M := (f_supplier (xs (nI i + 1).toNatClampNeg) (xs (nI i + 2).toNatClampNeg) (xs (nI i + 3).toNatClampNeg) (xs (nI i + 4).toNatClampNeg) (xs (nI i + 5).toNatClampNeg) (xs (nI i + 6).toNatClampNeg) M)) hl hH).frame (fun a ha z => hd2' a z ha)) (List.mem_append_left _ mW_mo.1) ((if_pos mW_mo.1).trans mW_mo.2) (show vwCl[12]? = some (_, _, _) from rfl) q_ml_L_172 q_im_yX11_thrown q_se_yX11_thrown q_in_X11 q_co_yX11_thrown ⟨by decide, by decide, by decide +kernel⟩ ⟨Nat.le_of_ble_eq_true rfl, Nat.le_of_ble_eq_true rfl⟩ (Nat.zero_le _) (Nat.le_refl _) (Nat.le_refl _) rfl rfl dl_822 (fun v w9 hp => ?_) (fun E w9 hp => by obtain ⟨_, hq, _⟩ := hp; cases hq.1)
  obtain ⟨h9, ⟨hv, rfl⟩, _, rfl⟩ := hp
  have hv := Sum.inl.inj hv
  subst hv
  refine Wx_perm (fun a ha z => hd2' a z ha) ?_
  refine x_iload5 (pc := 825) G dl_825 ?_
  refine x_icmp_eq (pc := 827) (tgt := 832) G dl_827 rfl (fun _ => ?_) (fun z9 => absurd hk z9)
  refine x_goto (pc := 832) (tgt := 3248) G dl_832 rfl ?_
  exact Wx_l8 (hend X2 S2 _ f2 hL2)
theorem dl_835 : decode cL_law 835 = .ok (.aload_n 1, 1) := by decide +kernel
theorem dl_836 : decode cL_law 836 = .ok (.aload_n 0, 1) := by decide +kernel
theorem dl_837 : decode cL_law 837 = .ok (.iload 4, 2) := by decide +kernel
theorem dl_839 : decode cL_law 839 = .ok (.iconst 1, 1) := by decide +kernel
theorem dl_840 : decode cL_law 840 = .ok (.iadd, 1) := by decide +kernel
theorem dl_841 : decode cL_law 841 = .ok (.iaload, 1) := by decide +kernel
theorem dl_842 : decode cL_law 842 = .ok (.aload_n 0, 1) := by decide +kernel
theorem dl_843 : decode cL_law 843 = .ok (.iload 4, 2) := by decide +kernel
theorem dl_845 : decode cL_law 845 = .ok (.iconst 2, 1) := by decide +kernel
theorem dl_846 : decode cL_law 846 = .ok (.iadd, 1) := by decide +kernel
theorem dl_847 : decode cL_law 847 = .ok (.iaload, 1) := by decide +kernel
theorem dl_848 : decode cL_law 848 = .ok (.aload_n 3, 1) := by decide +kernel
theorem dl_849 : decode cL_law 849 = .ok (.invokestatic 203, 3) := by decide +kernel
theorem dl_852 : decode cL_law 852 = .ok (.istore 5, 2) := by decide +kernel
theorem dl_854 : decode cL_law 854 = .ok (.aload_n 2, 1) := by decide +kernel
theorem dl_855 : decode cL_law 855 = .ok (.aload_n 0, 1) := by decide +kernel
theorem dl_856 : decode cL_law 856 = .ok (.iload 4, 2) := by decide +kernel
theorem dl_858 : decode cL_law 858 = .ok (.iconst 1, 1) := by decide +kernel
theorem dl_859 : decode cL_law 859 = .ok (.iadd, 1) := by decide +kernel
theorem dl_860 : decode cL_law 860 = .ok (.iaload, 1) := by decide +kernel
theorem dl_861 : decode cL_law 861 = .ok (.aload_n 0, 1) := by decide +kernel
theorem dl_862 : decode cL_law 862 = .ok (.iload 4, 2) := by decide +kernel
theorem dl_864 : decode cL_law 864 = .ok (.iconst 2, 1) := by decide +kernel
theorem dl_865 : decode cL_law 865 = .ok (.iadd, 1) := by decide +kernel
theorem dl_866 : decode cL_law 866 = .ok (.iaload, 1) := by decide +kernel
theorem dl_867 : decode cL_law 867 = .ok (.invokevirtual 205, 3) := by decide +kernel
theorem dl_870 : decode cL_law 870 = .ok (.istore 6, 2) := by decide +kernel
theorem dl_872 : decode cL_law 872 = .ok (.aload_n 2, 1) := by decide +kernel
theorem dl_873 : decode cL_law 873 = .ok (.invokevirtual 172, 3) := by decide +kernel
theorem dl_876 : decode cL_law 876 = .ok (.iload 5, 2) := by decide +kernel
theorem dl_878 : decode cL_law 878 = .ok (.if_icmp .eq 5, 3) := by decide +kernel
theorem dl_881 : decode cL_law 881 = .ok (.iconst 0, 1) := by decide +kernel
theorem dl_882 : decode cL_law 882 = .ok (.ireturn, 1) := by decide +kernel
theorem dl_883 : decode cL_law 883 = .ok (.iload 5, 2) := by decide +kernel
theorem dl_885 : decode cL_law 885 = .ok (.ifCond .ne 15, 3) := by decide +kernel
theorem dl_888 : decode cL_law 888 = .ok (.aload_n 3, 1) := by decide +kernel
theorem dl_889 : decode cL_law 889 = .ok (.iconst 0, 1) := by decide +kernel
theorem dl_890 : decode cL_law 890 = .ok (.laload, 1) := by decide +kernel
theorem dl_891 : decode cL_law 891 = .ok (.iload 6, 2) := by decide +kernel
theorem dl_893 : decode cL_law 893 = .ok (.i2l, 1) := by decide +kernel
theorem dl_894 : decode cL_law 894 = .ok (.lcmp, 1) := by decide +kernel
theorem dl_895 : decode cL_law 895 = .ok (.ifCond .eq 5, 3) := by decide +kernel
theorem dl_898 : decode cL_law 898 = .ok (.iconst 0, 1) := by decide +kernel
theorem dl_899 : decode cL_law 899 = .ok (.ireturn, 1) := by decide +kernel
theorem dl_900 : decode cL_law 900 = .ok (.goto 2348, 3) := by decide +kernel
set_option maxRecDepth 100000 in
set_option maxHeartbeats 4000000 in
theorem lk_rate {p : Program} {l : Launch} {e : Env} {s : State} {m : MethodId} {args : Array Value} {below : List Frame} {meth : Method} {c : Code} {k : KC} {A : Nat → Prop} {Q : State → Prop} {bc1 bs1 b0 Ln b ao mo i : Nat} {xs : Nat → Int32} {ad : Nat → Nat} {f : Nat → Int64} {X : CX} {S : CT} {M : MS} {rt9 : Option FieldType} (hl : l.stackTraces = false) (G : GX p l room_1 s m args meth c k A RL cL_law 8 rt9) (hX : va_X b0 Ln xs s s.heap) (hbl : b0 < s.heap.size) (hbA : ¬ A b0) (hH : HM mo ad) (hi : i + 8 ≤ Ln) (hL : Ln ≤ 4096) (h : LV9 k b X S ao f mo ad M) (hend : ∀ X2 S2 M2 f2, LV9 k b X2 S2 ao f2 mo ad M2 → Wx p l e room_1 s m args below meth c k A 8 Q bc1 bs1 3248 [some (.ref b0), some (.ref b), some (.ref mo), some (.ref ao), some (.int (nI i)), none, none, none] [] (WL k X2 S2 ao f2 mo ad M2)) : Wx p l e room_1 s m args below meth c k A 8 Q (bc1 + 1) (bs1 + 6) 835 [some (.ref b0), some (.ref b), some (.ref mo), some (.ref ao), some (.int (nI i)), none, none, none] [] (WL k X S ao f mo ad M) := by
  obtain ⟨hI, hb, hd1, hd2⟩ := h
  obtain ⟨hbm, fs, hbf⟩ := cw11 (k := k) (S := S) hI.1 hb
  have hvr := vr11 hb
  have hx1 : vp_in (nI i + 1) Ln := ix_in (j := 1) rfl (by omega) hL
  have hx2 : vp_in (nI i + 2) Ln := ix_in (j := 2) rfl (by omega) hL
  unfold WL
  refine x_aload1 (pc := 835) G dl_835 ?_
  refine x_aload0 (pc := 836) G dl_836 ?_
  refine x_iload4 (pc := 837) G dl_837 ?_
  refine x_iconst (pc := 839) (v := 1) G dl_839 (by decide) ?_
  refine x_iadd (pc := 840) G dl_840 ?_
  refine x_sld (pc := 841) G hX hbl hbA hx1 dl_841 ?_
  refine x_aload0 (pc := 842) G dl_842 ?_
  refine x_iload4 (pc := 843) G dl_843 ?_
  refine x_iconst (pc := 845) (v := 2) G dl_845 (by decide) ?_
  refine x_iadd (pc := 846) G dl_846 ?_
  refine x_sld (pc := 847) G hX hbl hbA hx2 dl_847 ?_
  refine x_aload3 (pc := 848) G dl_848 ?_
  have hC := kc_rate (k := k) hl hI (p1 := (xs (nI i + 1).toNatClampNeg)) (p2 := (xs (nI i + 2).toNatClampNeg))
  rw [hvr] at hC
  have hst := fun {o : Out} {w : Wd} => so_rate (k := k) (o := o) (w := w) (p1 := (xs (nI i + 1).toNatClampNeg)) (p2 := (xs (nI i + 2).toNatClampNeg)) hI
  have hh := ch_rate hl hbm hbf hd1 hC (fun o w hp => by
    obtain ⟨_, _, _, _, _, ⟨ho, _⟩ | ⟨E, he, _, hc⟩⟩ := hst hp
    · exact Or.inl ⟨_, ho⟩
    · exact Or.inr ⟨E, he, hc⟩)
  have hh := MI.frame hh hd2
  refine x_callSW (pc := 849) (bc1 := bc1) (bs1 := bs1) (n := 4) (As := [.ref b, .int (xs (nI i + 1).toNatClampNeg), .int (xs (nI i + 2).toNatClampNeg), .ref ao]) G hh q_ml_L_203 q_st_yL_rate q_in_L q_cw_rate ⟨by decide, by decide, by decide +kernel⟩ ⟨Nat.le_of_ble_eq_true rfl, Nat.le_of_ble_eq_true rfl⟩ (Nat.zero_le _) (Nat.le_refl _) (Nat.le_refl _) rfl rfl dl_849 (fun v w9 hp => ?_)
  obtain ⟨X2, S2, f2, kc, rfl, hL2, hv, hk, hz⟩ : ∃ X2 S2 f2 kc, w9 = wu (wu (cW k X2 S2) (oW k ao f2)) (mW k mo ad M) ∧ LV9 k b X2 S2 ao f2 mo ad (f_rate (xs (nI i + 1).toNatClampNeg) (xs (nI i + 2).toNatClampNeg) M).2 ∧ v = some (.int kc) ∧ mI (f_rate (xs (nI i + 1).toNatClampNeg) (xs (nI i + 2).toNatClampNeg) M).2 0 = kc ∧ (kc = 0 → f2 0 = (f_rate (xs (nI i + 1).toNatClampNeg) (xs (nI i + 2).toNatClampNeg) M).1.toInt64) := by
    obtain ⟨h9, ⟨w1, f1, rfl, hd1', hpp⟩, hd2', rfl⟩ := hp
    rcases hpp with ⟨r, hp1, hv, hf⟩ | ⟨E, hp1, hv⟩
    · obtain ⟨X2, S2, rfl, hI2, hb2, ⟨ho, h0⟩ | ⟨E, he, _, _⟩⟩ := hst hp1
      · have e9 := Sum.inl.inj ho
        cases e9
        exact ⟨X2, S2, _, 0, rfl, ⟨hI2, hb2.trans hb, hd1', hd2'⟩, Sum.inl.inj hv, h0, fun _ => hf⟩
      · cases he
    · obtain ⟨X2, S2, rfl, hI2, hb2, ⟨ho, h0⟩ | ⟨E2, he, h0, hc⟩⟩ := hst hp1
      · cases ho
      · cases he
        refine ⟨X2, S2, _, _, rfl, ⟨hI2, hb2.trans hb, hd1', hd2'⟩, Sum.inl.inj hv, h0, fun z => ?_⟩
        rcases hc with rfl | rfl <;> exact absurd z (by decide)
  subst hv
  obtain ⟨hI2, hb2, hd1', hd2'⟩ := id hL2
  refine x_istore5 (pc := 852) G dl_852 (by decide) rfl ?_
  refine x_aload2 (pc := 854) G dl_854 ?_
  refine x_aload0 (pc := 855) G dl_855 ?_
  refine x_iload4 (pc := 856) G dl_856 ?_
  refine x_iconst (pc := 858) (v := 1) G dl_858 (by decide) ?_
  refine x_iadd (pc := 859) G dl_859 ?_
  refine x_sld (pc := 860) G hX hbl hbA hx1 dl_860 ?_
  refine x_aload0 (pc := 861) G dl_861 ?_
  refine x_iload4 (pc := 862) G dl_862 ?_
  refine x_iconst (pc := 864) (v := 2) G dl_864 (by decide) ?_
  refine x_iadd (pc := 865) G dl_865 ?_
  refine x_sld (pc := 866) G hX hbl hbA hx2 dl_866 ?_
  have hr := rc_rate (k := k) hl hH hI.2.2.2 (p1 := (xs (nI i + 1).toNatClampNeg)) (p2 := (xs (nI i + 2).toNatClampNeg))
  refine Wx_perm hd2' ?_
  refine x_callV (pc := 867) (bc1 := bc1) (bs1 := bs1) (n := 2) (As := [.int (xs (nI i + 1).toNatClampNeg), .int (xs (nI i + 2).toNatClampNeg)]) G (hr.frame (fun a ha z => hd2' a z ha)) (List.mem_append_left _ mW_mo.1) ((if_pos mW_mo.1).trans mW_mo.2) (show vwCl[12]? = some (_, _, _) from rfl) q_ml_L_205 q_im_yX11_rate q_se_yX11_rate q_in_X11 q_co_yX11_rate ⟨by decide, by decide, by decide +kernel⟩ ⟨Nat.le_of_ble_eq_true rfl, Nat.le_of_ble_eq_true rfl⟩ (Nat.zero_le _) (Nat.le_refl _) (Nat.le_refl _) rfl rfl dl_867 (fun v w9 hp => ?_) (fun E w9 hp => by obtain ⟨_, hq, _⟩ := hp; cases hq.1)
  obtain ⟨h9, ⟨hv, rfl⟩, _, rfl⟩ := hp
  have hv := Sum.inl.inj hv
  subst hv
  refine Wx_perm (fun a ha z => hd2' a z ha) ?_
  refine x_istore6 (pc := 870) G dl_870 (by decide) rfl ?_
  refine x_aload2 (pc := 872) G dl_872 ?_
  refine Wx_perm hd2' ?_
  refine x_callV (pc := 873) (bc1 := bc1) (bs1 := bs1) (n := 0) (As := []) G ((c_thrown (k := k) (M := (f_rate (xs (nI i + 1).toNatClampNeg) (xs (nI i + 2).toNatClampNeg) M).2) hl hH).frame (fun a ha z => hd2' a z ha)) (List.mem_append_left _ mW_mo.1) ((if_pos mW_mo.1).trans mW_mo.2) (show vwCl[12]? = some (_, _, _) from rfl) q_ml_L_172 q_im_yX11_thrown q_se_yX11_thrown q_in_X11 q_co_yX11_thrown ⟨by decide, by decide, by decide +kernel⟩ ⟨Nat.le_of_ble_eq_true rfl, Nat.le_of_ble_eq_true rfl⟩ (Nat.zero_le _) (Nat.le_refl _) (Nat.le_refl _) rfl rfl dl_873 (fun v w9 hp => ?_) (fun E w9 hp => by obtain ⟨_, hq, _⟩ := hp; cases hq.1)
  obtain ⟨h9, ⟨hv, rfl⟩, _, rfl⟩ := hp
  have hv := Sum.inl.inj hv
  subst hv
  refine Wx_perm (fun a ha z => hd2' a z ha) ?_
  refine x_iload5 (pc := 876) G dl_876 ?_
  refine x_icmp_eq (pc := 878) (tgt := 883) G dl_878 rfl (fun _ => ?_) (fun z9 => absurd hk z9)
  refine x_iload5 (pc := 883) G dl_883 ?_
  refine x_if_ne (pc := 885) (tgt := 900) (y := 0) G dl_885 rfl (fun _ => ?_) (fun z9 => ?_)
  · skip
    refine x_goto (pc := 900) (tgt := 3248) G dl_900 rfl ?_
    exact Wx_l8 (hend X2 S2 _ f2 hL2)
  · have hf := hz z9
    refine x_aload3 (pc := 888) G dl_888 ?_
    refine x_iconst (pc := 889) (v := 0) G dl_889 (by decide) ?_
    refine x_old (pc := 890) G hd1' dl_890 ?_
    refine x_iload6 (pc := 891) G dl_891 ?_
    refine x_i2l (pc := 893) G dl_893 ?_
    refine x_lcmp (pc := 894) G dl_894 ?_
    refine x_if_eq (pc := 895) (tgt := 900) (y := 0) G dl_895 rfl (fun _ => ?_) (fun z8 => absurd (lg_same hf) z8)
    refine x_goto (pc := 900) (tgt := 3248) G dl_900 rfl ?_
    exact Wx_l8 (hend X2 S2 _ f2 hL2)
theorem dl_903 : decode cL_law 903 = .ok (.aload_n 1, 1) := by decide +kernel
theorem dl_904 : decode cL_law 904 = .ok (.aload_n 0, 1) := by decide +kernel
theorem dl_905 : decode cL_law 905 = .ok (.iload 4, 2) := by decide +kernel
theorem dl_907 : decode cL_law 907 = .ok (.iconst 1, 1) := by decide +kernel
theorem dl_908 : decode cL_law 908 = .ok (.iadd, 1) := by decide +kernel
theorem dl_909 : decode cL_law 909 = .ok (.iaload, 1) := by decide +kernel
theorem dl_910 : decode cL_law 910 = .ok (.aload_n 0, 1) := by decide +kernel
theorem dl_911 : decode cL_law 911 = .ok (.iload 4, 2) := by decide +kernel
theorem dl_913 : decode cL_law 913 = .ok (.iconst 2, 1) := by decide +kernel
theorem dl_914 : decode cL_law 914 = .ok (.iadd, 1) := by decide +kernel
theorem dl_915 : decode cL_law 915 = .ok (.iaload, 1) := by decide +kernel
theorem dl_916 : decode cL_law 916 = .ok (.invokestatic 206, 3) := by decide +kernel
theorem dl_919 : decode cL_law 919 = .ok (.istore 5, 2) := by decide +kernel
theorem dl_921 : decode cL_law 921 = .ok (.aload_n 2, 1) := by decide +kernel
theorem dl_922 : decode cL_law 922 = .ok (.aload_n 0, 1) := by decide +kernel
theorem dl_923 : decode cL_law 923 = .ok (.iload 4, 2) := by decide +kernel
theorem dl_925 : decode cL_law 925 = .ok (.iconst 1, 1) := by decide +kernel
theorem dl_926 : decode cL_law 926 = .ok (.iadd, 1) := by decide +kernel
theorem dl_927 : decode cL_law 927 = .ok (.iaload, 1) := by decide +kernel
theorem dl_928 : decode cL_law 928 = .ok (.aload_n 0, 1) := by decide +kernel
theorem dl_929 : decode cL_law 929 = .ok (.iload 4, 2) := by decide +kernel
theorem dl_931 : decode cL_law 931 = .ok (.iconst 2, 1) := by decide +kernel
theorem dl_932 : decode cL_law 932 = .ok (.iadd, 1) := by decide +kernel
theorem dl_933 : decode cL_law 933 = .ok (.iaload, 1) := by decide +kernel
theorem dl_934 : decode cL_law 934 = .ok (.invokevirtual 209, 3) := by decide +kernel
theorem dl_937 : decode cL_law 937 = .ok (.aload_n 2, 1) := by decide +kernel
theorem dl_938 : decode cL_law 938 = .ok (.invokevirtual 172, 3) := by decide +kernel
theorem dl_941 : decode cL_law 941 = .ok (.iload 5, 2) := by decide +kernel
theorem dl_943 : decode cL_law 943 = .ok (.if_icmp .eq 5, 3) := by decide +kernel
theorem dl_946 : decode cL_law 946 = .ok (.iconst 0, 1) := by decide +kernel
theorem dl_947 : decode cL_law 947 = .ok (.ireturn, 1) := by decide +kernel
theorem dl_948 : decode cL_law 948 = .ok (.goto 2300, 3) := by decide +kernel
set_option maxRecDepth 100000 in
set_option maxHeartbeats 4000000 in
theorem lk_taxes {p : Program} {l : Launch} {e : Env} {s : State} {m : MethodId} {args : Array Value} {below : List Frame} {meth : Method} {c : Code} {k : KC} {A : Nat → Prop} {Q : State → Prop} {bc1 bs1 b0 Ln b ao mo i : Nat} {xs : Nat → Int32} {ad : Nat → Nat} {f : Nat → Int64} {X : CX} {S : CT} {M : MS} {rt9 : Option FieldType} (hl : l.stackTraces = false) (G : GX p l room_1 s m args meth c k A RL cL_law 8 rt9) (hX : va_X b0 Ln xs s s.heap) (hbl : b0 < s.heap.size) (hbA : ¬ A b0) (hH : HM mo ad) (hi : i + 8 ≤ Ln) (hL : Ln ≤ 4096) (h : LV9 k b X S ao f mo ad M) (hend : ∀ X2 S2 M2 f2, LV9 k b X2 S2 ao f2 mo ad M2 → Wx p l e room_1 s m args below meth c k A 8 Q bc1 bs1 3248 [some (.ref b0), some (.ref b), some (.ref mo), some (.ref ao), some (.int (nI i)), none, none, none] [] (WL k X2 S2 ao f2 mo ad M2)) : Wx p l e room_1 s m args below meth c k A 8 Q (bc1 + 1) (bs1 + 6) 903 [some (.ref b0), some (.ref b), some (.ref mo), some (.ref ao), some (.int (nI i)), none, none, none] [] (WL k X S ao f mo ad M) := by
  obtain ⟨hI, hb, hd1, hd2⟩ := h
  obtain ⟨hbm, fs, hbf⟩ := cw11 (k := k) (S := S) hI.1 hb
  have hvr := vr11 hb
  have hx1 : vp_in (nI i + 1) Ln := ix_in (j := 1) rfl (by omega) hL
  have hx2 : vp_in (nI i + 2) Ln := ix_in (j := 2) rfl (by omega) hL
  unfold WL
  refine x_aload1 (pc := 903) G dl_903 ?_
  refine x_aload0 (pc := 904) G dl_904 ?_
  refine x_iload4 (pc := 905) G dl_905 ?_
  refine x_iconst (pc := 907) (v := 1) G dl_907 (by decide) ?_
  refine x_iadd (pc := 908) G dl_908 ?_
  refine x_sld (pc := 909) G hX hbl hbA hx1 dl_909 ?_
  refine x_aload0 (pc := 910) G dl_910 ?_
  refine x_iload4 (pc := 911) G dl_911 ?_
  refine x_iconst (pc := 913) (v := 2) G dl_913 (by decide) ?_
  refine x_iadd (pc := 914) G dl_914 ?_
  refine x_sld (pc := 915) G hX hbl hbA hx2 dl_915 ?_
  have hC := kc_taxes (k := k) hl hI (p1 := (xs (nI i + 1).toNatClampNeg)) (p2 := (xs (nI i + 2).toNatClampNeg))
  rw [hvr] at hC
  have hst := fun {o : Out} {w : Wd} => so_taxes (k := k) (o := o) (w := w) (p1 := (xs (nI i + 1).toNatClampNeg)) (p2 := (xs (nI i + 2).toNatClampNeg)) hI
  have hh := ch_taxes hl hbm hbf hC (fun o w hp => by
    obtain ⟨_, _, _, _, _, ⟨ho, _⟩ | ⟨E, he, _, hc⟩⟩ := hst hp
    · exact Or.inl ho
    · exact Or.inr ⟨E, he, hc⟩)
  have hh := MI.frame hh hd1
  have hh := MI.frame hh hd2
  refine x_callSW (pc := 916) (bc1 := bc1) (bs1 := bs1) (n := 3) (As := [.ref b, .int (xs (nI i + 1).toNatClampNeg), .int (xs (nI i + 2).toNatClampNeg)]) G hh q_ml_L_206 q_st_yL_taxes q_in_L q_cw_taxes ⟨by decide, by decide, by decide +kernel⟩ ⟨Nat.le_of_ble_eq_true rfl, Nat.le_of_ble_eq_true rfl⟩ (Nat.zero_le _) (Nat.le_refl _) (Nat.le_refl _) rfl rfl dl_916 (fun v w9 hp => ?_)
  obtain ⟨X2, S2, f2, kc, rfl, hL2, hv, hk, hz⟩ : ∃ X2 S2 f2 kc, w9 = wu (wu (cW k X2 S2) (oW k ao f2)) (mW k mo ad M) ∧ LV9 k b X2 S2 ao f2 mo ad (f_taxes (xs (nI i + 1).toNatClampNeg) (xs (nI i + 2).toNatClampNeg) M) ∧ v = some (.int kc) ∧ mI (f_taxes (xs (nI i + 1).toNatClampNeg) (xs (nI i + 2).toNatClampNeg) M) 0 = kc ∧ (kc = 0 → True) := by
    obtain ⟨h9, ⟨h8, ⟨w1, rfl, hpp⟩, hd1', rfl⟩, hd2', rfl⟩ := hp
    rcases hpp with ⟨hp1, hv⟩ | ⟨E, hp1, hv⟩
    · obtain ⟨X2, S2, rfl, hI2, hb2, ⟨ho, h0⟩ | ⟨E, he, _, _⟩⟩ := hst hp1
      · exact ⟨X2, S2, _, 0, rfl, ⟨hI2, hb2.trans hb, hd1', hd2'⟩, Sum.inl.inj hv, h0, fun _ => trivial⟩
      · cases he
    · obtain ⟨X2, S2, rfl, hI2, hb2, ⟨ho, h0⟩ | ⟨E2, he, h0, hc⟩⟩ := hst hp1
      · cases ho
      · cases he
        refine ⟨X2, S2, _, _, rfl, ⟨hI2, hb2.trans hb, hd1', hd2'⟩, Sum.inl.inj hv, h0, fun z => ?_⟩
        rcases hc with rfl <;> exact absurd z (by decide)
  subst hv
  obtain ⟨hI2, hb2, hd1', hd2'⟩ := id hL2
  refine x_istore5 (pc := 919) G dl_919 (by decide) rfl ?_
  refine x_aload2 (pc := 921) G dl_921 ?_
  refine x_aload0 (pc := 922) G dl_922 ?_
  refine x_iload4 (pc := 923) G dl_923 ?_
  refine x_iconst (pc := 925) (v := 1) G dl_925 (by decide) ?_
  refine x_iadd (pc := 926) G dl_926 ?_
  refine x_sld (pc := 927) G hX hbl hbA hx1 dl_927 ?_
  refine x_aload0 (pc := 928) G dl_928 ?_
  refine x_iload4 (pc := 929) G dl_929 ?_
  refine x_iconst (pc := 931) (v := 2) G dl_931 (by decide) ?_
  refine x_iadd (pc := 932) G dl_932 ?_
  refine x_sld (pc := 933) G hX hbl hbA hx2 dl_933 ?_
  have hr := rc_taxes (k := k) hl hH hI.2.2.2 (p1 := (xs (nI i + 1).toNatClampNeg)) (p2 := (xs (nI i + 2).toNatClampNeg))
  refine Wx_perm hd2' ?_
  refine x_callV (pc := 934) (bc1 := bc1) (bs1 := bs1) (n := 2) (As := [.int (xs (nI i + 1).toNatClampNeg), .int (xs (nI i + 2).toNatClampNeg)]) G (hr.frame (fun a ha z => hd2' a z ha)) (List.mem_append_left _ mW_mo.1) ((if_pos mW_mo.1).trans mW_mo.2) (show vwCl[12]? = some (_, _, _) from rfl) q_ml_L_209 q_im_yX11_taxes q_se_yX11_taxes q_in_X11 q_co_yX11_taxes ⟨by decide, by decide, by decide +kernel⟩ ⟨Nat.le_of_ble_eq_true rfl, Nat.le_of_ble_eq_true rfl⟩ (Nat.zero_le _) (Nat.le_refl _) (Nat.le_refl _) rfl rfl dl_934 (fun v w9 hp => ?_) (fun E w9 hp => by obtain ⟨_, hq, _⟩ := hp; cases hq.1)
  obtain ⟨h9, ⟨hv, rfl⟩, _, rfl⟩ := hp
  have hv := Sum.inl.inj hv
  subst hv
  refine Wx_perm (fun a ha z => hd2' a z ha) ?_
  refine x_aload2 (pc := 937) G dl_937 ?_
  refine Wx_perm hd2' ?_
  refine x_callV (pc := 938) (bc1 := bc1) (bs1 := bs1) (n := 0) (As := []) G ((c_thrown (k := k) (M := (f_taxes (xs (nI i + 1).toNatClampNeg) (xs (nI i + 2).toNatClampNeg) M)) hl hH).frame (fun a ha z => hd2' a z ha)) (List.mem_append_left _ mW_mo.1) ((if_pos mW_mo.1).trans mW_mo.2) (show vwCl[12]? = some (_, _, _) from rfl) q_ml_L_172 q_im_yX11_thrown q_se_yX11_thrown q_in_X11 q_co_yX11_thrown ⟨by decide, by decide, by decide +kernel⟩ ⟨Nat.le_of_ble_eq_true rfl, Nat.le_of_ble_eq_true rfl⟩ (Nat.zero_le _) (Nat.le_refl _) (Nat.le_refl _) rfl rfl dl_938 (fun v w9 hp => ?_) (fun E w9 hp => by obtain ⟨_, hq, _⟩ := hp; cases hq.1)
  obtain ⟨h9, ⟨hv, rfl⟩, _, rfl⟩ := hp
  have hv := Sum.inl.inj hv
  subst hv
  refine Wx_perm (fun a ha z => hd2' a z ha) ?_
  refine x_iload5 (pc := 941) G dl_941 ?_
  refine x_icmp_eq (pc := 943) (tgt := 948) G dl_943 rfl (fun _ => ?_) (fun z9 => absurd hk z9)
  refine x_goto (pc := 948) (tgt := 3248) G dl_948 rfl ?_
  exact Wx_l8 (hend X2 S2 _ f2 hL2)
theorem dl_951 : decode cL_law 951 = .ok (.aload_n 1, 1) := by decide +kernel
theorem dl_952 : decode cL_law 952 = .ok (.aload_n 0, 1) := by decide +kernel
theorem dl_953 : decode cL_law 953 = .ok (.iload 4, 2) := by decide +kernel
theorem dl_955 : decode cL_law 955 = .ok (.iconst 1, 1) := by decide +kernel
theorem dl_956 : decode cL_law 956 = .ok (.iadd, 1) := by decide +kernel
theorem dl_957 : decode cL_law 957 = .ok (.iaload, 1) := by decide +kernel
theorem dl_958 : decode cL_law 958 = .ok (.aload_n 3, 1) := by decide +kernel
theorem dl_959 : decode cL_law 959 = .ok (.invokestatic 210, 3) := by decide +kernel
theorem dl_962 : decode cL_law 962 = .ok (.istore 5, 2) := by decide +kernel
theorem dl_964 : decode cL_law 964 = .ok (.aload_n 2, 1) := by decide +kernel
theorem dl_965 : decode cL_law 965 = .ok (.aload_n 0, 1) := by decide +kernel
theorem dl_966 : decode cL_law 966 = .ok (.iload 4, 2) := by decide +kernel
theorem dl_968 : decode cL_law 968 = .ok (.iconst 1, 1) := by decide +kernel
theorem dl_969 : decode cL_law 969 = .ok (.iadd, 1) := by decide +kernel
theorem dl_970 : decode cL_law 970 = .ok (.iaload, 1) := by decide +kernel
theorem dl_971 : decode cL_law 971 = .ok (.invokevirtual 212, 3) := by decide +kernel
theorem dl_974 : decode cL_law 974 = .ok (.istore 6, 2) := by decide +kernel
theorem dl_976 : decode cL_law 976 = .ok (.aload_n 2, 1) := by decide +kernel
theorem dl_977 : decode cL_law 977 = .ok (.invokevirtual 172, 3) := by decide +kernel
theorem dl_980 : decode cL_law 980 = .ok (.iload 5, 2) := by decide +kernel
theorem dl_982 : decode cL_law 982 = .ok (.if_icmp .eq 5, 3) := by decide +kernel
theorem dl_985 : decode cL_law 985 = .ok (.iconst 0, 1) := by decide +kernel
theorem dl_986 : decode cL_law 986 = .ok (.ireturn, 1) := by decide +kernel
theorem dl_987 : decode cL_law 987 = .ok (.iload 5, 2) := by decide +kernel
theorem dl_989 : decode cL_law 989 = .ok (.ifCond .ne 15, 3) := by decide +kernel
theorem dl_992 : decode cL_law 992 = .ok (.aload_n 3, 1) := by decide +kernel
theorem dl_993 : decode cL_law 993 = .ok (.iconst 0, 1) := by decide +kernel
theorem dl_994 : decode cL_law 994 = .ok (.laload, 1) := by decide +kernel
theorem dl_995 : decode cL_law 995 = .ok (.iload 6, 2) := by decide +kernel
theorem dl_997 : decode cL_law 997 = .ok (.i2l, 1) := by decide +kernel
theorem dl_998 : decode cL_law 998 = .ok (.lcmp, 1) := by decide +kernel
theorem dl_999 : decode cL_law 999 = .ok (.ifCond .eq 5, 3) := by decide +kernel
theorem dl_1002 : decode cL_law 1002 = .ok (.iconst 0, 1) := by decide +kernel
theorem dl_1003 : decode cL_law 1003 = .ok (.ireturn, 1) := by decide +kernel
theorem dl_1004 : decode cL_law 1004 = .ok (.goto 2244, 3) := by decide +kernel
set_option maxRecDepth 100000 in
set_option maxHeartbeats 4000000 in
theorem lk_pass {p : Program} {l : Launch} {e : Env} {s : State} {m : MethodId} {args : Array Value} {below : List Frame} {meth : Method} {c : Code} {k : KC} {A : Nat → Prop} {Q : State → Prop} {bc1 bs1 b0 Ln b ao mo i : Nat} {xs : Nat → Int32} {ad : Nat → Nat} {f : Nat → Int64} {X : CX} {S : CT} {M : MS} {rt9 : Option FieldType} (hl : l.stackTraces = false) (G : GX p l room_1 s m args meth c k A RL cL_law 8 rt9) (hX : va_X b0 Ln xs s s.heap) (hbl : b0 < s.heap.size) (hbA : ¬ A b0) (hH : HM mo ad) (hi : i + 8 ≤ Ln) (hL : Ln ≤ 4096) (h : LV9 k b X S ao f mo ad M) (hend : ∀ X2 S2 M2 f2, LV9 k b X2 S2 ao f2 mo ad M2 → Wx p l e room_1 s m args below meth c k A 8 Q bc1 bs1 3248 [some (.ref b0), some (.ref b), some (.ref mo), some (.ref ao), some (.int (nI i)), none, none, none] [] (WL k X2 S2 ao f2 mo ad M2)) : Wx p l e room_1 s m args below meth c k A 8 Q (bc1 + 1) (bs1 + 6) 951 [some (.ref b0), some (.ref b), some (.ref mo), some (.ref ao), some (.int (nI i)), none, none, none] [] (WL k X S ao f mo ad M) := by
  obtain ⟨hI, hb, hd1, hd2⟩ := h
  obtain ⟨hbm, fs, hbf⟩ := cw11 (k := k) (S := S) hI.1 hb
  have hvr := vr11 hb
  have hx1 : vp_in (nI i + 1) Ln := ix_in (j := 1) rfl (by omega) hL
  unfold WL
  refine x_aload1 (pc := 951) G dl_951 ?_
  refine x_aload0 (pc := 952) G dl_952 ?_
  refine x_iload4 (pc := 953) G dl_953 ?_
  refine x_iconst (pc := 955) (v := 1) G dl_955 (by decide) ?_
  refine x_iadd (pc := 956) G dl_956 ?_
  refine x_sld (pc := 957) G hX hbl hbA hx1 dl_957 ?_
  refine x_aload3 (pc := 958) G dl_958 ?_
  have hC := kc_pass (k := k) hl hI (p1 := (xs (nI i + 1).toNatClampNeg))
  rw [hvr] at hC
  have hst := fun {o : Out} {w : Wd} => so_pass (k := k) (o := o) (w := w) (p1 := (xs (nI i + 1).toNatClampNeg)) hI
  have hh := ch_pass hl hbm hbf hd1 hC (fun o w hp => by
    obtain ⟨_, _, _, _, _, ⟨ho, _⟩ | ⟨E, he, _, hc⟩⟩ := hst hp
    · exact Or.inl ⟨_, ho⟩
    · exact Or.inr ⟨E, he, hc⟩)
  have hh := MI.frame hh hd2
  refine x_callSW (pc := 959) (bc1 := bc1) (bs1 := bs1) (n := 3) (As := [.ref b, .int (xs (nI i + 1).toNatClampNeg), .ref ao]) G hh q_ml_L_210 q_st_yL_pass q_in_L q_cw_pass ⟨by decide, by decide, by decide +kernel⟩ ⟨Nat.le_of_ble_eq_true rfl, Nat.le_of_ble_eq_true rfl⟩ (Nat.zero_le _) (Nat.le_refl _) (Nat.le_refl _) rfl rfl dl_959 (fun v w9 hp => ?_)
  obtain ⟨X2, S2, f2, kc, rfl, hL2, hv, hk, hz⟩ : ∃ X2 S2 f2 kc, w9 = wu (wu (cW k X2 S2) (oW k ao f2)) (mW k mo ad M) ∧ LV9 k b X2 S2 ao f2 mo ad (f_pass (xs (nI i + 1).toNatClampNeg) M).2 ∧ v = some (.int kc) ∧ mI (f_pass (xs (nI i + 1).toNatClampNeg) M).2 0 = kc ∧ (kc = 0 → f2 0 = (f_pass (xs (nI i + 1).toNatClampNeg) M).1.toInt64) := by
    obtain ⟨h9, ⟨w1, f1, rfl, hd1', hpp⟩, hd2', rfl⟩ := hp
    rcases hpp with ⟨r, hp1, hv, hf⟩ | ⟨E, hp1, hv⟩
    · obtain ⟨X2, S2, rfl, hI2, hb2, ⟨ho, h0⟩ | ⟨E, he, _, _⟩⟩ := hst hp1
      · have e9 := Sum.inl.inj ho
        cases e9
        exact ⟨X2, S2, _, 0, rfl, ⟨hI2, hb2.trans hb, hd1', hd2'⟩, Sum.inl.inj hv, h0, fun _ => hf⟩
      · cases he
    · obtain ⟨X2, S2, rfl, hI2, hb2, ⟨ho, h0⟩ | ⟨E2, he, h0, hc⟩⟩ := hst hp1
      · cases ho
      · cases he
        refine ⟨X2, S2, _, _, rfl, ⟨hI2, hb2.trans hb, hd1', hd2'⟩, Sum.inl.inj hv, h0, fun z => ?_⟩
        rcases hc with rfl | rfl <;> exact absurd z (by decide)
  subst hv
  obtain ⟨hI2, hb2, hd1', hd2'⟩ := id hL2
  refine x_istore5 (pc := 962) G dl_962 (by decide) rfl ?_
  refine x_aload2 (pc := 964) G dl_964 ?_
  refine x_aload0 (pc := 965) G dl_965 ?_
  refine x_iload4 (pc := 966) G dl_966 ?_
  refine x_iconst (pc := 968) (v := 1) G dl_968 (by decide) ?_
  refine x_iadd (pc := 969) G dl_969 ?_
  refine x_sld (pc := 970) G hX hbl hbA hx1 dl_970 ?_
  have hr := rc_pass (k := k) hl hH hI.2.2.2 (p1 := (xs (nI i + 1).toNatClampNeg))
  refine Wx_perm hd2' ?_
  refine x_callV (pc := 971) (bc1 := bc1) (bs1 := bs1) (n := 1) (As := [.int (xs (nI i + 1).toNatClampNeg)]) G (hr.frame (fun a ha z => hd2' a z ha)) (List.mem_append_left _ mW_mo.1) ((if_pos mW_mo.1).trans mW_mo.2) (show vwCl[12]? = some (_, _, _) from rfl) q_ml_L_212 q_im_yX11_pass q_se_yX11_pass q_in_X11 q_co_yX11_pass ⟨by decide, by decide, by decide +kernel⟩ ⟨Nat.le_of_ble_eq_true rfl, Nat.le_of_ble_eq_true rfl⟩ (Nat.zero_le _) (Nat.le_refl _) (Nat.le_refl _) rfl rfl dl_971 (fun v w9 hp => ?_) (fun E w9 hp => by obtain ⟨_, hq, _⟩ := hp; cases hq.1)
  obtain ⟨h9, ⟨hv, rfl⟩, _, rfl⟩ := hp
  have hv := Sum.inl.inj hv
  subst hv
  refine Wx_perm (fun a ha z => hd2' a z ha) ?_
  refine x_istore6 (pc := 974) G dl_974 (by decide) rfl ?_
  refine x_aload2 (pc := 976) G dl_976 ?_
  refine Wx_perm hd2' ?_
  refine x_callV (pc := 977) (bc1 := bc1) (bs1 := bs1) (n := 0) (As := []) G ((c_thrown (k := k) (M := (f_pass (xs (nI i + 1).toNatClampNeg) M).2) hl hH).frame (fun a ha z => hd2' a z ha)) (List.mem_append_left _ mW_mo.1) ((if_pos mW_mo.1).trans mW_mo.2) (show vwCl[12]? = some (_, _, _) from rfl) q_ml_L_172 q_im_yX11_thrown q_se_yX11_thrown q_in_X11 q_co_yX11_thrown ⟨by decide, by decide, by decide +kernel⟩ ⟨Nat.le_of_ble_eq_true rfl, Nat.le_of_ble_eq_true rfl⟩ (Nat.zero_le _) (Nat.le_refl _) (Nat.le_refl _) rfl rfl dl_977 (fun v w9 hp => ?_) (fun E w9 hp => by obtain ⟨_, hq, _⟩ := hp; cases hq.1)
  obtain ⟨h9, ⟨hv, rfl⟩, _, rfl⟩ := hp
  have hv := Sum.inl.inj hv
  subst hv
  refine Wx_perm (fun a ha z => hd2' a z ha) ?_
  refine x_iload5 (pc := 980) G dl_980 ?_
  refine x_icmp_eq (pc := 982) (tgt := 987) G dl_982 rfl (fun _ => ?_) (fun z9 => absurd hk z9)
  refine x_iload5 (pc := 987) G dl_987 ?_
  refine x_if_ne (pc := 989) (tgt := 1004) (y := 0) G dl_989 rfl (fun _ => ?_) (fun z9 => ?_)
  · skip
    refine x_goto (pc := 1004) (tgt := 3248) G dl_1004 rfl ?_
    exact Wx_l8 (hend X2 S2 _ f2 hL2)
  · have hf := hz z9
    refine x_aload3 (pc := 992) G dl_992 ?_
    refine x_iconst (pc := 993) (v := 0) G dl_993 (by decide) ?_
    refine x_old (pc := 994) G hd1' dl_994 ?_
    refine x_iload6 (pc := 995) G dl_995 ?_
    refine x_i2l (pc := 997) G dl_997 ?_
    refine x_lcmp (pc := 998) G dl_998 ?_
    refine x_if_eq (pc := 999) (tgt := 1004) (y := 0) G dl_999 rfl (fun _ => ?_) (fun z8 => absurd (lg_same hf) z8)
    refine x_goto (pc := 1004) (tgt := 3248) G dl_1004 rfl ?_
    exact Wx_l8 (hend X2 S2 _ f2 hL2)
