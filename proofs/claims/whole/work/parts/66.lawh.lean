theorem x_lald0 {p : Program} {l : Launch} {e : Env} {R : Room} {s : State} {m : MethodId} {args : Array Value} {below : List Frame} {meth : Method} {c : Code} {k : KC} {A : Nat → Prop} {nL : Nat} {Q : State → Prop} {bc bs pc : Nat} {L : List (Option Value)} {st : List Value} {h : Wd} {own : String} {cc : ByteArray} {ret : Option FieldType} {ao : Nat} {f : Nat → Int64} {x : Int64} (G : GX p l R s m args meth c k A own cc nL ret) (hd : DJ h (oW k ao f)) (d : decode cc pc = .ok (.lastore, 1)) (kk : Wx p l e R s m args below meth c k A nL Q bc bs (pc + 1) L st (wu h (oW k ao (vp_updL f 0 x)))) : Wx p l e R s m args below meth c k A nL Q bc bs pc L (.long x :: .int 0 :: .ref ao :: st) (wu h (oW k ao f)) :=
  x_last G (n := 1) (f := f) (List.mem_append_right _ (List.mem_singleton.mpr rfl)) (if_neg (hd ao (List.mem_singleton.mpr rfl))) (vin_lit (by decide)) d (Wx_congr (wl_oup hd).symm kk)
theorem up0 {f : Nat → Int64} {x : Int64} : vp_updL f 0 x 0 = x := by simp [vp_updL]
theorem q_cw_person : Cond.codeWith yL_person cL_person 5 (some .int) [(0, 10, 13, 13), (0, 10, 17, 15), (0, 10, 21, 17)] ∈ TB := tb_i 348 (by decide +kernel) (by decide +kernel)
theorem dL_person_0 : decode cL_person 0 = .ok (.aload_n 3, 1) := by decide +kernel
theorem dL_person_1 : decode cL_person 1 = .ok (.iconst 0, 1) := by decide +kernel
theorem dL_person_2 : decode cL_person 2 = .ok (.aload_n 0, 1) := by decide +kernel
theorem dL_person_3 : decode cL_person 3 = .ok (.iload_n 1, 1) := by decide +kernel
theorem dL_person_4 : decode cL_person 4 = .ok (.iload_n 2, 1) := by decide +kernel
theorem dL_person_5 : decode cL_person 5 = .ok (.invokevirtual 7, 3) := by decide +kernel
theorem dL_person_8 : decode cL_person 8 = .ok (.i2l, 1) := by decide +kernel
theorem dL_person_9 : decode cL_person 9 = .ok (.lastore, 1) := by decide +kernel
theorem dL_person_10 : decode cL_person 10 = .ok (.goto 15, 3) := by decide +kernel
theorem dL_person_13 : decode cL_person 13 = .ok (.astore 4, 2) := by decide +kernel
theorem dL_person_15 : decode cL_person 15 = .ok (.iconst 1, 1) := by decide +kernel
theorem dL_person_16 : decode cL_person 16 = .ok (.ireturn, 1) := by decide +kernel
theorem dL_person_17 : decode cL_person 17 = .ok (.astore 4, 2) := by decide +kernel
theorem dL_person_19 : decode cL_person 19 = .ok (.iconst 2, 1) := by decide +kernel
theorem dL_person_20 : decode cL_person 20 = .ok (.ireturn, 1) := by decide +kernel
theorem dL_person_21 : decode cL_person 21 = .ok (.astore 4, 2) := by decide +kernel
theorem dL_person_23 : decode cL_person 23 = .ok (.iconst 3, 1) := by decide +kernel
theorem dL_person_24 : decode cL_person 24 = .ok (.ireturn, 1) := by decide +kernel
theorem dL_person_25 : decode cL_person 25 = .ok (.iconst 0, 1) := by decide +kernel
theorem dL_person_26 : decode cL_person 26 = .ok (.ireturn, 1) := by decide +kernel
abbrev rmL_person : Room := { frames := 9, cells := 2, slots := 80, locals := 264 }
set_option maxRecDepth 100000 in
set_option maxHeartbeats 4000000 in
theorem ch_person {l : Launch} {k : KC} (hl : l.stackTraces = false) {w : Wd} {b : Nat} {fs : List Value} (hb : b ∈ w.1) (hbf : w.2 b = .inr (11, fs)) {ao : Nat} {f : Nat → Int64} (hd : DJ w (oW k ao f)) {p1 p2 : Int32} {P : Out → Wd → Prop} (hC : MC l k yX10_person (.code yX10_person cX10_person 5 (some .int)) rma_person [.ref b, .int p1, .int p2] w P) (hP : ∀ o w1, P o w1 → (∃ r, o = .inl (some (.int r))) ∨ ∃ E, o = .inr E ∧ (E = "java/lang/IndexOutOfBoundsException" ∨ E = "java/lang/IllegalArgumentException" ∨ E = "java/lang/IllegalStateException")) : MI l k yL_person (.codeWith yL_person cL_person 5 (some .int) [(0, 10, 13, 13), (0, 10, 17, 15), (0, 10, 21, 17)]) rmL_person [.ref b, .int p1, .int p2, .ref ao] (wu w (oW k ao f)) (fun o w2 => ∃ w1 f1, w2 = wu w1 (oW k ao f1) ∧ DJ w1 (oW k ao f1) ∧ ((∃ r, P (.inl (some (.int r))) w1 ∧ o = .inl (some (.int 0)) ∧ f1 0 = r.toInt64) ∨ ∃ E, P (.inr E) w1 ∧ o = .inl (some (.int (xcIAS E))))) := by
  refine ML.of 1 hl (by decide) (Nat.le_of_ble_eq_true rfl) ?_
  intro p e s m args below meth c A Q G B ht
  show Wx p l e rmL_person s m args below meth c k A 5 Q 2 80 0 [some (.ref b), some (.int p1), some (.int p2), some (.ref ao), none] [] (wu w (oW k ao f))
  refine x_aload3 (pc := 0) G dL_person_0 ?_
  refine x_iconst (pc := 1) (v := 0) G dL_person_1 (by decide) ?_
  refine x_aload0 (pc := 2) G dL_person_2 ?_
  refine x_iload1 (pc := 3) G dL_person_3 ?_
  refine x_iload2 (pc := 4) G dL_person_4 ?_
  refine x_callV (pc := 5) (bc1 := 0) (bs1 := 0) (n := 2) (As := [.int p1, .int p2]) G (hC.frame hd) (List.mem_append_left _ hb) ((if_pos hb).trans hbf) kb_11.2.2.2.1 q_ml_L_7 q_im_yX10_person q_se_yX10_person q_in_X10 q_co_yX10_person ⟨by decide, by decide, by decide +kernel⟩ ⟨Nat.le_of_ble_eq_true rfl, Nat.le_of_ble_eq_true rfl⟩ (Nat.le_of_ble_eq_true rfl) (Nat.le_of_ble_eq_true rfl) (Nat.le_of_ble_eq_true rfl) rfl rfl dL_person_5 (fun v w9 hp => ?_) (fun E w9 hp => ?_)
  · obtain ⟨w1, hp1, hd1, rfl⟩ := hp
    obtain ⟨r, hv⟩ : ∃ r, v = some (.int r) := by
      rcases hP _ _ hp1 with ⟨r, z⟩ | ⟨E, z, _⟩
      · exact ⟨r, Sum.inl.inj z⟩
      · cases z
    subst hv
    refine x_i2l (pc := 8) G dL_person_8 ?_
    refine x_lald0 (pc := 9) G hd1 dL_person_9 ?_
    refine x_goto (pc := 10) (tgt := 25) G dL_person_10 rfl ?_
    refine x_iconst (pc := 25) (v := 0) G dL_person_25 (by decide) ?_
    exact x_iret (pc := 26) G B rfl dL_person_26 ⟨w1, _, rfl, hd1, Or.inl ⟨r, hp1, rfl, up0⟩⟩
  · obtain ⟨w1, hp1, hd1, rfl⟩ := hp
    have hE : E = "java/lang/IndexOutOfBoundsException" ∨ E = "java/lang/IllegalArgumentException" ∨ E = "java/lang/IllegalStateException" := by
      rcases hP _ _ hp1 with ⟨r, z⟩ | ⟨E9, z, hE⟩
      · cases z
      · cases z; exact hE
    rcases hE with rfl | rfl | rfl
    · refine x_catch (pc := 5) G (name := "java/lang/IndexOutOfBoundsException") [] ({ startPc := 0, endPc := 10, handlerPc := 13, catchType := 13 } : ExceptionTableEntry) [({ startPc := 0, endPc := 10, handlerPc := 17, catchType := 15 } : ExceptionTableEntry), ({ startPc := 0, endPc := 10, handlerPc := 21, catchType := 17 } : ExceptionTableEntry)] (ht.trans rfl) (fun z hz => (List.not_mem_nil hz).elim) (by decide) (by decide) q_cl_L_13 (by decide) (fun q => ?_)
      refine x_astore4 (pc := 13) G dL_person_13 (by decide) rfl ?_
      refine x_iconst (pc := 15) (v := 1) G dL_person_15 (by decide) ?_
      exact x_iret (pc := 16) G B rfl dL_person_16 ⟨w1, _, rfl, hd1, Or.inr ⟨_, hp1, congrArg (fun z => Sum.inl (some (Value.int z))) xIAS_I.symm⟩⟩
    · refine x_catch (pc := 5) G (name := "java/lang/IllegalArgumentException") [({ startPc := 0, endPc := 10, handlerPc := 13, catchType := 13 } : ExceptionTableEntry)] ({ startPc := 0, endPc := 10, handlerPc := 17, catchType := 15 } : ExceptionTableEntry) [({ startPc := 0, endPc := 10, handlerPc := 21, catchType := 17 } : ExceptionTableEntry)] (ht.trans rfl) (fun z hz => by
        simp only [List.mem_cons, List.not_mem_nil, or_false] at hz
        rcases hz with rfl
        · exact ⟨by decide, _, q_cl_L_13, by decide⟩) (by decide) (by decide) q_cl_L_15 (by decide) (fun q => ?_)
      refine x_astore4 (pc := 17) G dL_person_17 (by decide) rfl ?_
      refine x_iconst (pc := 19) (v := 2) G dL_person_19 (by decide) ?_
      exact x_iret (pc := 20) G B rfl dL_person_20 ⟨w1, _, rfl, hd1, Or.inr ⟨_, hp1, congrArg (fun z => Sum.inl (some (Value.int z))) xIAS_A.symm⟩⟩
    · refine x_catch (pc := 5) G (name := "java/lang/IllegalStateException") [({ startPc := 0, endPc := 10, handlerPc := 13, catchType := 13 } : ExceptionTableEntry), ({ startPc := 0, endPc := 10, handlerPc := 17, catchType := 15 } : ExceptionTableEntry)] ({ startPc := 0, endPc := 10, handlerPc := 21, catchType := 17 } : ExceptionTableEntry) [] (ht.trans rfl) (fun z hz => by
        simp only [List.mem_cons, List.not_mem_nil, or_false] at hz
        rcases hz with rfl | rfl
        · exact ⟨by decide, _, q_cl_L_13, by decide⟩
        · exact ⟨by decide, _, q_cl_L_15, by decide⟩) (by decide) (by decide) q_cl_L_17 (by decide) (fun q => ?_)
      refine x_astore4 (pc := 21) G dL_person_21 (by decide) rfl ?_
      refine x_iconst (pc := 23) (v := 3) G dL_person_23 (by decide) ?_
      exact x_iret (pc := 24) G B rfl dL_person_24 ⟨w1, _, rfl, hd1, Or.inr ⟨_, hp1, congrArg (fun z => Sum.inl (some (Value.int z))) xIAS_S.symm⟩⟩
theorem q_cw_absent : Cond.codeWith yL_absent cL_absent 5 (some .int) [(0, 7, 10, 13), (0, 7, 14, 15)] ∈ TB := tb_i 451 (by decide +kernel) (by decide +kernel)
theorem dL_absent_0 : decode cL_absent 0 = .ok (.aload_n 0, 1) := by decide +kernel
theorem dL_absent_1 : decode cL_absent 1 = .ok (.iload_n 1, 1) := by decide +kernel
theorem dL_absent_2 : decode cL_absent 2 = .ok (.iload_n 2, 1) := by decide +kernel
theorem dL_absent_3 : decode cL_absent 3 = .ok (.iload_n 3, 1) := by decide +kernel
theorem dL_absent_4 : decode cL_absent 4 = .ok (.invokevirtual 19, 3) := by decide +kernel
theorem dL_absent_7 : decode cL_absent 7 = .ok (.goto 11, 3) := by decide +kernel
theorem dL_absent_10 : decode cL_absent 10 = .ok (.astore 4, 2) := by decide +kernel
theorem dL_absent_12 : decode cL_absent 12 = .ok (.iconst 1, 1) := by decide +kernel
theorem dL_absent_13 : decode cL_absent 13 = .ok (.ireturn, 1) := by decide +kernel
theorem dL_absent_14 : decode cL_absent 14 = .ok (.astore 4, 2) := by decide +kernel
theorem dL_absent_16 : decode cL_absent 16 = .ok (.iconst 2, 1) := by decide +kernel
theorem dL_absent_17 : decode cL_absent 17 = .ok (.ireturn, 1) := by decide +kernel
theorem dL_absent_18 : decode cL_absent 18 = .ok (.iconst 0, 1) := by decide +kernel
theorem dL_absent_19 : decode cL_absent 19 = .ok (.ireturn, 1) := by decide +kernel
abbrev rmL_absent : Room := { frames := 9, cells := 1, slots := 6, locals := 157 }
set_option maxRecDepth 100000 in
set_option maxHeartbeats 4000000 in
theorem ch_absent {l : Launch} {k : KC} (hl : l.stackTraces = false) {w : Wd} {b : Nat} {fs : List Value} (hb : b ∈ w.1) (hbf : w.2 b = .inr (11, fs)) {p1 p2 p3 : Int32} {P : Out → Wd → Prop} (hC : MC l k yX10_absent (.code yX10_absent cX10_absent 6 none) rmt_X10_absent [.ref b, .int p1, .int p2, .int p3] w P) (hP : ∀ o w1, P o w1 → (o = .inl none) ∨ ∃ E, o = .inr E ∧ (E = "java/lang/IndexOutOfBoundsException" ∨ E = "java/lang/IllegalArgumentException")) : MI l k yL_absent (.codeWith yL_absent cL_absent 5 (some .int) [(0, 7, 10, 13), (0, 7, 14, 15)]) rmL_absent [.ref b, .int p1, .int p2, .int p3] w (fun o w2 => ∃ w1, w2 = w1 ∧ ((P (.inl none) w1 ∧ o = .inl (some (.int 0))) ∨ ∃ E, P (.inr E) w1 ∧ o = .inl (some (.int (xcIA E))))) := by
  refine ML.of 1 hl (by decide) (Nat.le_of_ble_eq_true rfl) ?_
  intro p e s m args below meth c A Q G B ht
  show Wx p l e rmL_absent s m args below meth c k A 5 Q 1 6 0 [some (.ref b), some (.int p1), some (.int p2), some (.int p3), none] [] w
  refine x_aload0 (pc := 0) G dL_absent_0 ?_
  refine x_iload1 (pc := 1) G dL_absent_1 ?_
  refine x_iload2 (pc := 2) G dL_absent_2 ?_
  refine x_iload3 (pc := 3) G dL_absent_3 ?_
  refine x_callV (pc := 4) (bc1 := 0) (bs1 := 0) (n := 3) (As := [.int p1, .int p2, .int p3]) G hC hb hbf kb_11.2.2.2.1 q_ml_L_19 q_im_yX10_absent q_se_yX10_absent q_in_X10 q_co_yX10_absent ⟨by decide, by decide, by decide +kernel⟩ ⟨Nat.le_of_ble_eq_true rfl, Nat.le_of_ble_eq_true rfl⟩ (Nat.le_of_ble_eq_true rfl) (Nat.le_of_ble_eq_true rfl) (Nat.le_of_ble_eq_true rfl) rfl rfl dL_absent_4 (fun v w9 hp => ?_) (fun E w9 hp => ?_)
  · have hp1 := hp
    have hv : v = none := by
      rcases hP _ _ hp1 with z | ⟨E, z, _⟩
      · exact Sum.inl.inj z
      · cases z
    subst hv
    refine x_goto (pc := 7) (tgt := 18) G dL_absent_7 rfl ?_
    refine x_iconst (pc := 18) (v := 0) G dL_absent_18 (by decide) ?_
    exact x_iret (pc := 19) G B rfl dL_absent_19 ⟨_, rfl, Or.inl ⟨hp1, rfl⟩⟩
  · have hp1 := hp
    have hE : E = "java/lang/IndexOutOfBoundsException" ∨ E = "java/lang/IllegalArgumentException" := by
      rcases hP _ _ hp1 with z | ⟨E9, z, hE⟩
      · cases z
      · cases z; exact hE
    rcases hE with rfl | rfl
    · refine x_catch (pc := 4) G (name := "java/lang/IndexOutOfBoundsException") [] ({ startPc := 0, endPc := 7, handlerPc := 10, catchType := 13 } : ExceptionTableEntry) [({ startPc := 0, endPc := 7, handlerPc := 14, catchType := 15 } : ExceptionTableEntry)] (ht.trans rfl) (fun z hz => (List.not_mem_nil hz).elim) (by decide) (by decide) q_cl_L_13 (by decide) (fun q => ?_)
      refine x_astore4 (pc := 10) G dL_absent_10 (by decide) rfl ?_
      refine x_iconst (pc := 12) (v := 1) G dL_absent_12 (by decide) ?_
      exact x_iret (pc := 13) G B rfl dL_absent_13 ⟨_, rfl, Or.inr ⟨_, hp1, congrArg (fun z => Sum.inl (some (Value.int z))) xIA_I.symm⟩⟩
    · refine x_catch (pc := 4) G (name := "java/lang/IllegalArgumentException") [({ startPc := 0, endPc := 7, handlerPc := 10, catchType := 13 } : ExceptionTableEntry)] ({ startPc := 0, endPc := 7, handlerPc := 14, catchType := 15 } : ExceptionTableEntry) [] (ht.trans rfl) (fun z hz => by
        simp only [List.mem_cons, List.not_mem_nil, or_false] at hz
        rcases hz with rfl
        · exact ⟨by decide, _, q_cl_L_13, by decide⟩) (by decide) (by decide) q_cl_L_15 (by decide) (fun q => ?_)
      refine x_astore4 (pc := 14) G dL_absent_14 (by decide) rfl ?_
      refine x_iconst (pc := 16) (v := 2) G dL_absent_16 (by decide) ?_
      exact x_iret (pc := 17) G B rfl dL_absent_17 ⟨_, rfl, Or.inr ⟨_, hp1, congrArg (fun z => Sum.inl (some (Value.int z))) xIA_A.symm⟩⟩
theorem q_cw_controller : Cond.codeWith yL_controller cL_controller 4 (some .int) [(0, 9, 12, 13)] ∈ TB := tb_i 459 (by decide +kernel) (by decide +kernel)
theorem dL_controller_0 : decode cL_controller 0 = .ok (.aload_n 2, 1) := by decide +kernel
theorem dL_controller_1 : decode cL_controller 1 = .ok (.iconst 0, 1) := by decide +kernel
theorem dL_controller_2 : decode cL_controller 2 = .ok (.aload_n 0, 1) := by decide +kernel
theorem dL_controller_3 : decode cL_controller 3 = .ok (.iload_n 1, 1) := by decide +kernel
theorem dL_controller_4 : decode cL_controller 4 = .ok (.invokevirtual 23, 3) := by decide +kernel
theorem dL_controller_7 : decode cL_controller 7 = .ok (.i2l, 1) := by decide +kernel
theorem dL_controller_8 : decode cL_controller 8 = .ok (.lastore, 1) := by decide +kernel
theorem dL_controller_9 : decode cL_controller 9 = .ok (.goto 6, 3) := by decide +kernel
theorem dL_controller_12 : decode cL_controller 12 = .ok (.astore_n 3, 1) := by decide +kernel
theorem dL_controller_13 : decode cL_controller 13 = .ok (.iconst 1, 1) := by decide +kernel
theorem dL_controller_14 : decode cL_controller 14 = .ok (.ireturn, 1) := by decide +kernel
theorem dL_controller_15 : decode cL_controller 15 = .ok (.iconst 0, 1) := by decide +kernel
theorem dL_controller_16 : decode cL_controller 16 = .ok (.ireturn, 1) := by decide +kernel
abbrev rmL_controller : Room := { frames := 9, cells := 1, slots := 6, locals := 155 }
set_option maxRecDepth 100000 in
set_option maxHeartbeats 4000000 in
theorem ch_controller {l : Launch} {k : KC} (hl : l.stackTraces = false) {w : Wd} {b : Nat} {fs : List Value} (hb : b ∈ w.1) (hbf : w.2 b = .inr (11, fs)) {ao : Nat} {f : Nat → Int64} (hd : DJ w (oW k ao f)) {p1 : Int32} {P : Out → Wd → Prop} (hC : MC l k yX10_controller (.code yX10_controller cX10_controller 4 (some .int)) rmt_X10_controller [.ref b, .int p1] w P) (hP : ∀ o w1, P o w1 → (∃ r, o = .inl (some (.int r))) ∨ ∃ E, o = .inr E ∧ (E = "java/lang/IndexOutOfBoundsException")) : MI l k yL_controller (.codeWith yL_controller cL_controller 4 (some .int) [(0, 9, 12, 13)]) rmL_controller [.ref b, .int p1, .ref ao] (wu w (oW k ao f)) (fun o w2 => ∃ w1 f1, w2 = wu w1 (oW k ao f1) ∧ DJ w1 (oW k ao f1) ∧ ((∃ r, P (.inl (some (.int r))) w1 ∧ o = .inl (some (.int 0)) ∧ f1 0 = r.toInt64) ∨ ∃ E, P (.inr E) w1 ∧ o = .inl (some (.int (xcI E))))) := by
  refine ML.of 1 hl (by decide) (Nat.le_of_ble_eq_true rfl) ?_
  intro p e s m args below meth c A Q G B ht
  show Wx p l e rmL_controller s m args below meth c k A 4 Q 1 6 0 [some (.ref b), some (.int p1), some (.ref ao), none] [] (wu w (oW k ao f))
  refine x_aload2 (pc := 0) G dL_controller_0 ?_
  refine x_iconst (pc := 1) (v := 0) G dL_controller_1 (by decide) ?_
  refine x_aload0 (pc := 2) G dL_controller_2 ?_
  refine x_iload1 (pc := 3) G dL_controller_3 ?_
  refine x_callV (pc := 4) (bc1 := 0) (bs1 := 0) (n := 1) (As := [.int p1]) G (hC.frame hd) (List.mem_append_left _ hb) ((if_pos hb).trans hbf) kb_11.2.2.2.1 q_ml_L_23 q_im_yX10_controller q_se_yX10_controller q_in_X10 q_co_yX10_controller ⟨by decide, by decide, by decide +kernel⟩ ⟨Nat.le_of_ble_eq_true rfl, Nat.le_of_ble_eq_true rfl⟩ (Nat.le_of_ble_eq_true rfl) (Nat.le_of_ble_eq_true rfl) (Nat.le_of_ble_eq_true rfl) rfl rfl dL_controller_4 (fun v w9 hp => ?_) (fun E w9 hp => ?_)
  · obtain ⟨w1, hp1, hd1, rfl⟩ := hp
    obtain ⟨r, hv⟩ : ∃ r, v = some (.int r) := by
      rcases hP _ _ hp1 with ⟨r, z⟩ | ⟨E, z, _⟩
      · exact ⟨r, Sum.inl.inj z⟩
      · cases z
    subst hv
    refine x_i2l (pc := 7) G dL_controller_7 ?_
    refine x_lald0 (pc := 8) G hd1 dL_controller_8 ?_
    refine x_goto (pc := 9) (tgt := 15) G dL_controller_9 rfl ?_
    refine x_iconst (pc := 15) (v := 0) G dL_controller_15 (by decide) ?_
    exact x_iret (pc := 16) G B rfl dL_controller_16 ⟨w1, _, rfl, hd1, Or.inl ⟨r, hp1, rfl, up0⟩⟩
  · obtain ⟨w1, hp1, hd1, rfl⟩ := hp
    have hE : E = "java/lang/IndexOutOfBoundsException" := by
      rcases hP _ _ hp1 with ⟨r, z⟩ | ⟨E9, z, hE⟩
      · cases z
      · cases z; exact hE
    rcases hE with rfl
    · refine x_catch (pc := 4) G (name := "java/lang/IndexOutOfBoundsException") [] ({ startPc := 0, endPc := 9, handlerPc := 12, catchType := 13 } : ExceptionTableEntry) [] (ht.trans rfl) (fun z hz => (List.not_mem_nil hz).elim) (by decide) (by decide) q_cl_L_13 (by decide) (fun q => ?_)
      refine x_astore3 (pc := 12) G dL_controller_12 (by decide) rfl ?_
      refine x_iconst (pc := 13) (v := 1) G dL_controller_13 (by decide) ?_
      exact x_iret (pc := 14) G B rfl dL_controller_14 ⟨w1, _, rfl, hd1, Or.inr ⟨_, hp1, congrArg (fun z => Sum.inl (some (Value.int z))) xI_I.symm⟩⟩
theorem q_cw_budget : Cond.codeWith yL_budget cL_budget 6 (some .int) [(0, 11, 14, 13), (0, 11, 18, 15)] ∈ TB := tb_i 466 (by decide +kernel) (by decide +kernel)
theorem dL_budget_0 : decode cL_budget 0 = .ok (.aload 4, 2) := by decide +kernel
theorem dL_budget_2 : decode cL_budget 2 = .ok (.iconst 0, 1) := by decide +kernel
theorem dL_budget_3 : decode cL_budget 3 = .ok (.aload_n 0, 1) := by decide +kernel
theorem dL_budget_4 : decode cL_budget 4 = .ok (.iload_n 1, 1) := by decide +kernel
theorem dL_budget_5 : decode cL_budget 5 = .ok (.iload_n 2, 1) := by decide +kernel
theorem dL_budget_6 : decode cL_budget 6 = .ok (.iload_n 3, 1) := by decide +kernel
theorem dL_budget_7 : decode cL_budget 7 = .ok (.invokevirtual 27, 3) := by decide +kernel
theorem dL_budget_10 : decode cL_budget 10 = .ok (.lastore, 1) := by decide +kernel
theorem dL_budget_11 : decode cL_budget 11 = .ok (.goto 11, 3) := by decide +kernel
theorem dL_budget_14 : decode cL_budget 14 = .ok (.astore 5, 2) := by decide +kernel
theorem dL_budget_16 : decode cL_budget 16 = .ok (.iconst 1, 1) := by decide +kernel
theorem dL_budget_17 : decode cL_budget 17 = .ok (.ireturn, 1) := by decide +kernel
theorem dL_budget_18 : decode cL_budget 18 = .ok (.astore 5, 2) := by decide +kernel
theorem dL_budget_20 : decode cL_budget 20 = .ok (.iconst 2, 1) := by decide +kernel
theorem dL_budget_21 : decode cL_budget 21 = .ok (.ireturn, 1) := by decide +kernel
theorem dL_budget_22 : decode cL_budget 22 = .ok (.iconst 0, 1) := by decide +kernel
theorem dL_budget_23 : decode cL_budget 23 = .ok (.ireturn, 1) := by decide +kernel
abbrev rmL_budget : Room := { frames := 10, cells := 1, slots := 6, locals := 180 }
set_option maxRecDepth 100000 in
set_option maxHeartbeats 4000000 in
theorem ch_budget {l : Launch} {k : KC} (hl : l.stackTraces = false) {w : Wd} {b : Nat} {fs : List Value} (hb : b ∈ w.1) (hbf : w.2 b = .inr (11, fs)) {ao : Nat} {f : Nat → Int64} (hd : DJ w (oW k ao f)) {p1 p2 p3 : Int32} {P : Out → Wd → Prop} (hC : MC l k yX10_budget (.code yX10_budget cX10_budget 7 (some .long)) rmt_X10_budget [.ref b, .int p1, .int p2, .int p3] w P) (hP : ∀ o w1, P o w1 → (∃ r, o = .inl (some (.long r))) ∨ ∃ E, o = .inr E ∧ (E = "java/lang/IndexOutOfBoundsException" ∨ E = "java/lang/IllegalArgumentException")) : MI l k yL_budget (.codeWith yL_budget cL_budget 6 (some .int) [(0, 11, 14, 13), (0, 11, 18, 15)]) rmL_budget [.ref b, .int p1, .int p2, .int p3, .ref ao] (wu w (oW k ao f)) (fun o w2 => ∃ w1 f1, w2 = wu w1 (oW k ao f1) ∧ DJ w1 (oW k ao f1) ∧ ((∃ r, P (.inl (some (.long r))) w1 ∧ o = .inl (some (.int 0)) ∧ f1 0 = r) ∨ ∃ E, P (.inr E) w1 ∧ o = .inl (some (.int (xcIA E))))) := by
  refine ML.of 1 hl (by decide) (Nat.le_of_ble_eq_true rfl) ?_
  intro p e s m args below meth c A Q G B ht
  show Wx p l e rmL_budget s m args below meth c k A 6 Q 1 6 0 [some (.ref b), some (.int p1), some (.int p2), some (.int p3), some (.ref ao), none] [] (wu w (oW k ao f))
  refine x_aload4 (pc := 0) G dL_budget_0 ?_
  refine x_iconst (pc := 2) (v := 0) G dL_budget_2 (by decide) ?_
  refine x_aload0 (pc := 3) G dL_budget_3 ?_
  refine x_iload1 (pc := 4) G dL_budget_4 ?_
  refine x_iload2 (pc := 5) G dL_budget_5 ?_
  refine x_iload3 (pc := 6) G dL_budget_6 ?_
  refine x_callV (pc := 7) (bc1 := 0) (bs1 := 0) (n := 3) (As := [.int p1, .int p2, .int p3]) G (hC.frame hd) (List.mem_append_left _ hb) ((if_pos hb).trans hbf) kb_11.2.2.2.1 q_ml_L_27 q_im_yX10_budget q_se_yX10_budget q_in_X10 q_co_yX10_budget ⟨by decide, by decide, by decide +kernel⟩ ⟨Nat.le_of_ble_eq_true rfl, Nat.le_of_ble_eq_true rfl⟩ (Nat.le_of_ble_eq_true rfl) (Nat.le_of_ble_eq_true rfl) (Nat.le_of_ble_eq_true rfl) rfl rfl dL_budget_7 (fun v w9 hp => ?_) (fun E w9 hp => ?_)
  · obtain ⟨w1, hp1, hd1, rfl⟩ := hp
    obtain ⟨r, hv⟩ : ∃ r, v = some (.long r) := by
      rcases hP _ _ hp1 with ⟨r, z⟩ | ⟨E, z, _⟩
      · exact ⟨r, Sum.inl.inj z⟩
      · cases z
    subst hv
    refine x_lald0 (pc := 10) G hd1 dL_budget_10 ?_
    refine x_goto (pc := 11) (tgt := 22) G dL_budget_11 rfl ?_
    refine x_iconst (pc := 22) (v := 0) G dL_budget_22 (by decide) ?_
    exact x_iret (pc := 23) G B rfl dL_budget_23 ⟨w1, _, rfl, hd1, Or.inl ⟨r, hp1, rfl, up0⟩⟩
  · obtain ⟨w1, hp1, hd1, rfl⟩ := hp
    have hE : E = "java/lang/IndexOutOfBoundsException" ∨ E = "java/lang/IllegalArgumentException" := by
      rcases hP _ _ hp1 with ⟨r, z⟩ | ⟨E9, z, hE⟩
      · cases z
      · cases z; exact hE
    rcases hE with rfl | rfl
    · refine x_catch (pc := 7) G (name := "java/lang/IndexOutOfBoundsException") [] ({ startPc := 0, endPc := 11, handlerPc := 14, catchType := 13 } : ExceptionTableEntry) [({ startPc := 0, endPc := 11, handlerPc := 18, catchType := 15 } : ExceptionTableEntry)] (ht.trans rfl) (fun z hz => (List.not_mem_nil hz).elim) (by decide) (by decide) q_cl_L_13 (by decide) (fun q => ?_)
      refine x_astore5 (pc := 14) G dL_budget_14 (by decide) rfl ?_
      refine x_iconst (pc := 16) (v := 1) G dL_budget_16 (by decide) ?_
      exact x_iret (pc := 17) G B rfl dL_budget_17 ⟨w1, _, rfl, hd1, Or.inr ⟨_, hp1, congrArg (fun z => Sum.inl (some (Value.int z))) xIA_I.symm⟩⟩
    · refine x_catch (pc := 7) G (name := "java/lang/IllegalArgumentException") [({ startPc := 0, endPc := 11, handlerPc := 14, catchType := 13 } : ExceptionTableEntry)] ({ startPc := 0, endPc := 11, handlerPc := 18, catchType := 15 } : ExceptionTableEntry) [] (ht.trans rfl) (fun z hz => by
        simp only [List.mem_cons, List.not_mem_nil, or_false] at hz
        rcases hz with rfl
        · exact ⟨by decide, _, q_cl_L_13, by decide⟩) (by decide) (by decide) q_cl_L_15 (by decide) (fun q => ?_)
      refine x_astore5 (pc := 18) G dL_budget_18 (by decide) rfl ?_
      refine x_iconst (pc := 20) (v := 2) G dL_budget_20 (by decide) ?_
      exact x_iret (pc := 21) G B rfl dL_budget_21 ⟨w1, _, rfl, hd1, Or.inr ⟨_, hp1, congrArg (fun z => Sum.inl (some (Value.int z))) xIA_A.symm⟩⟩
theorem q_cw_transfer : Cond.codeWith yL_transfer cL_transfer 7 (some .int) [(0, 13, 16, 13), (0, 13, 20, 15), (0, 13, 24, 17)] ∈ TB := tb_i 486 (by decide +kernel) (by decide +kernel)
theorem dL_transfer_0 : decode cL_transfer 0 = .ok (.aload 5, 2) := by decide +kernel
theorem dL_transfer_2 : decode cL_transfer 2 = .ok (.iconst 0, 1) := by decide +kernel
theorem dL_transfer_3 : decode cL_transfer 3 = .ok (.aload_n 0, 1) := by decide +kernel
theorem dL_transfer_4 : decode cL_transfer 4 = .ok (.iload_n 1, 1) := by decide +kernel
theorem dL_transfer_5 : decode cL_transfer 5 = .ok (.iload_n 2, 1) := by decide +kernel
theorem dL_transfer_6 : decode cL_transfer 6 = .ok (.iload_n 3, 1) := by decide +kernel
theorem dL_transfer_7 : decode cL_transfer 7 = .ok (.iload 4, 2) := by decide +kernel
theorem dL_transfer_9 : decode cL_transfer 9 = .ok (.invokevirtual 31, 3) := by decide +kernel
theorem dL_transfer_12 : decode cL_transfer 12 = .ok (.lastore, 1) := by decide +kernel
theorem dL_transfer_13 : decode cL_transfer 13 = .ok (.goto 15, 3) := by decide +kernel
theorem dL_transfer_16 : decode cL_transfer 16 = .ok (.astore 6, 2) := by decide +kernel
theorem dL_transfer_18 : decode cL_transfer 18 = .ok (.iconst 1, 1) := by decide +kernel
theorem dL_transfer_19 : decode cL_transfer 19 = .ok (.ireturn, 1) := by decide +kernel
theorem dL_transfer_20 : decode cL_transfer 20 = .ok (.astore 6, 2) := by decide +kernel
theorem dL_transfer_22 : decode cL_transfer 22 = .ok (.iconst 2, 1) := by decide +kernel
theorem dL_transfer_23 : decode cL_transfer 23 = .ok (.ireturn, 1) := by decide +kernel
theorem dL_transfer_24 : decode cL_transfer 24 = .ok (.astore 6, 2) := by decide +kernel
theorem dL_transfer_26 : decode cL_transfer 26 = .ok (.iconst 3, 1) := by decide +kernel
theorem dL_transfer_27 : decode cL_transfer 27 = .ok (.ireturn, 1) := by decide +kernel
theorem dL_transfer_28 : decode cL_transfer 28 = .ok (.iconst 0, 1) := by decide +kernel
theorem dL_transfer_29 : decode cL_transfer 29 = .ok (.ireturn, 1) := by decide +kernel
abbrev rmL_transfer : Room := { frames := 10, cells := 1, slots := 6, locals := 180 }
set_option maxRecDepth 100000 in
set_option maxHeartbeats 4000000 in
theorem ch_transfer {l : Launch} {k : KC} (hl : l.stackTraces = false) {w : Wd} {b : Nat} {fs : List Value} (hb : b ∈ w.1) (hbf : w.2 b = .inr (11, fs)) {ao : Nat} {f : Nat → Int64} (hd : DJ w (oW k ao f)) {p1 p2 p3 p4 : Int32} {P : Out → Wd → Prop} (hC : MC l k yX10_transfer (.code yX10_transfer cX10_transfer 7 (some .long)) rmt_X10_transfer [.ref b, .int p1, .int p2, .int p3, .int p4] w P) (hP : ∀ o w1, P o w1 → (∃ r, o = .inl (some (.long r))) ∨ ∃ E, o = .inr E ∧ (E = "java/lang/IndexOutOfBoundsException" ∨ E = "java/lang/IllegalArgumentException" ∨ E = "java/lang/IllegalStateException")) : MI l k yL_transfer (.codeWith yL_transfer cL_transfer 7 (some .int) [(0, 13, 16, 13), (0, 13, 20, 15), (0, 13, 24, 17)]) rmL_transfer [.ref b, .int p1, .int p2, .int p3, .int p4, .ref ao] (wu w (oW k ao f)) (fun o w2 => ∃ w1 f1, w2 = wu w1 (oW k ao f1) ∧ DJ w1 (oW k ao f1) ∧ ((∃ r, P (.inl (some (.long r))) w1 ∧ o = .inl (some (.int 0)) ∧ f1 0 = r) ∨ ∃ E, P (.inr E) w1 ∧ o = .inl (some (.int (xcIAS E))))) := by
  refine ML.of 1 hl (by decide) (Nat.le_of_ble_eq_true rfl) ?_
  intro p e s m args below meth c A Q G B ht
  show Wx p l e rmL_transfer s m args below meth c k A 7 Q 1 6 0 [some (.ref b), some (.int p1), some (.int p2), some (.int p3), some (.int p4), some (.ref ao), none] [] (wu w (oW k ao f))
  refine x_aload5 (pc := 0) G dL_transfer_0 ?_
  refine x_iconst (pc := 2) (v := 0) G dL_transfer_2 (by decide) ?_
  refine x_aload0 (pc := 3) G dL_transfer_3 ?_
  refine x_iload1 (pc := 4) G dL_transfer_4 ?_
  refine x_iload2 (pc := 5) G dL_transfer_5 ?_
  refine x_iload3 (pc := 6) G dL_transfer_6 ?_
  refine x_iload4 (pc := 7) G dL_transfer_7 ?_
  refine x_callV (pc := 9) (bc1 := 0) (bs1 := 0) (n := 4) (As := [.int p1, .int p2, .int p3, .int p4]) G (hC.frame hd) (List.mem_append_left _ hb) ((if_pos hb).trans hbf) kb_11.2.2.2.1 q_ml_L_31 q_im_yX10_transfer q_se_yX10_transfer q_in_X10 q_co_yX10_transfer ⟨by decide, by decide, by decide +kernel⟩ ⟨Nat.le_of_ble_eq_true rfl, Nat.le_of_ble_eq_true rfl⟩ (Nat.le_of_ble_eq_true rfl) (Nat.le_of_ble_eq_true rfl) (Nat.le_of_ble_eq_true rfl) rfl rfl dL_transfer_9 (fun v w9 hp => ?_) (fun E w9 hp => ?_)
  · obtain ⟨w1, hp1, hd1, rfl⟩ := hp
    obtain ⟨r, hv⟩ : ∃ r, v = some (.long r) := by
      rcases hP _ _ hp1 with ⟨r, z⟩ | ⟨E, z, _⟩
      · exact ⟨r, Sum.inl.inj z⟩
      · cases z
    subst hv
    refine x_lald0 (pc := 12) G hd1 dL_transfer_12 ?_
    refine x_goto (pc := 13) (tgt := 28) G dL_transfer_13 rfl ?_
    refine x_iconst (pc := 28) (v := 0) G dL_transfer_28 (by decide) ?_
    exact x_iret (pc := 29) G B rfl dL_transfer_29 ⟨w1, _, rfl, hd1, Or.inl ⟨r, hp1, rfl, up0⟩⟩
  · obtain ⟨w1, hp1, hd1, rfl⟩ := hp
    have hE : E = "java/lang/IndexOutOfBoundsException" ∨ E = "java/lang/IllegalArgumentException" ∨ E = "java/lang/IllegalStateException" := by
      rcases hP _ _ hp1 with ⟨r, z⟩ | ⟨E9, z, hE⟩
      · cases z
      · cases z; exact hE
    rcases hE with rfl | rfl | rfl
    · refine x_catch (pc := 9) G (name := "java/lang/IndexOutOfBoundsException") [] ({ startPc := 0, endPc := 13, handlerPc := 16, catchType := 13 } : ExceptionTableEntry) [({ startPc := 0, endPc := 13, handlerPc := 20, catchType := 15 } : ExceptionTableEntry), ({ startPc := 0, endPc := 13, handlerPc := 24, catchType := 17 } : ExceptionTableEntry)] (ht.trans rfl) (fun z hz => (List.not_mem_nil hz).elim) (by decide) (by decide) q_cl_L_13 (by decide) (fun q => ?_)
      refine x_astore6 (pc := 16) G dL_transfer_16 (by decide) rfl ?_
      refine x_iconst (pc := 18) (v := 1) G dL_transfer_18 (by decide) ?_
      exact x_iret (pc := 19) G B rfl dL_transfer_19 ⟨w1, _, rfl, hd1, Or.inr ⟨_, hp1, congrArg (fun z => Sum.inl (some (Value.int z))) xIAS_I.symm⟩⟩
    · refine x_catch (pc := 9) G (name := "java/lang/IllegalArgumentException") [({ startPc := 0, endPc := 13, handlerPc := 16, catchType := 13 } : ExceptionTableEntry)] ({ startPc := 0, endPc := 13, handlerPc := 20, catchType := 15 } : ExceptionTableEntry) [({ startPc := 0, endPc := 13, handlerPc := 24, catchType := 17 } : ExceptionTableEntry)] (ht.trans rfl) (fun z hz => by
        simp only [List.mem_cons, List.not_mem_nil, or_false] at hz
        rcases hz with rfl
        · exact ⟨by decide, _, q_cl_L_13, by decide⟩) (by decide) (by decide) q_cl_L_15 (by decide) (fun q => ?_)
      refine x_astore6 (pc := 20) G dL_transfer_20 (by decide) rfl ?_
      refine x_iconst (pc := 22) (v := 2) G dL_transfer_22 (by decide) ?_
      exact x_iret (pc := 23) G B rfl dL_transfer_23 ⟨w1, _, rfl, hd1, Or.inr ⟨_, hp1, congrArg (fun z => Sum.inl (some (Value.int z))) xIAS_A.symm⟩⟩
    · refine x_catch (pc := 9) G (name := "java/lang/IllegalStateException") [({ startPc := 0, endPc := 13, handlerPc := 16, catchType := 13 } : ExceptionTableEntry), ({ startPc := 0, endPc := 13, handlerPc := 20, catchType := 15 } : ExceptionTableEntry)] ({ startPc := 0, endPc := 13, handlerPc := 24, catchType := 17 } : ExceptionTableEntry) [] (ht.trans rfl) (fun z hz => by
        simp only [List.mem_cons, List.not_mem_nil, or_false] at hz
        rcases hz with rfl | rfl
        · exact ⟨by decide, _, q_cl_L_13, by decide⟩
        · exact ⟨by decide, _, q_cl_L_15, by decide⟩) (by decide) (by decide) q_cl_L_17 (by decide) (fun q => ?_)
      refine x_astore6 (pc := 24) G dL_transfer_24 (by decide) rfl ?_
      refine x_iconst (pc := 26) (v := 3) G dL_transfer_26 (by decide) ?_
      exact x_iret (pc := 27) G B rfl dL_transfer_27 ⟨w1, _, rfl, hd1, Or.inr ⟨_, hp1, congrArg (fun z => Sum.inl (some (Value.int z))) xIAS_S.symm⟩⟩
theorem q_cw_soft : Cond.codeWith yL_soft cL_soft 5 (some .int) [(0, 17, 20, 13)] ∈ TB := tb_i 499 (by decide +kernel) (by decide +kernel)
theorem dL_soft_0 : decode cL_soft 0 = .ok (.aload_n 3, 1) := by decide +kernel
theorem dL_soft_1 : decode cL_soft 1 = .ok (.iconst 0, 1) := by decide +kernel
theorem dL_soft_2 : decode cL_soft 2 = .ok (.aload_n 0, 1) := by decide +kernel
theorem dL_soft_3 : decode cL_soft 3 = .ok (.iload_n 1, 1) := by decide +kernel
theorem dL_soft_4 : decode cL_soft 4 = .ok (.iload_n 2, 1) := by decide +kernel
theorem dL_soft_5 : decode cL_soft 5 = .ok (.invokevirtual 35, 3) := by decide +kernel
theorem dL_soft_8 : decode cL_soft 8 = .ok (.ifCond .eq 7, 3) := by decide +kernel
theorem dL_soft_11 : decode cL_soft 11 = .ok (.lconst 1, 1) := by decide +kernel
theorem dL_soft_12 : decode cL_soft 12 = .ok (.goto 4, 3) := by decide +kernel
theorem dL_soft_15 : decode cL_soft 15 = .ok (.lconst 0, 1) := by decide +kernel
theorem dL_soft_16 : decode cL_soft 16 = .ok (.lastore, 1) := by decide +kernel
theorem dL_soft_17 : decode cL_soft 17 = .ok (.goto 7, 3) := by decide +kernel
theorem dL_soft_20 : decode cL_soft 20 = .ok (.astore 4, 2) := by decide +kernel
theorem dL_soft_22 : decode cL_soft 22 = .ok (.iconst 1, 1) := by decide +kernel
theorem dL_soft_23 : decode cL_soft 23 = .ok (.ireturn, 1) := by decide +kernel
theorem dL_soft_24 : decode cL_soft 24 = .ok (.iconst 0, 1) := by decide +kernel
theorem dL_soft_25 : decode cL_soft 25 = .ok (.ireturn, 1) := by decide +kernel
abbrev rmL_soft : Room := { frames := 9, cells := 1, slots := 6, locals := 156 }
set_option maxRecDepth 100000 in
set_option maxHeartbeats 4000000 in
theorem ch_soft {l : Launch} {k : KC} (hl : l.stackTraces = false) {w : Wd} {b : Nat} {fs : List Value} (hb : b ∈ w.1) (hbf : w.2 b = .inr (11, fs)) {ao : Nat} {f : Nat → Int64} (hd : DJ w (oW k ao f)) {p1 p2 : Int32} {P : Out → Wd → Prop} (hC : MC l k yX10_soft (.code yX10_soft cX10_soft 5 (some .boolean)) rmt_X10_soft [.ref b, .int p1, .int p2] w P) (hP : ∀ o w1, P o w1 → (∃ r, o = .inl (some (.int r))) ∨ ∃ E, o = .inr E ∧ (E = "java/lang/IndexOutOfBoundsException")) : MI l k yL_soft (.codeWith yL_soft cL_soft 5 (some .int) [(0, 17, 20, 13)]) rmL_soft [.ref b, .int p1, .int p2, .ref ao] (wu w (oW k ao f)) (fun o w2 => ∃ w1 f1, w2 = wu w1 (oW k ao f1) ∧ DJ w1 (oW k ao f1) ∧ ((∃ r, P (.inl (some (.int r))) w1 ∧ o = .inl (some (.int 0)) ∧ f1 0 = if r = 0 then 0 else 1) ∨ ∃ E, P (.inr E) w1 ∧ o = .inl (some (.int (xcI E))))) := by
  refine ML.of 1 hl (by decide) (Nat.le_of_ble_eq_true rfl) ?_
  intro p e s m args below meth c A Q G B ht
  show Wx p l e rmL_soft s m args below meth c k A 5 Q 1 6 0 [some (.ref b), some (.int p1), some (.int p2), some (.ref ao), none] [] (wu w (oW k ao f))
  refine x_aload3 (pc := 0) G dL_soft_0 ?_
  refine x_iconst (pc := 1) (v := 0) G dL_soft_1 (by decide) ?_
  refine x_aload0 (pc := 2) G dL_soft_2 ?_
  refine x_iload1 (pc := 3) G dL_soft_3 ?_
  refine x_iload2 (pc := 4) G dL_soft_4 ?_
  refine x_callV (pc := 5) (bc1 := 0) (bs1 := 0) (n := 2) (As := [.int p1, .int p2]) G (hC.frame hd) (List.mem_append_left _ hb) ((if_pos hb).trans hbf) kb_11.2.2.2.1 q_ml_L_35 q_im_yX10_soft q_se_yX10_soft q_in_X10 q_co_yX10_soft ⟨by decide, by decide, by decide +kernel⟩ ⟨Nat.le_of_ble_eq_true rfl, Nat.le_of_ble_eq_true rfl⟩ (Nat.le_of_ble_eq_true rfl) (Nat.le_of_ble_eq_true rfl) (Nat.le_of_ble_eq_true rfl) rfl rfl dL_soft_5 (fun v w9 hp => ?_) (fun E w9 hp => ?_)
  · obtain ⟨w1, hp1, hd1, rfl⟩ := hp
    obtain ⟨r, hv⟩ : ∃ r, v = some (.int r) := by
      rcases hP _ _ hp1 with ⟨r, z⟩ | ⟨E, z, _⟩
      · exact ⟨r, Sum.inl.inj z⟩
      · cases z
    subst hv
    refine x_if_eq (pc := 8) (tgt := 15) (y := 0) G dL_soft_8 rfl (fun cz => ?_) (fun cz => ?_)
    · skip
      refine x_lconst (pc := 15) (v := 0) G dL_soft_15 (by decide) ?_
      refine x_lald0 (pc := 16) G hd1 dL_soft_16 ?_
      refine x_goto (pc := 17) (tgt := 24) G dL_soft_17 rfl ?_
      refine x_iconst (pc := 24) (v := 0) G dL_soft_24 (by decide) ?_
      exact x_iret (pc := 25) G B rfl dL_soft_25 ⟨w1, _, rfl, hd1, Or.inl ⟨r, hp1, rfl, (up0.trans (if_pos cz).symm)⟩⟩
    · skip
      refine x_lconst (pc := 11) (v := 1) G dL_soft_11 (by decide) ?_
      refine x_goto (pc := 12) (tgt := 16) G dL_soft_12 rfl ?_
      refine x_lald0 (pc := 16) G hd1 dL_soft_16 ?_
      refine x_goto (pc := 17) (tgt := 24) G dL_soft_17 rfl ?_
      refine x_iconst (pc := 24) (v := 0) G dL_soft_24 (by decide) ?_
      exact x_iret (pc := 25) G B rfl dL_soft_25 ⟨w1, _, rfl, hd1, Or.inl ⟨r, hp1, rfl, (up0.trans (if_neg cz).symm)⟩⟩
  · obtain ⟨w1, hp1, hd1, rfl⟩ := hp
    have hE : E = "java/lang/IndexOutOfBoundsException" := by
      rcases hP _ _ hp1 with ⟨r, z⟩ | ⟨E9, z, hE⟩
      · cases z
      · cases z; exact hE
    rcases hE with rfl
    · refine x_catch (pc := 5) G (name := "java/lang/IndexOutOfBoundsException") [] ({ startPc := 0, endPc := 17, handlerPc := 20, catchType := 13 } : ExceptionTableEntry) [] (ht.trans rfl) (fun z hz => (List.not_mem_nil hz).elim) (by decide) (by decide) q_cl_L_13 (by decide) (fun q => ?_)
      refine x_astore4 (pc := 20) G dL_soft_20 (by decide) rfl ?_
      refine x_iconst (pc := 22) (v := 1) G dL_soft_22 (by decide) ?_
      exact x_iret (pc := 23) G B rfl dL_soft_23 ⟨w1, _, rfl, hd1, Or.inr ⟨_, hp1, congrArg (fun z => Sum.inl (some (Value.int z))) xI_I.symm⟩⟩
theorem q_cw_carried : Cond.codeWith yL_carried cL_carried 4 (some .int) [(0, 9, 12, 15)] ∈ TB := tb_i 506 (by decide +kernel) (by decide +kernel)
theorem dL_carried_0 : decode cL_carried 0 = .ok (.aload_n 2, 1) := by decide +kernel
theorem dL_carried_1 : decode cL_carried 1 = .ok (.iconst 0, 1) := by decide +kernel
theorem dL_carried_2 : decode cL_carried 2 = .ok (.aload_n 0, 1) := by decide +kernel
theorem dL_carried_3 : decode cL_carried 3 = .ok (.iload_n 1, 1) := by decide +kernel
theorem dL_carried_4 : decode cL_carried 4 = .ok (.invokevirtual 39, 3) := by decide +kernel
theorem dL_carried_7 : decode cL_carried 7 = .ok (.i2l, 1) := by decide +kernel
theorem dL_carried_8 : decode cL_carried 8 = .ok (.lastore, 1) := by decide +kernel
theorem dL_carried_9 : decode cL_carried 9 = .ok (.goto 6, 3) := by decide +kernel
theorem dL_carried_12 : decode cL_carried 12 = .ok (.astore_n 3, 1) := by decide +kernel
theorem dL_carried_13 : decode cL_carried 13 = .ok (.iconst 1, 1) := by decide +kernel
theorem dL_carried_14 : decode cL_carried 14 = .ok (.ireturn, 1) := by decide +kernel
theorem dL_carried_15 : decode cL_carried 15 = .ok (.iconst 0, 1) := by decide +kernel
theorem dL_carried_16 : decode cL_carried 16 = .ok (.ireturn, 1) := by decide +kernel
abbrev rmL_carried : Room := { frames := 8, cells := 1, slots := 6, locals := 134 }
set_option maxRecDepth 100000 in
set_option maxHeartbeats 4000000 in
theorem ch_carried {l : Launch} {k : KC} (hl : l.stackTraces = false) {w : Wd} {b : Nat} {fs : List Value} (hb : b ∈ w.1) (hbf : w.2 b = .inr (11, fs)) {ao : Nat} {f : Nat → Int64} (hd : DJ w (oW k ao f)) {p1 : Int32} {P : Out → Wd → Prop} (hC : MC l k yX10_carried (.code yX10_carried cX10_carried 3 (some .int)) rmt_X10_carried [.ref b, .int p1] w P) (hP : ∀ o w1, P o w1 → (∃ r, o = .inl (some (.int r))) ∨ ∃ E, o = .inr E ∧ (E = "java/lang/IllegalArgumentException")) : MI l k yL_carried (.codeWith yL_carried cL_carried 4 (some .int) [(0, 9, 12, 15)]) rmL_carried [.ref b, .int p1, .ref ao] (wu w (oW k ao f)) (fun o w2 => ∃ w1 f1, w2 = wu w1 (oW k ao f1) ∧ DJ w1 (oW k ao f1) ∧ ((∃ r, P (.inl (some (.int r))) w1 ∧ o = .inl (some (.int 0)) ∧ f1 0 = r.toInt64) ∨ ∃ E, P (.inr E) w1 ∧ o = .inl (some (.int (xcA E))))) := by
  refine ML.of 1 hl (by decide) (Nat.le_of_ble_eq_true rfl) ?_
  intro p e s m args below meth c A Q G B ht
  show Wx p l e rmL_carried s m args below meth c k A 4 Q 1 6 0 [some (.ref b), some (.int p1), some (.ref ao), none] [] (wu w (oW k ao f))
  refine x_aload2 (pc := 0) G dL_carried_0 ?_
  refine x_iconst (pc := 1) (v := 0) G dL_carried_1 (by decide) ?_
  refine x_aload0 (pc := 2) G dL_carried_2 ?_
  refine x_iload1 (pc := 3) G dL_carried_3 ?_
  refine x_callV (pc := 4) (bc1 := 0) (bs1 := 0) (n := 1) (As := [.int p1]) G (hC.frame hd) (List.mem_append_left _ hb) ((if_pos hb).trans hbf) kb_11.2.2.2.1 q_ml_L_39 q_im_yX10_carried q_se_yX10_carried q_in_X10 q_co_yX10_carried ⟨by decide, by decide, by decide +kernel⟩ ⟨Nat.le_of_ble_eq_true rfl, Nat.le_of_ble_eq_true rfl⟩ (Nat.le_of_ble_eq_true rfl) (Nat.le_of_ble_eq_true rfl) (Nat.le_of_ble_eq_true rfl) rfl rfl dL_carried_4 (fun v w9 hp => ?_) (fun E w9 hp => ?_)
  · obtain ⟨w1, hp1, hd1, rfl⟩ := hp
    obtain ⟨r, hv⟩ : ∃ r, v = some (.int r) := by
      rcases hP _ _ hp1 with ⟨r, z⟩ | ⟨E, z, _⟩
      · exact ⟨r, Sum.inl.inj z⟩
      · cases z
    subst hv
    refine x_i2l (pc := 7) G dL_carried_7 ?_
    refine x_lald0 (pc := 8) G hd1 dL_carried_8 ?_
    refine x_goto (pc := 9) (tgt := 15) G dL_carried_9 rfl ?_
    refine x_iconst (pc := 15) (v := 0) G dL_carried_15 (by decide) ?_
    exact x_iret (pc := 16) G B rfl dL_carried_16 ⟨w1, _, rfl, hd1, Or.inl ⟨r, hp1, rfl, up0⟩⟩
  · obtain ⟨w1, hp1, hd1, rfl⟩ := hp
    have hE : E = "java/lang/IllegalArgumentException" := by
      rcases hP _ _ hp1 with ⟨r, z⟩ | ⟨E9, z, hE⟩
      · cases z
      · cases z; exact hE
    rcases hE with rfl
    · refine x_catch (pc := 4) G (name := "java/lang/IllegalArgumentException") [] ({ startPc := 0, endPc := 9, handlerPc := 12, catchType := 15 } : ExceptionTableEntry) [] (ht.trans rfl) (fun z hz => (List.not_mem_nil hz).elim) (by decide) (by decide) q_cl_L_15 (by decide) (fun q => ?_)
      refine x_astore3 (pc := 12) G dL_carried_12 (by decide) rfl ?_
      refine x_iconst (pc := 13) (v := 1) G dL_carried_13 (by decide) ?_
      exact x_iret (pc := 14) G B rfl dL_carried_14 ⟨w1, _, rfl, hd1, Or.inr ⟨_, hp1, congrArg (fun z => Sum.inl (some (Value.int z))) xA_A.symm⟩⟩
theorem q_cw_supplier : Cond.codeWith yL_supplier cL_supplier 8 (some .int) [(0, 13, 16, 13), (0, 13, 20, 15)] ∈ TB := tb_i 513 (by decide +kernel) (by decide +kernel)
theorem dL_supplier_0 : decode cL_supplier 0 = .ok (.aload_n 0, 1) := by decide +kernel
theorem dL_supplier_1 : decode cL_supplier 1 = .ok (.iload_n 1, 1) := by decide +kernel
theorem dL_supplier_2 : decode cL_supplier 2 = .ok (.iload_n 2, 1) := by decide +kernel
theorem dL_supplier_3 : decode cL_supplier 3 = .ok (.iload_n 3, 1) := by decide +kernel
theorem dL_supplier_4 : decode cL_supplier 4 = .ok (.iload 4, 2) := by decide +kernel
theorem dL_supplier_6 : decode cL_supplier 6 = .ok (.iload 5, 2) := by decide +kernel
theorem dL_supplier_8 : decode cL_supplier 8 = .ok (.iload 6, 2) := by decide +kernel
theorem dL_supplier_10 : decode cL_supplier 10 = .ok (.invokevirtual 42, 3) := by decide +kernel
theorem dL_supplier_13 : decode cL_supplier 13 = .ok (.goto 11, 3) := by decide +kernel
theorem dL_supplier_16 : decode cL_supplier 16 = .ok (.astore 7, 2) := by decide +kernel
theorem dL_supplier_18 : decode cL_supplier 18 = .ok (.iconst 1, 1) := by decide +kernel
theorem dL_supplier_19 : decode cL_supplier 19 = .ok (.ireturn, 1) := by decide +kernel
theorem dL_supplier_20 : decode cL_supplier 20 = .ok (.astore 7, 2) := by decide +kernel
theorem dL_supplier_22 : decode cL_supplier 22 = .ok (.iconst 2, 1) := by decide +kernel
theorem dL_supplier_23 : decode cL_supplier 23 = .ok (.ireturn, 1) := by decide +kernel
theorem dL_supplier_24 : decode cL_supplier 24 = .ok (.iconst 0, 1) := by decide +kernel
theorem dL_supplier_25 : decode cL_supplier 25 = .ok (.ireturn, 1) := by decide +kernel
abbrev rmL_supplier : Room := { frames := 9, cells := 1, slots := 6, locals := 160 }
set_option maxRecDepth 100000 in
set_option maxHeartbeats 4000000 in
theorem ch_supplier {l : Launch} {k : KC} (hl : l.stackTraces = false) {w : Wd} {b : Nat} {fs : List Value} (hb : b ∈ w.1) (hbf : w.2 b = .inr (11, fs)) {p1 p2 p3 p4 p5 p6 : Int32} {P : Out → Wd → Prop} (hC : MC l k yX10_supplier (.code yX10_supplier cX10_supplier 9 none) rmt_X10_supplier [.ref b, .int p1, .int p2, .int p3, .int p4, .int p5, .int p6] w P) (hP : ∀ o w1, P o w1 → (o = .inl none) ∨ ∃ E, o = .inr E ∧ (E = "java/lang/IndexOutOfBoundsException" ∨ E = "java/lang/IllegalArgumentException")) : MI l k yL_supplier (.codeWith yL_supplier cL_supplier 8 (some .int) [(0, 13, 16, 13), (0, 13, 20, 15)]) rmL_supplier [.ref b, .int p1, .int p2, .int p3, .int p4, .int p5, .int p6] w (fun o w2 => ∃ w1, w2 = w1 ∧ ((P (.inl none) w1 ∧ o = .inl (some (.int 0))) ∨ ∃ E, P (.inr E) w1 ∧ o = .inl (some (.int (xcIA E))))) := by
  refine ML.of 1 hl (by decide) (Nat.le_of_ble_eq_true rfl) ?_
  intro p e s m args below meth c A Q G B ht
  show Wx p l e rmL_supplier s m args below meth c k A 8 Q 1 6 0 [some (.ref b), some (.int p1), some (.int p2), some (.int p3), some (.int p4), some (.int p5), some (.int p6), none] [] w
  refine x_aload0 (pc := 0) G dL_supplier_0 ?_
  refine x_iload1 (pc := 1) G dL_supplier_1 ?_
  refine x_iload2 (pc := 2) G dL_supplier_2 ?_
  refine x_iload3 (pc := 3) G dL_supplier_3 ?_
  refine x_iload4 (pc := 4) G dL_supplier_4 ?_
  refine x_iload5 (pc := 6) G dL_supplier_6 ?_
  refine x_iload6 (pc := 8) G dL_supplier_8 ?_
  refine x_callV (pc := 10) (bc1 := 0) (bs1 := 0) (n := 6) (As := [.int p1, .int p2, .int p3, .int p4, .int p5, .int p6]) G hC hb hbf kb_11.2.2.2.1 q_ml_L_42 q_im_yX10_supplier q_se_yX10_supplier q_in_X10 q_co_yX10_supplier ⟨by decide, by decide, by decide +kernel⟩ ⟨Nat.le_of_ble_eq_true rfl, Nat.le_of_ble_eq_true rfl⟩ (Nat.le_of_ble_eq_true rfl) (Nat.le_of_ble_eq_true rfl) (Nat.le_of_ble_eq_true rfl) rfl rfl dL_supplier_10 (fun v w9 hp => ?_) (fun E w9 hp => ?_)
  · have hp1 := hp
    have hv : v = none := by
      rcases hP _ _ hp1 with z | ⟨E, z, _⟩
      · exact Sum.inl.inj z
      · cases z
    subst hv
    refine x_goto (pc := 13) (tgt := 24) G dL_supplier_13 rfl ?_
    refine x_iconst (pc := 24) (v := 0) G dL_supplier_24 (by decide) ?_
    exact x_iret (pc := 25) G B rfl dL_supplier_25 ⟨_, rfl, Or.inl ⟨hp1, rfl⟩⟩
  · have hp1 := hp
    have hE : E = "java/lang/IndexOutOfBoundsException" ∨ E = "java/lang/IllegalArgumentException" := by
      rcases hP _ _ hp1 with z | ⟨E9, z, hE⟩
      · cases z
      · cases z; exact hE
    rcases hE with rfl | rfl
    · refine x_catch (pc := 10) G (name := "java/lang/IndexOutOfBoundsException") [] ({ startPc := 0, endPc := 13, handlerPc := 16, catchType := 13 } : ExceptionTableEntry) [({ startPc := 0, endPc := 13, handlerPc := 20, catchType := 15 } : ExceptionTableEntry)] (ht.trans rfl) (fun z hz => (List.not_mem_nil hz).elim) (by decide) (by decide) q_cl_L_13 (by decide) (fun q => ?_)
      refine x_astore7 (pc := 16) G dL_supplier_16 (by decide) rfl ?_
      refine x_iconst (pc := 18) (v := 1) G dL_supplier_18 (by decide) ?_
      exact x_iret (pc := 19) G B rfl dL_supplier_19 ⟨_, rfl, Or.inr ⟨_, hp1, congrArg (fun z => Sum.inl (some (Value.int z))) xIA_I.symm⟩⟩
    · refine x_catch (pc := 10) G (name := "java/lang/IllegalArgumentException") [({ startPc := 0, endPc := 13, handlerPc := 16, catchType := 13 } : ExceptionTableEntry)] ({ startPc := 0, endPc := 13, handlerPc := 20, catchType := 15 } : ExceptionTableEntry) [] (ht.trans rfl) (fun z hz => by
        simp only [List.mem_cons, List.not_mem_nil, or_false] at hz
        rcases hz with rfl
        · exact ⟨by decide, _, q_cl_L_13, by decide⟩) (by decide) (by decide) q_cl_L_15 (by decide) (fun q => ?_)
      refine x_astore7 (pc := 20) G dL_supplier_20 (by decide) rfl ?_
      refine x_iconst (pc := 22) (v := 2) G dL_supplier_22 (by decide) ?_
      exact x_iret (pc := 23) G B rfl dL_supplier_23 ⟨_, rfl, Or.inr ⟨_, hp1, congrArg (fun z => Sum.inl (some (Value.int z))) xIA_A.symm⟩⟩
theorem q_cw_rate : Cond.codeWith yL_rate cL_rate 5 (some .int) [(0, 10, 13, 13), (0, 10, 17, 15)] ∈ TB := tb_i 528 (by decide +kernel) (by decide +kernel)
theorem dL_rate_0 : decode cL_rate 0 = .ok (.aload_n 3, 1) := by decide +kernel
theorem dL_rate_1 : decode cL_rate 1 = .ok (.iconst 0, 1) := by decide +kernel
theorem dL_rate_2 : decode cL_rate 2 = .ok (.aload_n 0, 1) := by decide +kernel
theorem dL_rate_3 : decode cL_rate 3 = .ok (.iload_n 1, 1) := by decide +kernel
theorem dL_rate_4 : decode cL_rate 4 = .ok (.iload_n 2, 1) := by decide +kernel
theorem dL_rate_5 : decode cL_rate 5 = .ok (.invokevirtual 46, 3) := by decide +kernel
theorem dL_rate_8 : decode cL_rate 8 = .ok (.i2l, 1) := by decide +kernel
theorem dL_rate_9 : decode cL_rate 9 = .ok (.lastore, 1) := by decide +kernel
theorem dL_rate_10 : decode cL_rate 10 = .ok (.goto 11, 3) := by decide +kernel
theorem dL_rate_13 : decode cL_rate 13 = .ok (.astore 4, 2) := by decide +kernel
theorem dL_rate_15 : decode cL_rate 15 = .ok (.iconst 1, 1) := by decide +kernel
theorem dL_rate_16 : decode cL_rate 16 = .ok (.ireturn, 1) := by decide +kernel
theorem dL_rate_17 : decode cL_rate 17 = .ok (.astore 4, 2) := by decide +kernel
theorem dL_rate_19 : decode cL_rate 19 = .ok (.iconst 2, 1) := by decide +kernel
theorem dL_rate_20 : decode cL_rate 20 = .ok (.ireturn, 1) := by decide +kernel
theorem dL_rate_21 : decode cL_rate 21 = .ok (.iconst 0, 1) := by decide +kernel
theorem dL_rate_22 : decode cL_rate 22 = .ok (.ireturn, 1) := by decide +kernel
abbrev rmL_rate : Room := { frames := 9, cells := 1, slots := 6, locals := 156 }
set_option maxRecDepth 100000 in
set_option maxHeartbeats 4000000 in
theorem ch_rate {l : Launch} {k : KC} (hl : l.stackTraces = false) {w : Wd} {b : Nat} {fs : List Value} (hb : b ∈ w.1) (hbf : w.2 b = .inr (11, fs)) {ao : Nat} {f : Nat → Int64} (hd : DJ w (oW k ao f)) {p1 p2 : Int32} {P : Out → Wd → Prop} (hC : MC l k yX10_rate (.code yX10_rate cX10_rate 5 (some .int)) rmt_X10_rate [.ref b, .int p1, .int p2] w P) (hP : ∀ o w1, P o w1 → (∃ r, o = .inl (some (.int r))) ∨ ∃ E, o = .inr E ∧ (E = "java/lang/IndexOutOfBoundsException" ∨ E = "java/lang/IllegalArgumentException")) : MI l k yL_rate (.codeWith yL_rate cL_rate 5 (some .int) [(0, 10, 13, 13), (0, 10, 17, 15)]) rmL_rate [.ref b, .int p1, .int p2, .ref ao] (wu w (oW k ao f)) (fun o w2 => ∃ w1 f1, w2 = wu w1 (oW k ao f1) ∧ DJ w1 (oW k ao f1) ∧ ((∃ r, P (.inl (some (.int r))) w1 ∧ o = .inl (some (.int 0)) ∧ f1 0 = r.toInt64) ∨ ∃ E, P (.inr E) w1 ∧ o = .inl (some (.int (xcIA E))))) := by
  refine ML.of 1 hl (by decide) (Nat.le_of_ble_eq_true rfl) ?_
  intro p e s m args below meth c A Q G B ht
  show Wx p l e rmL_rate s m args below meth c k A 5 Q 1 6 0 [some (.ref b), some (.int p1), some (.int p2), some (.ref ao), none] [] (wu w (oW k ao f))
  refine x_aload3 (pc := 0) G dL_rate_0 ?_
  refine x_iconst (pc := 1) (v := 0) G dL_rate_1 (by decide) ?_
  refine x_aload0 (pc := 2) G dL_rate_2 ?_
  refine x_iload1 (pc := 3) G dL_rate_3 ?_
  refine x_iload2 (pc := 4) G dL_rate_4 ?_
  refine x_callV (pc := 5) (bc1 := 0) (bs1 := 0) (n := 2) (As := [.int p1, .int p2]) G (hC.frame hd) (List.mem_append_left _ hb) ((if_pos hb).trans hbf) kb_11.2.2.2.1 q_ml_L_46 q_im_yX10_rate q_se_yX10_rate q_in_X10 q_co_yX10_rate ⟨by decide, by decide, by decide +kernel⟩ ⟨Nat.le_of_ble_eq_true rfl, Nat.le_of_ble_eq_true rfl⟩ (Nat.le_of_ble_eq_true rfl) (Nat.le_of_ble_eq_true rfl) (Nat.le_of_ble_eq_true rfl) rfl rfl dL_rate_5 (fun v w9 hp => ?_) (fun E w9 hp => ?_)
  · obtain ⟨w1, hp1, hd1, rfl⟩ := hp
    obtain ⟨r, hv⟩ : ∃ r, v = some (.int r) := by
      rcases hP _ _ hp1 with ⟨r, z⟩ | ⟨E, z, _⟩
      · exact ⟨r, Sum.inl.inj z⟩
      · cases z
    subst hv
    refine x_i2l (pc := 8) G dL_rate_8 ?_
    refine x_lald0 (pc := 9) G hd1 dL_rate_9 ?_
    refine x_goto (pc := 10) (tgt := 21) G dL_rate_10 rfl ?_
    refine x_iconst (pc := 21) (v := 0) G dL_rate_21 (by decide) ?_
    exact x_iret (pc := 22) G B rfl dL_rate_22 ⟨w1, _, rfl, hd1, Or.inl ⟨r, hp1, rfl, up0⟩⟩
  · obtain ⟨w1, hp1, hd1, rfl⟩ := hp
    have hE : E = "java/lang/IndexOutOfBoundsException" ∨ E = "java/lang/IllegalArgumentException" := by
      rcases hP _ _ hp1 with ⟨r, z⟩ | ⟨E9, z, hE⟩
      · cases z
      · cases z; exact hE
    rcases hE with rfl | rfl
    · refine x_catch (pc := 5) G (name := "java/lang/IndexOutOfBoundsException") [] ({ startPc := 0, endPc := 10, handlerPc := 13, catchType := 13 } : ExceptionTableEntry) [({ startPc := 0, endPc := 10, handlerPc := 17, catchType := 15 } : ExceptionTableEntry)] (ht.trans rfl) (fun z hz => (List.not_mem_nil hz).elim) (by decide) (by decide) q_cl_L_13 (by decide) (fun q => ?_)
      refine x_astore4 (pc := 13) G dL_rate_13 (by decide) rfl ?_
      refine x_iconst (pc := 15) (v := 1) G dL_rate_15 (by decide) ?_
      exact x_iret (pc := 16) G B rfl dL_rate_16 ⟨w1, _, rfl, hd1, Or.inr ⟨_, hp1, congrArg (fun z => Sum.inl (some (Value.int z))) xIA_I.symm⟩⟩
    · refine x_catch (pc := 5) G (name := "java/lang/IllegalArgumentException") [({ startPc := 0, endPc := 10, handlerPc := 13, catchType := 13 } : ExceptionTableEntry)] ({ startPc := 0, endPc := 10, handlerPc := 17, catchType := 15 } : ExceptionTableEntry) [] (ht.trans rfl) (fun z hz => by
        simp only [List.mem_cons, List.not_mem_nil, or_false] at hz
        rcases hz with rfl
        · exact ⟨by decide, _, q_cl_L_13, by decide⟩) (by decide) (by decide) q_cl_L_15 (by decide) (fun q => ?_)
      refine x_astore4 (pc := 17) G dL_rate_17 (by decide) rfl ?_
      refine x_iconst (pc := 19) (v := 2) G dL_rate_19 (by decide) ?_
      exact x_iret (pc := 20) G B rfl dL_rate_20 ⟨w1, _, rfl, hd1, Or.inr ⟨_, hp1, congrArg (fun z => Sum.inl (some (Value.int z))) xIA_A.symm⟩⟩
theorem q_cw_taxes : Cond.codeWith yL_taxes cL_taxes 4 (some .int) [(0, 6, 9, 15)] ∈ TB := tb_i 536 (by decide +kernel) (by decide +kernel)
theorem dL_taxes_0 : decode cL_taxes 0 = .ok (.aload_n 0, 1) := by decide +kernel
theorem dL_taxes_1 : decode cL_taxes 1 = .ok (.iload_n 1, 1) := by decide +kernel
theorem dL_taxes_2 : decode cL_taxes 2 = .ok (.iload_n 2, 1) := by decide +kernel
theorem dL_taxes_3 : decode cL_taxes 3 = .ok (.invokevirtual 49, 3) := by decide +kernel
theorem dL_taxes_6 : decode cL_taxes 6 = .ok (.goto 6, 3) := by decide +kernel
theorem dL_taxes_9 : decode cL_taxes 9 = .ok (.astore_n 3, 1) := by decide +kernel
theorem dL_taxes_10 : decode cL_taxes 10 = .ok (.iconst 1, 1) := by decide +kernel
theorem dL_taxes_11 : decode cL_taxes 11 = .ok (.ireturn, 1) := by decide +kernel
theorem dL_taxes_12 : decode cL_taxes 12 = .ok (.iconst 0, 1) := by decide +kernel
theorem dL_taxes_13 : decode cL_taxes 13 = .ok (.ireturn, 1) := by decide +kernel
abbrev rmL_taxes : Room := { frames := 8, cells := 1, slots := 6, locals := 134 }
set_option maxRecDepth 100000 in
set_option maxHeartbeats 4000000 in
theorem ch_taxes {l : Launch} {k : KC} (hl : l.stackTraces = false) {w : Wd} {b : Nat} {fs : List Value} (hb : b ∈ w.1) (hbf : w.2 b = .inr (11, fs)) {p1 p2 : Int32} {P : Out → Wd → Prop} (hC : MC l k yX10_taxes (.code yX10_taxes cX10_taxes 3 none) rmt_X10_taxes [.ref b, .int p1, .int p2] w P) (hP : ∀ o w1, P o w1 → (o = .inl none) ∨ ∃ E, o = .inr E ∧ (E = "java/lang/IllegalArgumentException")) : MI l k yL_taxes (.codeWith yL_taxes cL_taxes 4 (some .int) [(0, 6, 9, 15)]) rmL_taxes [.ref b, .int p1, .int p2] w (fun o w2 => ∃ w1, w2 = w1 ∧ ((P (.inl none) w1 ∧ o = .inl (some (.int 0))) ∨ ∃ E, P (.inr E) w1 ∧ o = .inl (some (.int (xcA E))))) := by
  refine ML.of 1 hl (by decide) (Nat.le_of_ble_eq_true rfl) ?_
  intro p e s m args below meth c A Q G B ht
  show Wx p l e rmL_taxes s m args below meth c k A 4 Q 1 6 0 [some (.ref b), some (.int p1), some (.int p2), none] [] w
  refine x_aload0 (pc := 0) G dL_taxes_0 ?_
  refine x_iload1 (pc := 1) G dL_taxes_1 ?_
  refine x_iload2 (pc := 2) G dL_taxes_2 ?_
  refine x_callV (pc := 3) (bc1 := 0) (bs1 := 0) (n := 2) (As := [.int p1, .int p2]) G hC hb hbf kb_11.2.2.2.1 q_ml_L_49 q_im_yX10_taxes q_se_yX10_taxes q_in_X10 q_co_yX10_taxes ⟨by decide, by decide, by decide +kernel⟩ ⟨Nat.le_of_ble_eq_true rfl, Nat.le_of_ble_eq_true rfl⟩ (Nat.le_of_ble_eq_true rfl) (Nat.le_of_ble_eq_true rfl) (Nat.le_of_ble_eq_true rfl) rfl rfl dL_taxes_3 (fun v w9 hp => ?_) (fun E w9 hp => ?_)
  · have hp1 := hp
    have hv : v = none := by
      rcases hP _ _ hp1 with z | ⟨E, z, _⟩
      · exact Sum.inl.inj z
      · cases z
    subst hv
    refine x_goto (pc := 6) (tgt := 12) G dL_taxes_6 rfl ?_
    refine x_iconst (pc := 12) (v := 0) G dL_taxes_12 (by decide) ?_
    exact x_iret (pc := 13) G B rfl dL_taxes_13 ⟨_, rfl, Or.inl ⟨hp1, rfl⟩⟩
  · have hp1 := hp
    have hE : E = "java/lang/IllegalArgumentException" := by
      rcases hP _ _ hp1 with z | ⟨E9, z, hE⟩
      · cases z
      · cases z; exact hE
    rcases hE with rfl
    · refine x_catch (pc := 3) G (name := "java/lang/IllegalArgumentException") [] ({ startPc := 0, endPc := 6, handlerPc := 9, catchType := 15 } : ExceptionTableEntry) [] (ht.trans rfl) (fun z hz => (List.not_mem_nil hz).elim) (by decide) (by decide) q_cl_L_15 (by decide) (fun q => ?_)
      refine x_astore3 (pc := 9) G dL_taxes_9 (by decide) rfl ?_
      refine x_iconst (pc := 10) (v := 1) G dL_taxes_10 (by decide) ?_
      exact x_iret (pc := 11) G B rfl dL_taxes_11 ⟨_, rfl, Or.inr ⟨_, hp1, congrArg (fun z => Sum.inl (some (Value.int z))) xA_A.symm⟩⟩
theorem q_cw_pass : Cond.codeWith yL_pass cL_pass 4 (some .int) [(0, 9, 12, 15), (0, 9, 15, 17)] ∈ TB := tb_i 543 (by decide +kernel) (by decide +kernel)
theorem dL_pass_0 : decode cL_pass 0 = .ok (.aload_n 2, 1) := by decide +kernel
theorem dL_pass_1 : decode cL_pass 1 = .ok (.iconst 0, 1) := by decide +kernel
theorem dL_pass_2 : decode cL_pass 2 = .ok (.aload_n 0, 1) := by decide +kernel
theorem dL_pass_3 : decode cL_pass 3 = .ok (.iload_n 1, 1) := by decide +kernel
theorem dL_pass_4 : decode cL_pass 4 = .ok (.invokevirtual 53, 3) := by decide +kernel
theorem dL_pass_7 : decode cL_pass 7 = .ok (.i2l, 1) := by decide +kernel
theorem dL_pass_8 : decode cL_pass 8 = .ok (.lastore, 1) := by decide +kernel
theorem dL_pass_9 : decode cL_pass 9 = .ok (.goto 9, 3) := by decide +kernel
theorem dL_pass_12 : decode cL_pass 12 = .ok (.astore_n 3, 1) := by decide +kernel
theorem dL_pass_13 : decode cL_pass 13 = .ok (.iconst 1, 1) := by decide +kernel
theorem dL_pass_14 : decode cL_pass 14 = .ok (.ireturn, 1) := by decide +kernel
theorem dL_pass_15 : decode cL_pass 15 = .ok (.astore_n 3, 1) := by decide +kernel
theorem dL_pass_16 : decode cL_pass 16 = .ok (.iconst 2, 1) := by decide +kernel
theorem dL_pass_17 : decode cL_pass 17 = .ok (.ireturn, 1) := by decide +kernel
theorem dL_pass_18 : decode cL_pass 18 = .ok (.iconst 0, 1) := by decide +kernel
theorem dL_pass_19 : decode cL_pass 19 = .ok (.ireturn, 1) := by decide +kernel
abbrev rmL_pass : Room := { frames := 11, cells := 1, slots := 6, locals := 200 }
set_option maxRecDepth 100000 in
set_option maxHeartbeats 4000000 in
theorem ch_pass {l : Launch} {k : KC} (hl : l.stackTraces = false) {w : Wd} {b : Nat} {fs : List Value} (hb : b ∈ w.1) (hbf : w.2 b = .inr (11, fs)) {ao : Nat} {f : Nat → Int64} (hd : DJ w (oW k ao f)) {p1 : Int32} {P : Out → Wd → Prop} (hC : MC l k yX10_pass (.code yX10_pass cX10_pass 3 (some .int)) rmt_X10_pass [.ref b, .int p1] w P) (hP : ∀ o w1, P o w1 → (∃ r, o = .inl (some (.int r))) ∨ ∃ E, o = .inr E ∧ (E = "java/lang/IllegalArgumentException" ∨ E = "java/lang/IllegalStateException")) : MI l k yL_pass (.codeWith yL_pass cL_pass 4 (some .int) [(0, 9, 12, 15), (0, 9, 15, 17)]) rmL_pass [.ref b, .int p1, .ref ao] (wu w (oW k ao f)) (fun o w2 => ∃ w1 f1, w2 = wu w1 (oW k ao f1) ∧ DJ w1 (oW k ao f1) ∧ ((∃ r, P (.inl (some (.int r))) w1 ∧ o = .inl (some (.int 0)) ∧ f1 0 = r.toInt64) ∨ ∃ E, P (.inr E) w1 ∧ o = .inl (some (.int (xcAS E))))) := by
  refine ML.of 1 hl (by decide) (Nat.le_of_ble_eq_true rfl) ?_
  intro p e s m args below meth c A Q G B ht
  show Wx p l e rmL_pass s m args below meth c k A 4 Q 1 6 0 [some (.ref b), some (.int p1), some (.ref ao), none] [] (wu w (oW k ao f))
  refine x_aload2 (pc := 0) G dL_pass_0 ?_
  refine x_iconst (pc := 1) (v := 0) G dL_pass_1 (by decide) ?_
  refine x_aload0 (pc := 2) G dL_pass_2 ?_
  refine x_iload1 (pc := 3) G dL_pass_3 ?_
  refine x_callV (pc := 4) (bc1 := 0) (bs1 := 0) (n := 1) (As := [.int p1]) G (hC.frame hd) (List.mem_append_left _ hb) ((if_pos hb).trans hbf) kb_11.2.2.2.1 q_ml_L_53 q_im_yX10_pass q_se_yX10_pass q_in_X10 q_co_yX10_pass ⟨by decide, by decide, by decide +kernel⟩ ⟨Nat.le_of_ble_eq_true rfl, Nat.le_of_ble_eq_true rfl⟩ (Nat.le_of_ble_eq_true rfl) (Nat.le_of_ble_eq_true rfl) (Nat.le_of_ble_eq_true rfl) rfl rfl dL_pass_4 (fun v w9 hp => ?_) (fun E w9 hp => ?_)
  · obtain ⟨w1, hp1, hd1, rfl⟩ := hp
    obtain ⟨r, hv⟩ : ∃ r, v = some (.int r) := by
      rcases hP _ _ hp1 with ⟨r, z⟩ | ⟨E, z, _⟩
      · exact ⟨r, Sum.inl.inj z⟩
      · cases z
    subst hv
    refine x_i2l (pc := 7) G dL_pass_7 ?_
    refine x_lald0 (pc := 8) G hd1 dL_pass_8 ?_
    refine x_goto (pc := 9) (tgt := 18) G dL_pass_9 rfl ?_
    refine x_iconst (pc := 18) (v := 0) G dL_pass_18 (by decide) ?_
    exact x_iret (pc := 19) G B rfl dL_pass_19 ⟨w1, _, rfl, hd1, Or.inl ⟨r, hp1, rfl, up0⟩⟩
  · obtain ⟨w1, hp1, hd1, rfl⟩ := hp
    have hE : E = "java/lang/IllegalArgumentException" ∨ E = "java/lang/IllegalStateException" := by
      rcases hP _ _ hp1 with ⟨r, z⟩ | ⟨E9, z, hE⟩
      · cases z
      · cases z; exact hE
    rcases hE with rfl | rfl
    · refine x_catch (pc := 4) G (name := "java/lang/IllegalArgumentException") [] ({ startPc := 0, endPc := 9, handlerPc := 12, catchType := 15 } : ExceptionTableEntry) [({ startPc := 0, endPc := 9, handlerPc := 15, catchType := 17 } : ExceptionTableEntry)] (ht.trans rfl) (fun z hz => (List.not_mem_nil hz).elim) (by decide) (by decide) q_cl_L_15 (by decide) (fun q => ?_)
      refine x_astore3 (pc := 12) G dL_pass_12 (by decide) rfl ?_
      refine x_iconst (pc := 13) (v := 1) G dL_pass_13 (by decide) ?_
      exact x_iret (pc := 14) G B rfl dL_pass_14 ⟨w1, _, rfl, hd1, Or.inr ⟨_, hp1, congrArg (fun z => Sum.inl (some (Value.int z))) xAS_A.symm⟩⟩
    · refine x_catch (pc := 4) G (name := "java/lang/IllegalStateException") [({ startPc := 0, endPc := 9, handlerPc := 12, catchType := 15 } : ExceptionTableEntry)] ({ startPc := 0, endPc := 9, handlerPc := 15, catchType := 17 } : ExceptionTableEntry) [] (ht.trans rfl) (fun z hz => by
        simp only [List.mem_cons, List.not_mem_nil, or_false] at hz
        rcases hz with rfl
        · exact ⟨by decide, _, q_cl_L_15, by decide⟩) (by decide) (by decide) q_cl_L_17 (by decide) (fun q => ?_)
      refine x_astore3 (pc := 15) G dL_pass_15 (by decide) rfl ?_
      refine x_iconst (pc := 16) (v := 2) G dL_pass_16 (by decide) ?_
      exact x_iret (pc := 17) G B rfl dL_pass_17 ⟨w1, _, rfl, hd1, Or.inr ⟨_, hp1, congrArg (fun z => Sum.inl (some (Value.int z))) xAS_S.symm⟩⟩
theorem q_cw_request : Cond.codeWith yL_request cL_request 5 (some .int) [(0, 10, 13, 13), (0, 10, 17, 17)] ∈ TB := tb_i 579 (by decide +kernel) (by decide +kernel)
theorem dL_request_0 : decode cL_request 0 = .ok (.aload_n 3, 1) := by decide +kernel
theorem dL_request_1 : decode cL_request 1 = .ok (.iconst 0, 1) := by decide +kernel
theorem dL_request_2 : decode cL_request 2 = .ok (.aload_n 0, 1) := by decide +kernel
theorem dL_request_3 : decode cL_request 3 = .ok (.iload_n 1, 1) := by decide +kernel
theorem dL_request_4 : decode cL_request 4 = .ok (.iload_n 2, 1) := by decide +kernel
theorem dL_request_5 : decode cL_request 5 = .ok (.invokevirtual 56, 3) := by decide +kernel
theorem dL_request_8 : decode cL_request 8 = .ok (.i2l, 1) := by decide +kernel
theorem dL_request_9 : decode cL_request 9 = .ok (.lastore, 1) := by decide +kernel
theorem dL_request_10 : decode cL_request 10 = .ok (.goto 11, 3) := by decide +kernel
theorem dL_request_13 : decode cL_request 13 = .ok (.astore 4, 2) := by decide +kernel
theorem dL_request_15 : decode cL_request 15 = .ok (.iconst 1, 1) := by decide +kernel
theorem dL_request_16 : decode cL_request 16 = .ok (.ireturn, 1) := by decide +kernel
theorem dL_request_17 : decode cL_request 17 = .ok (.astore 4, 2) := by decide +kernel
theorem dL_request_19 : decode cL_request 19 = .ok (.iconst 2, 1) := by decide +kernel
theorem dL_request_20 : decode cL_request 20 = .ok (.ireturn, 1) := by decide +kernel
theorem dL_request_21 : decode cL_request 21 = .ok (.iconst 0, 1) := by decide +kernel
theorem dL_request_22 : decode cL_request 22 = .ok (.ireturn, 1) := by decide +kernel
abbrev rmL_request : Room := { frames := 9, cells := 3, slots := 86, locals := 264 }
set_option maxRecDepth 100000 in
set_option maxHeartbeats 4000000 in
theorem ch_request {l : Launch} {k : KC} (hl : l.stackTraces = false) {w : Wd} {b : Nat} {fs : List Value} (hb : b ∈ w.1) (hbf : w.2 b = .inr (11, fs)) {ao : Nat} {f : Nat → Int64} (hd : DJ w (oW k ao f)) {p1 p2 : Int32} {P : Out → Wd → Prop} (hC : MC l k yX10_request (.code yX10_request cX10_request 5 (some .int)) rma_request [.ref b, .int p1, .int p2] w P) (hP : ∀ o w1, P o w1 → (∃ r, o = .inl (some (.int r))) ∨ ∃ E, o = .inr E ∧ (E = "java/lang/IndexOutOfBoundsException" ∨ E = "java/lang/IllegalStateException")) : MI l k yL_request (.codeWith yL_request cL_request 5 (some .int) [(0, 10, 13, 13), (0, 10, 17, 17)]) rmL_request [.ref b, .int p1, .int p2, .ref ao] (wu w (oW k ao f)) (fun o w2 => ∃ w1 f1, w2 = wu w1 (oW k ao f1) ∧ DJ w1 (oW k ao f1) ∧ ((∃ r, P (.inl (some (.int r))) w1 ∧ o = .inl (some (.int 0)) ∧ f1 0 = r.toInt64) ∨ ∃ E, P (.inr E) w1 ∧ o = .inl (some (.int (xcIS E))))) := by
  refine ML.of 1 hl (by decide) (Nat.le_of_ble_eq_true rfl) ?_
  intro p e s m args below meth c A Q G B ht
  show Wx p l e rmL_request s m args below meth c k A 5 Q 3 86 0 [some (.ref b), some (.int p1), some (.int p2), some (.ref ao), none] [] (wu w (oW k ao f))
  refine x_aload3 (pc := 0) G dL_request_0 ?_
  refine x_iconst (pc := 1) (v := 0) G dL_request_1 (by decide) ?_
  refine x_aload0 (pc := 2) G dL_request_2 ?_
  refine x_iload1 (pc := 3) G dL_request_3 ?_
  refine x_iload2 (pc := 4) G dL_request_4 ?_
  refine x_callV (pc := 5) (bc1 := 0) (bs1 := 0) (n := 2) (As := [.int p1, .int p2]) G (hC.frame hd) (List.mem_append_left _ hb) ((if_pos hb).trans hbf) kb_11.2.2.2.1 q_ml_L_56 q_im_yX10_request q_se_yX10_request q_in_X10 q_co_yX10_request ⟨by decide, by decide, by decide +kernel⟩ ⟨Nat.le_of_ble_eq_true rfl, Nat.le_of_ble_eq_true rfl⟩ (Nat.le_of_ble_eq_true rfl) (Nat.le_of_ble_eq_true rfl) (Nat.le_of_ble_eq_true rfl) rfl rfl dL_request_5 (fun v w9 hp => ?_) (fun E w9 hp => ?_)
  · obtain ⟨w1, hp1, hd1, rfl⟩ := hp
    obtain ⟨r, hv⟩ : ∃ r, v = some (.int r) := by
      rcases hP _ _ hp1 with ⟨r, z⟩ | ⟨E, z, _⟩
      · exact ⟨r, Sum.inl.inj z⟩
      · cases z
    subst hv
    refine x_i2l (pc := 8) G dL_request_8 ?_
    refine x_lald0 (pc := 9) G hd1 dL_request_9 ?_
    refine x_goto (pc := 10) (tgt := 21) G dL_request_10 rfl ?_
    refine x_iconst (pc := 21) (v := 0) G dL_request_21 (by decide) ?_
    exact x_iret (pc := 22) G B rfl dL_request_22 ⟨w1, _, rfl, hd1, Or.inl ⟨r, hp1, rfl, up0⟩⟩
  · obtain ⟨w1, hp1, hd1, rfl⟩ := hp
    have hE : E = "java/lang/IndexOutOfBoundsException" ∨ E = "java/lang/IllegalStateException" := by
      rcases hP _ _ hp1 with ⟨r, z⟩ | ⟨E9, z, hE⟩
      · cases z
      · cases z; exact hE
    rcases hE with rfl | rfl
    · refine x_catch (pc := 5) G (name := "java/lang/IndexOutOfBoundsException") [] ({ startPc := 0, endPc := 10, handlerPc := 13, catchType := 13 } : ExceptionTableEntry) [({ startPc := 0, endPc := 10, handlerPc := 17, catchType := 17 } : ExceptionTableEntry)] (ht.trans rfl) (fun z hz => (List.not_mem_nil hz).elim) (by decide) (by decide) q_cl_L_13 (by decide) (fun q => ?_)
      refine x_astore4 (pc := 13) G dL_request_13 (by decide) rfl ?_
      refine x_iconst (pc := 15) (v := 1) G dL_request_15 (by decide) ?_
      exact x_iret (pc := 16) G B rfl dL_request_16 ⟨w1, _, rfl, hd1, Or.inr ⟨_, hp1, congrArg (fun z => Sum.inl (some (Value.int z))) xIS_I.symm⟩⟩
    · refine x_catch (pc := 5) G (name := "java/lang/IllegalStateException") [({ startPc := 0, endPc := 10, handlerPc := 13, catchType := 13 } : ExceptionTableEntry)] ({ startPc := 0, endPc := 10, handlerPc := 17, catchType := 17 } : ExceptionTableEntry) [] (ht.trans rfl) (fun z hz => by
        simp only [List.mem_cons, List.not_mem_nil, or_false] at hz
        rcases hz with rfl
        · exact ⟨by decide, _, q_cl_L_13, by decide⟩) (by decide) (by decide) q_cl_L_17 (by decide) (fun q => ?_)
      refine x_astore4 (pc := 17) G dL_request_17 (by decide) rfl ?_
      refine x_iconst (pc := 19) (v := 2) G dL_request_19 (by decide) ?_
      exact x_iret (pc := 20) G B rfl dL_request_20 ⟨w1, _, rfl, hd1, Or.inr ⟨_, hp1, congrArg (fun z => Sum.inl (some (Value.int z))) xIS_S.symm⟩⟩
theorem q_cw_line : Cond.codeWith yL_line cL_line 7 (some .int) [(0, 14, 17, 13), (0, 14, 21, 15), (0, 14, 25, 17)] ∈ TB := tb_i 635 (by decide +kernel) (by decide +kernel)
theorem dL_line_0 : decode cL_line 0 = .ok (.aload 5, 2) := by decide +kernel
theorem dL_line_2 : decode cL_line 2 = .ok (.iconst 0, 1) := by decide +kernel
theorem dL_line_3 : decode cL_line 3 = .ok (.aload_n 0, 1) := by decide +kernel
theorem dL_line_4 : decode cL_line 4 = .ok (.iload_n 1, 1) := by decide +kernel
theorem dL_line_5 : decode cL_line 5 = .ok (.iload_n 2, 1) := by decide +kernel
theorem dL_line_6 : decode cL_line 6 = .ok (.iload_n 3, 1) := by decide +kernel
theorem dL_line_7 : decode cL_line 7 = .ok (.iload 4, 2) := by decide +kernel
theorem dL_line_9 : decode cL_line 9 = .ok (.invokevirtual 59, 3) := by decide +kernel
theorem dL_line_12 : decode cL_line 12 = .ok (.i2l, 1) := by decide +kernel
theorem dL_line_13 : decode cL_line 13 = .ok (.lastore, 1) := by decide +kernel
theorem dL_line_14 : decode cL_line 14 = .ok (.goto 15, 3) := by decide +kernel
theorem dL_line_17 : decode cL_line 17 = .ok (.astore 6, 2) := by decide +kernel
theorem dL_line_19 : decode cL_line 19 = .ok (.iconst 1, 1) := by decide +kernel
theorem dL_line_20 : decode cL_line 20 = .ok (.ireturn, 1) := by decide +kernel
theorem dL_line_21 : decode cL_line 21 = .ok (.astore 6, 2) := by decide +kernel
theorem dL_line_23 : decode cL_line 23 = .ok (.iconst 2, 1) := by decide +kernel
theorem dL_line_24 : decode cL_line 24 = .ok (.ireturn, 1) := by decide +kernel
theorem dL_line_25 : decode cL_line 25 = .ok (.astore 6, 2) := by decide +kernel
theorem dL_line_27 : decode cL_line 27 = .ok (.iconst 3, 1) := by decide +kernel
theorem dL_line_28 : decode cL_line 28 = .ok (.ireturn, 1) := by decide +kernel
theorem dL_line_29 : decode cL_line 29 = .ok (.iconst 0, 1) := by decide +kernel
theorem dL_line_30 : decode cL_line 30 = .ok (.ireturn, 1) := by decide +kernel
abbrev rmL_line : Room := { frames := 9, cells := 2, slots := 79, locals := 265 }
set_option maxRecDepth 100000 in
set_option maxHeartbeats 4000000 in
theorem ch_line {l : Launch} {k : KC} (hl : l.stackTraces = false) {w : Wd} {b : Nat} {fs : List Value} (hb : b ∈ w.1) (hbf : w.2 b = .inr (11, fs)) {ao : Nat} {f : Nat → Int64} (hd : DJ w (oW k ao f)) {p1 p2 p3 p4 : Int32} {P : Out → Wd → Prop} (hC : MC l k yX10_line (.code yX10_line cX10_line 6 (some .int)) rma_line [.ref b, .int p1, .int p2, .int p3, .int p4] w P) (hP : ∀ o w1, P o w1 → (∃ r, o = .inl (some (.int r))) ∨ ∃ E, o = .inr E ∧ (E = "java/lang/IndexOutOfBoundsException" ∨ E = "java/lang/IllegalArgumentException" ∨ E = "java/lang/IllegalStateException")) : MI l k yL_line (.codeWith yL_line cL_line 7 (some .int) [(0, 14, 17, 13), (0, 14, 21, 15), (0, 14, 25, 17)]) rmL_line [.ref b, .int p1, .int p2, .int p3, .int p4, .ref ao] (wu w (oW k ao f)) (fun o w2 => ∃ w1 f1, w2 = wu w1 (oW k ao f1) ∧ DJ w1 (oW k ao f1) ∧ ((∃ r, P (.inl (some (.int r))) w1 ∧ o = .inl (some (.int 0)) ∧ f1 0 = r.toInt64) ∨ ∃ E, P (.inr E) w1 ∧ o = .inl (some (.int (xcIAS E))))) := by
  refine ML.of 1 hl (by decide) (Nat.le_of_ble_eq_true rfl) ?_
  intro p e s m args below meth c A Q G B ht
  show Wx p l e rmL_line s m args below meth c k A 7 Q 2 79 0 [some (.ref b), some (.int p1), some (.int p2), some (.int p3), some (.int p4), some (.ref ao), none] [] (wu w (oW k ao f))
  refine x_aload5 (pc := 0) G dL_line_0 ?_
  refine x_iconst (pc := 2) (v := 0) G dL_line_2 (by decide) ?_
  refine x_aload0 (pc := 3) G dL_line_3 ?_
  refine x_iload1 (pc := 4) G dL_line_4 ?_
  refine x_iload2 (pc := 5) G dL_line_5 ?_
  refine x_iload3 (pc := 6) G dL_line_6 ?_
  refine x_iload4 (pc := 7) G dL_line_7 ?_
  refine x_callV (pc := 9) (bc1 := 0) (bs1 := 0) (n := 4) (As := [.int p1, .int p2, .int p3, .int p4]) G (hC.frame hd) (List.mem_append_left _ hb) ((if_pos hb).trans hbf) kb_11.2.2.2.1 q_ml_L_59 q_im_yX10_line q_se_yX10_line q_in_X10 q_co_yX10_line ⟨by decide, by decide, by decide +kernel⟩ ⟨Nat.le_of_ble_eq_true rfl, Nat.le_of_ble_eq_true rfl⟩ (Nat.le_of_ble_eq_true rfl) (Nat.le_of_ble_eq_true rfl) (Nat.le_of_ble_eq_true rfl) rfl rfl dL_line_9 (fun v w9 hp => ?_) (fun E w9 hp => ?_)
  · obtain ⟨w1, hp1, hd1, rfl⟩ := hp
    obtain ⟨r, hv⟩ : ∃ r, v = some (.int r) := by
      rcases hP _ _ hp1 with ⟨r, z⟩ | ⟨E, z, _⟩
      · exact ⟨r, Sum.inl.inj z⟩
      · cases z
    subst hv
    refine x_i2l (pc := 12) G dL_line_12 ?_
    refine x_lald0 (pc := 13) G hd1 dL_line_13 ?_
    refine x_goto (pc := 14) (tgt := 29) G dL_line_14 rfl ?_
    refine x_iconst (pc := 29) (v := 0) G dL_line_29 (by decide) ?_
    exact x_iret (pc := 30) G B rfl dL_line_30 ⟨w1, _, rfl, hd1, Or.inl ⟨r, hp1, rfl, up0⟩⟩
  · obtain ⟨w1, hp1, hd1, rfl⟩ := hp
    have hE : E = "java/lang/IndexOutOfBoundsException" ∨ E = "java/lang/IllegalArgumentException" ∨ E = "java/lang/IllegalStateException" := by
      rcases hP _ _ hp1 with ⟨r, z⟩ | ⟨E9, z, hE⟩
      · cases z
      · cases z; exact hE
    rcases hE with rfl | rfl | rfl
    · refine x_catch (pc := 9) G (name := "java/lang/IndexOutOfBoundsException") [] ({ startPc := 0, endPc := 14, handlerPc := 17, catchType := 13 } : ExceptionTableEntry) [({ startPc := 0, endPc := 14, handlerPc := 21, catchType := 15 } : ExceptionTableEntry), ({ startPc := 0, endPc := 14, handlerPc := 25, catchType := 17 } : ExceptionTableEntry)] (ht.trans rfl) (fun z hz => (List.not_mem_nil hz).elim) (by decide) (by decide) q_cl_L_13 (by decide) (fun q => ?_)
      refine x_astore6 (pc := 17) G dL_line_17 (by decide) rfl ?_
      refine x_iconst (pc := 19) (v := 1) G dL_line_19 (by decide) ?_
      exact x_iret (pc := 20) G B rfl dL_line_20 ⟨w1, _, rfl, hd1, Or.inr ⟨_, hp1, congrArg (fun z => Sum.inl (some (Value.int z))) xIAS_I.symm⟩⟩
    · refine x_catch (pc := 9) G (name := "java/lang/IllegalArgumentException") [({ startPc := 0, endPc := 14, handlerPc := 17, catchType := 13 } : ExceptionTableEntry)] ({ startPc := 0, endPc := 14, handlerPc := 21, catchType := 15 } : ExceptionTableEntry) [({ startPc := 0, endPc := 14, handlerPc := 25, catchType := 17 } : ExceptionTableEntry)] (ht.trans rfl) (fun z hz => by
        simp only [List.mem_cons, List.not_mem_nil, or_false] at hz
        rcases hz with rfl
        · exact ⟨by decide, _, q_cl_L_13, by decide⟩) (by decide) (by decide) q_cl_L_15 (by decide) (fun q => ?_)
      refine x_astore6 (pc := 21) G dL_line_21 (by decide) rfl ?_
      refine x_iconst (pc := 23) (v := 2) G dL_line_23 (by decide) ?_
      exact x_iret (pc := 24) G B rfl dL_line_24 ⟨w1, _, rfl, hd1, Or.inr ⟨_, hp1, congrArg (fun z => Sum.inl (some (Value.int z))) xIAS_A.symm⟩⟩
    · refine x_catch (pc := 9) G (name := "java/lang/IllegalStateException") [({ startPc := 0, endPc := 14, handlerPc := 17, catchType := 13 } : ExceptionTableEntry), ({ startPc := 0, endPc := 14, handlerPc := 21, catchType := 15 } : ExceptionTableEntry)] ({ startPc := 0, endPc := 14, handlerPc := 25, catchType := 17 } : ExceptionTableEntry) [] (ht.trans rfl) (fun z hz => by
        simp only [List.mem_cons, List.not_mem_nil, or_false] at hz
        rcases hz with rfl | rfl
        · exact ⟨by decide, _, q_cl_L_13, by decide⟩
        · exact ⟨by decide, _, q_cl_L_15, by decide⟩) (by decide) (by decide) q_cl_L_17 (by decide) (fun q => ?_)
      refine x_astore6 (pc := 25) G dL_line_25 (by decide) rfl ?_
      refine x_iconst (pc := 27) (v := 3) G dL_line_27 (by decide) ?_
      exact x_iret (pc := 28) G B rfl dL_line_28 ⟨w1, _, rfl, hd1, Or.inr ⟨_, hp1, congrArg (fun z => Sum.inl (some (Value.int z))) xIAS_S.symm⟩⟩
theorem q_cw_send : Cond.codeWith yL_send cL_send 4 (some .int) [(0, 9, 12, 13), (0, 9, 15, 17)] ∈ TB := tb_i 690 (by decide +kernel) (by decide +kernel)
theorem dL_send_0 : decode cL_send 0 = .ok (.aload_n 2, 1) := by decide +kernel
theorem dL_send_1 : decode cL_send 1 = .ok (.iconst 0, 1) := by decide +kernel
theorem dL_send_2 : decode cL_send 2 = .ok (.aload_n 0, 1) := by decide +kernel
theorem dL_send_3 : decode cL_send 3 = .ok (.iload_n 1, 1) := by decide +kernel
theorem dL_send_4 : decode cL_send 4 = .ok (.invokevirtual 63, 3) := by decide +kernel
theorem dL_send_7 : decode cL_send 7 = .ok (.i2l, 1) := by decide +kernel
theorem dL_send_8 : decode cL_send 8 = .ok (.lastore, 1) := by decide +kernel
theorem dL_send_9 : decode cL_send 9 = .ok (.goto 9, 3) := by decide +kernel
theorem dL_send_12 : decode cL_send 12 = .ok (.astore_n 3, 1) := by decide +kernel
theorem dL_send_13 : decode cL_send 13 = .ok (.iconst 1, 1) := by decide +kernel
theorem dL_send_14 : decode cL_send 14 = .ok (.ireturn, 1) := by decide +kernel
theorem dL_send_15 : decode cL_send 15 = .ok (.astore_n 3, 1) := by decide +kernel
theorem dL_send_16 : decode cL_send 16 = .ok (.iconst 2, 1) := by decide +kernel
theorem dL_send_17 : decode cL_send 17 = .ok (.ireturn, 1) := by decide +kernel
theorem dL_send_18 : decode cL_send 18 = .ok (.iconst 0, 1) := by decide +kernel
theorem dL_send_19 : decode cL_send 19 = .ok (.ireturn, 1) := by decide +kernel
abbrev rmL_send : Room := { frames := 10, cells := 1, slots := 6, locals := 179 }
set_option maxRecDepth 100000 in
set_option maxHeartbeats 4000000 in
theorem ch_send {l : Launch} {k : KC} (hl : l.stackTraces = false) {w : Wd} {b : Nat} {fs : List Value} (hb : b ∈ w.1) (hbf : w.2 b = .inr (11, fs)) {ao : Nat} {f : Nat → Int64} (hd : DJ w (oW k ao f)) {p1 : Int32} {P : Out → Wd → Prop} (hC : MC l k yX10_send (.code yX10_send cX10_send 5 (some .int)) rmt_X10_send [.ref b, .int p1] w P) (hP : ∀ o w1, P o w1 → (∃ r, o = .inl (some (.int r))) ∨ ∃ E, o = .inr E ∧ (E = "java/lang/IndexOutOfBoundsException" ∨ E = "java/lang/IllegalStateException")) : MI l k yL_send (.codeWith yL_send cL_send 4 (some .int) [(0, 9, 12, 13), (0, 9, 15, 17)]) rmL_send [.ref b, .int p1, .ref ao] (wu w (oW k ao f)) (fun o w2 => ∃ w1 f1, w2 = wu w1 (oW k ao f1) ∧ DJ w1 (oW k ao f1) ∧ ((∃ r, P (.inl (some (.int r))) w1 ∧ o = .inl (some (.int 0)) ∧ f1 0 = r.toInt64) ∨ ∃ E, P (.inr E) w1 ∧ o = .inl (some (.int (xcIS E))))) := by
  refine ML.of 1 hl (by decide) (Nat.le_of_ble_eq_true rfl) ?_
  intro p e s m args below meth c A Q G B ht
  show Wx p l e rmL_send s m args below meth c k A 4 Q 1 6 0 [some (.ref b), some (.int p1), some (.ref ao), none] [] (wu w (oW k ao f))
  refine x_aload2 (pc := 0) G dL_send_0 ?_
  refine x_iconst (pc := 1) (v := 0) G dL_send_1 (by decide) ?_
  refine x_aload0 (pc := 2) G dL_send_2 ?_
  refine x_iload1 (pc := 3) G dL_send_3 ?_
  refine x_callV (pc := 4) (bc1 := 0) (bs1 := 0) (n := 1) (As := [.int p1]) G (hC.frame hd) (List.mem_append_left _ hb) ((if_pos hb).trans hbf) kb_11.2.2.2.1 q_ml_L_63 q_im_yX10_send q_se_yX10_send q_in_X10 q_co_yX10_send ⟨by decide, by decide, by decide +kernel⟩ ⟨Nat.le_of_ble_eq_true rfl, Nat.le_of_ble_eq_true rfl⟩ (Nat.le_of_ble_eq_true rfl) (Nat.le_of_ble_eq_true rfl) (Nat.le_of_ble_eq_true rfl) rfl rfl dL_send_4 (fun v w9 hp => ?_) (fun E w9 hp => ?_)
  · obtain ⟨w1, hp1, hd1, rfl⟩ := hp
    obtain ⟨r, hv⟩ : ∃ r, v = some (.int r) := by
      rcases hP _ _ hp1 with ⟨r, z⟩ | ⟨E, z, _⟩
      · exact ⟨r, Sum.inl.inj z⟩
      · cases z
    subst hv
    refine x_i2l (pc := 7) G dL_send_7 ?_
    refine x_lald0 (pc := 8) G hd1 dL_send_8 ?_
    refine x_goto (pc := 9) (tgt := 18) G dL_send_9 rfl ?_
    refine x_iconst (pc := 18) (v := 0) G dL_send_18 (by decide) ?_
    exact x_iret (pc := 19) G B rfl dL_send_19 ⟨w1, _, rfl, hd1, Or.inl ⟨r, hp1, rfl, up0⟩⟩
  · obtain ⟨w1, hp1, hd1, rfl⟩ := hp
    have hE : E = "java/lang/IndexOutOfBoundsException" ∨ E = "java/lang/IllegalStateException" := by
      rcases hP _ _ hp1 with ⟨r, z⟩ | ⟨E9, z, hE⟩
      · cases z
      · cases z; exact hE
    rcases hE with rfl | rfl
    · refine x_catch (pc := 4) G (name := "java/lang/IndexOutOfBoundsException") [] ({ startPc := 0, endPc := 9, handlerPc := 12, catchType := 13 } : ExceptionTableEntry) [({ startPc := 0, endPc := 9, handlerPc := 15, catchType := 17 } : ExceptionTableEntry)] (ht.trans rfl) (fun z hz => (List.not_mem_nil hz).elim) (by decide) (by decide) q_cl_L_13 (by decide) (fun q => ?_)
      refine x_astore3 (pc := 12) G dL_send_12 (by decide) rfl ?_
      refine x_iconst (pc := 13) (v := 1) G dL_send_13 (by decide) ?_
      exact x_iret (pc := 14) G B rfl dL_send_14 ⟨w1, _, rfl, hd1, Or.inr ⟨_, hp1, congrArg (fun z => Sum.inl (some (Value.int z))) xIS_I.symm⟩⟩
    · refine x_catch (pc := 4) G (name := "java/lang/IllegalStateException") [({ startPc := 0, endPc := 9, handlerPc := 12, catchType := 13 } : ExceptionTableEntry)] ({ startPc := 0, endPc := 9, handlerPc := 15, catchType := 17 } : ExceptionTableEntry) [] (ht.trans rfl) (fun z hz => by
        simp only [List.mem_cons, List.not_mem_nil, or_false] at hz
        rcases hz with rfl
        · exact ⟨by decide, _, q_cl_L_13, by decide⟩) (by decide) (by decide) q_cl_L_17 (by decide) (fun q => ?_)
      refine x_astore3 (pc := 15) G dL_send_15 (by decide) rfl ?_
      refine x_iconst (pc := 16) (v := 2) G dL_send_16 (by decide) ?_
      exact x_iret (pc := 17) G B rfl dL_send_17 ⟨w1, _, rfl, hd1, Or.inr ⟨_, hp1, congrArg (fun z => Sum.inl (some (Value.int z))) xIS_S.symm⟩⟩
theorem q_cw_approve : Cond.codeWith yL_approve cL_approve 5 (some .int) [(0, 10, 13, 13), (0, 10, 17, 17)] ∈ TB := tb_i 729 (by decide +kernel) (by decide +kernel)
theorem dL_approve_0 : decode cL_approve 0 = .ok (.aload_n 3, 1) := by decide +kernel
theorem dL_approve_1 : decode cL_approve 1 = .ok (.iconst 0, 1) := by decide +kernel
theorem dL_approve_2 : decode cL_approve 2 = .ok (.aload_n 0, 1) := by decide +kernel
theorem dL_approve_3 : decode cL_approve 3 = .ok (.iload_n 1, 1) := by decide +kernel
theorem dL_approve_4 : decode cL_approve 4 = .ok (.iload_n 2, 1) := by decide +kernel
theorem dL_approve_5 : decode cL_approve 5 = .ok (.invokevirtual 66, 3) := by decide +kernel
theorem dL_approve_8 : decode cL_approve 8 = .ok (.i2l, 1) := by decide +kernel
theorem dL_approve_9 : decode cL_approve 9 = .ok (.lastore, 1) := by decide +kernel
theorem dL_approve_10 : decode cL_approve 10 = .ok (.goto 11, 3) := by decide +kernel
theorem dL_approve_13 : decode cL_approve 13 = .ok (.astore 4, 2) := by decide +kernel
theorem dL_approve_15 : decode cL_approve 15 = .ok (.iconst 1, 1) := by decide +kernel
theorem dL_approve_16 : decode cL_approve 16 = .ok (.ireturn, 1) := by decide +kernel
theorem dL_approve_17 : decode cL_approve 17 = .ok (.astore 4, 2) := by decide +kernel
theorem dL_approve_19 : decode cL_approve 19 = .ok (.iconst 2, 1) := by decide +kernel
theorem dL_approve_20 : decode cL_approve 20 = .ok (.ireturn, 1) := by decide +kernel
theorem dL_approve_21 : decode cL_approve 21 = .ok (.iconst 0, 1) := by decide +kernel
theorem dL_approve_22 : decode cL_approve 22 = .ok (.ireturn, 1) := by decide +kernel
abbrev rmL_approve : Room := { frames := 9, cells := 1, slots := 6, locals := 158 }
set_option maxRecDepth 100000 in
set_option maxHeartbeats 4000000 in
theorem ch_approve {l : Launch} {k : KC} (hl : l.stackTraces = false) {w : Wd} {b : Nat} {fs : List Value} (hb : b ∈ w.1) (hbf : w.2 b = .inr (11, fs)) {ao : Nat} {f : Nat → Int64} (hd : DJ w (oW k ao f)) {p1 p2 : Int32} {P : Out → Wd → Prop} (hC : MC l k yX10_approve (.code yX10_approve cX10_approve 6 (some .int)) rmt_X10_approve [.ref b, .int p1, .int p2] w P) (hP : ∀ o w1, P o w1 → (∃ r, o = .inl (some (.int r))) ∨ ∃ E, o = .inr E ∧ (E = "java/lang/IndexOutOfBoundsException" ∨ E = "java/lang/IllegalStateException")) : MI l k yL_approve (.codeWith yL_approve cL_approve 5 (some .int) [(0, 10, 13, 13), (0, 10, 17, 17)]) rmL_approve [.ref b, .int p1, .int p2, .ref ao] (wu w (oW k ao f)) (fun o w2 => ∃ w1 f1, w2 = wu w1 (oW k ao f1) ∧ DJ w1 (oW k ao f1) ∧ ((∃ r, P (.inl (some (.int r))) w1 ∧ o = .inl (some (.int 0)) ∧ f1 0 = r.toInt64) ∨ ∃ E, P (.inr E) w1 ∧ o = .inl (some (.int (xcIS E))))) := by
  refine ML.of 1 hl (by decide) (Nat.le_of_ble_eq_true rfl) ?_
  intro p e s m args below meth c A Q G B ht
  show Wx p l e rmL_approve s m args below meth c k A 5 Q 1 6 0 [some (.ref b), some (.int p1), some (.int p2), some (.ref ao), none] [] (wu w (oW k ao f))
  refine x_aload3 (pc := 0) G dL_approve_0 ?_
  refine x_iconst (pc := 1) (v := 0) G dL_approve_1 (by decide) ?_
  refine x_aload0 (pc := 2) G dL_approve_2 ?_
  refine x_iload1 (pc := 3) G dL_approve_3 ?_
  refine x_iload2 (pc := 4) G dL_approve_4 ?_
  refine x_callV (pc := 5) (bc1 := 0) (bs1 := 0) (n := 2) (As := [.int p1, .int p2]) G (hC.frame hd) (List.mem_append_left _ hb) ((if_pos hb).trans hbf) kb_11.2.2.2.1 q_ml_L_66 q_im_yX10_approve q_se_yX10_approve q_in_X10 q_co_yX10_approve ⟨by decide, by decide, by decide +kernel⟩ ⟨Nat.le_of_ble_eq_true rfl, Nat.le_of_ble_eq_true rfl⟩ (Nat.le_of_ble_eq_true rfl) (Nat.le_of_ble_eq_true rfl) (Nat.le_of_ble_eq_true rfl) rfl rfl dL_approve_5 (fun v w9 hp => ?_) (fun E w9 hp => ?_)
  · obtain ⟨w1, hp1, hd1, rfl⟩ := hp
    obtain ⟨r, hv⟩ : ∃ r, v = some (.int r) := by
      rcases hP _ _ hp1 with ⟨r, z⟩ | ⟨E, z, _⟩
      · exact ⟨r, Sum.inl.inj z⟩
      · cases z
    subst hv
    refine x_i2l (pc := 8) G dL_approve_8 ?_
    refine x_lald0 (pc := 9) G hd1 dL_approve_9 ?_
    refine x_goto (pc := 10) (tgt := 21) G dL_approve_10 rfl ?_
    refine x_iconst (pc := 21) (v := 0) G dL_approve_21 (by decide) ?_
    exact x_iret (pc := 22) G B rfl dL_approve_22 ⟨w1, _, rfl, hd1, Or.inl ⟨r, hp1, rfl, up0⟩⟩
  · obtain ⟨w1, hp1, hd1, rfl⟩ := hp
    have hE : E = "java/lang/IndexOutOfBoundsException" ∨ E = "java/lang/IllegalStateException" := by
      rcases hP _ _ hp1 with ⟨r, z⟩ | ⟨E9, z, hE⟩
      · cases z
      · cases z; exact hE
    rcases hE with rfl | rfl
    · refine x_catch (pc := 5) G (name := "java/lang/IndexOutOfBoundsException") [] ({ startPc := 0, endPc := 10, handlerPc := 13, catchType := 13 } : ExceptionTableEntry) [({ startPc := 0, endPc := 10, handlerPc := 17, catchType := 17 } : ExceptionTableEntry)] (ht.trans rfl) (fun z hz => (List.not_mem_nil hz).elim) (by decide) (by decide) q_cl_L_13 (by decide) (fun q => ?_)
      refine x_astore4 (pc := 13) G dL_approve_13 (by decide) rfl ?_
      refine x_iconst (pc := 15) (v := 1) G dL_approve_15 (by decide) ?_
      exact x_iret (pc := 16) G B rfl dL_approve_16 ⟨w1, _, rfl, hd1, Or.inr ⟨_, hp1, congrArg (fun z => Sum.inl (some (Value.int z))) xIS_I.symm⟩⟩
    · refine x_catch (pc := 5) G (name := "java/lang/IllegalStateException") [({ startPc := 0, endPc := 10, handlerPc := 13, catchType := 13 } : ExceptionTableEntry)] ({ startPc := 0, endPc := 10, handlerPc := 17, catchType := 17 } : ExceptionTableEntry) [] (ht.trans rfl) (fun z hz => by
        simp only [List.mem_cons, List.not_mem_nil, or_false] at hz
        rcases hz with rfl
        · exact ⟨by decide, _, q_cl_L_13, by decide⟩) (by decide) (by decide) q_cl_L_17 (by decide) (fun q => ?_)
      refine x_astore4 (pc := 17) G dL_approve_17 (by decide) rfl ?_
      refine x_iconst (pc := 19) (v := 2) G dL_approve_19 (by decide) ?_
      exact x_iret (pc := 20) G B rfl dL_approve_20 ⟨w1, _, rfl, hd1, Or.inr ⟨_, hp1, congrArg (fun z => Sum.inl (some (Value.int z))) xIS_S.symm⟩⟩
theorem q_cw_refuse : Cond.codeWith yL_refuse cL_refuse 4 (some .int) [(0, 6, 9, 13), (0, 6, 12, 17)] ∈ TB := tb_i 742 (by decide +kernel) (by decide +kernel)
theorem dL_refuse_0 : decode cL_refuse 0 = .ok (.aload_n 0, 1) := by decide +kernel
theorem dL_refuse_1 : decode cL_refuse 1 = .ok (.iload_n 1, 1) := by decide +kernel
theorem dL_refuse_2 : decode cL_refuse 2 = .ok (.iload_n 2, 1) := by decide +kernel
theorem dL_refuse_3 : decode cL_refuse 3 = .ok (.invokevirtual 69, 3) := by decide +kernel
theorem dL_refuse_6 : decode cL_refuse 6 = .ok (.goto 9, 3) := by decide +kernel
theorem dL_refuse_9 : decode cL_refuse 9 = .ok (.astore_n 3, 1) := by decide +kernel
theorem dL_refuse_10 : decode cL_refuse 10 = .ok (.iconst 1, 1) := by decide +kernel
theorem dL_refuse_11 : decode cL_refuse 11 = .ok (.ireturn, 1) := by decide +kernel
theorem dL_refuse_12 : decode cL_refuse 12 = .ok (.astore_n 3, 1) := by decide +kernel
theorem dL_refuse_13 : decode cL_refuse 13 = .ok (.iconst 2, 1) := by decide +kernel
theorem dL_refuse_14 : decode cL_refuse 14 = .ok (.ireturn, 1) := by decide +kernel
theorem dL_refuse_15 : decode cL_refuse 15 = .ok (.iconst 0, 1) := by decide +kernel
theorem dL_refuse_16 : decode cL_refuse 16 = .ok (.ireturn, 1) := by decide +kernel
abbrev rmL_refuse : Room := { frames := 11, cells := 1, slots := 6, locals := 202 }
set_option maxRecDepth 100000 in
set_option maxHeartbeats 4000000 in
theorem ch_refuse {l : Launch} {k : KC} (hl : l.stackTraces = false) {w : Wd} {b : Nat} {fs : List Value} (hb : b ∈ w.1) (hbf : w.2 b = .inr (11, fs)) {p1 p2 : Int32} {P : Out → Wd → Prop} (hC : MC l k yX10_refuse (.code yX10_refuse cX10_refuse 5 none) rmt_X10_refuse [.ref b, .int p1, .int p2] w P) (hP : ∀ o w1, P o w1 → (o = .inl none) ∨ ∃ E, o = .inr E ∧ (E = "java/lang/IndexOutOfBoundsException" ∨ E = "java/lang/IllegalStateException")) : MI l k yL_refuse (.codeWith yL_refuse cL_refuse 4 (some .int) [(0, 6, 9, 13), (0, 6, 12, 17)]) rmL_refuse [.ref b, .int p1, .int p2] w (fun o w2 => ∃ w1, w2 = w1 ∧ ((P (.inl none) w1 ∧ o = .inl (some (.int 0))) ∨ ∃ E, P (.inr E) w1 ∧ o = .inl (some (.int (xcIS E))))) := by
  refine ML.of 1 hl (by decide) (Nat.le_of_ble_eq_true rfl) ?_
  intro p e s m args below meth c A Q G B ht
  show Wx p l e rmL_refuse s m args below meth c k A 4 Q 1 6 0 [some (.ref b), some (.int p1), some (.int p2), none] [] w
  refine x_aload0 (pc := 0) G dL_refuse_0 ?_
  refine x_iload1 (pc := 1) G dL_refuse_1 ?_
  refine x_iload2 (pc := 2) G dL_refuse_2 ?_
  refine x_callV (pc := 3) (bc1 := 0) (bs1 := 0) (n := 2) (As := [.int p1, .int p2]) G hC hb hbf kb_11.2.2.2.1 q_ml_L_69 q_im_yX10_refuse q_se_yX10_refuse q_in_X10 q_co_yX10_refuse ⟨by decide, by decide, by decide +kernel⟩ ⟨Nat.le_of_ble_eq_true rfl, Nat.le_of_ble_eq_true rfl⟩ (Nat.le_of_ble_eq_true rfl) (Nat.le_of_ble_eq_true rfl) (Nat.le_of_ble_eq_true rfl) rfl rfl dL_refuse_3 (fun v w9 hp => ?_) (fun E w9 hp => ?_)
  · have hp1 := hp
    have hv : v = none := by
      rcases hP _ _ hp1 with z | ⟨E, z, _⟩
      · exact Sum.inl.inj z
      · cases z
    subst hv
    refine x_goto (pc := 6) (tgt := 15) G dL_refuse_6 rfl ?_
    refine x_iconst (pc := 15) (v := 0) G dL_refuse_15 (by decide) ?_
    exact x_iret (pc := 16) G B rfl dL_refuse_16 ⟨_, rfl, Or.inl ⟨hp1, rfl⟩⟩
  · have hp1 := hp
    have hE : E = "java/lang/IndexOutOfBoundsException" ∨ E = "java/lang/IllegalStateException" := by
      rcases hP _ _ hp1 with z | ⟨E9, z, hE⟩
      · cases z
      · cases z; exact hE
    rcases hE with rfl | rfl
    · refine x_catch (pc := 3) G (name := "java/lang/IndexOutOfBoundsException") [] ({ startPc := 0, endPc := 6, handlerPc := 9, catchType := 13 } : ExceptionTableEntry) [({ startPc := 0, endPc := 6, handlerPc := 12, catchType := 17 } : ExceptionTableEntry)] (ht.trans rfl) (fun z hz => (List.not_mem_nil hz).elim) (by decide) (by decide) q_cl_L_13 (by decide) (fun q => ?_)
      refine x_astore3 (pc := 9) G dL_refuse_9 (by decide) rfl ?_
      refine x_iconst (pc := 10) (v := 1) G dL_refuse_10 (by decide) ?_
      exact x_iret (pc := 11) G B rfl dL_refuse_11 ⟨_, rfl, Or.inr ⟨_, hp1, congrArg (fun z => Sum.inl (some (Value.int z))) xIS_I.symm⟩⟩
    · refine x_catch (pc := 3) G (name := "java/lang/IllegalStateException") [({ startPc := 0, endPc := 6, handlerPc := 9, catchType := 13 } : ExceptionTableEntry)] ({ startPc := 0, endPc := 6, handlerPc := 12, catchType := 17 } : ExceptionTableEntry) [] (ht.trans rfl) (fun z hz => by
        simp only [List.mem_cons, List.not_mem_nil, or_false] at hz
        rcases hz with rfl
        · exact ⟨by decide, _, q_cl_L_13, by decide⟩) (by decide) (by decide) q_cl_L_17 (by decide) (fun q => ?_)
      refine x_astore3 (pc := 12) G dL_refuse_12 (by decide) rfl ?_
      refine x_iconst (pc := 13) (v := 2) G dL_refuse_13 (by decide) ?_
      exact x_iret (pc := 14) G B rfl dL_refuse_14 ⟨_, rfl, Or.inr ⟨_, hp1, congrArg (fun z => Sum.inl (some (Value.int z))) xIS_S.symm⟩⟩
theorem q_cw_edit : Cond.codeWith yL_edit cL_edit 6 (some .int) [(0, 12, 15, 13), (0, 12, 19, 15), (0, 12, 23, 17)] ∈ TB := tb_i 756 (by decide +kernel) (by decide +kernel)
theorem dL_edit_0 : decode cL_edit 0 = .ok (.aload 4, 2) := by decide +kernel
theorem dL_edit_2 : decode cL_edit 2 = .ok (.iconst 0, 1) := by decide +kernel
theorem dL_edit_3 : decode cL_edit 3 = .ok (.aload_n 0, 1) := by decide +kernel
theorem dL_edit_4 : decode cL_edit 4 = .ok (.iload_n 1, 1) := by decide +kernel
theorem dL_edit_5 : decode cL_edit 5 = .ok (.iload_n 2, 1) := by decide +kernel
theorem dL_edit_6 : decode cL_edit 6 = .ok (.iload_n 3, 1) := by decide +kernel
theorem dL_edit_7 : decode cL_edit 7 = .ok (.invokevirtual 72, 3) := by decide +kernel
theorem dL_edit_10 : decode cL_edit 10 = .ok (.i2l, 1) := by decide +kernel
theorem dL_edit_11 : decode cL_edit 11 = .ok (.lastore, 1) := by decide +kernel
theorem dL_edit_12 : decode cL_edit 12 = .ok (.goto 15, 3) := by decide +kernel
theorem dL_edit_15 : decode cL_edit 15 = .ok (.astore 5, 2) := by decide +kernel
theorem dL_edit_17 : decode cL_edit 17 = .ok (.iconst 1, 1) := by decide +kernel
theorem dL_edit_18 : decode cL_edit 18 = .ok (.ireturn, 1) := by decide +kernel
theorem dL_edit_19 : decode cL_edit 19 = .ok (.astore 5, 2) := by decide +kernel
theorem dL_edit_21 : decode cL_edit 21 = .ok (.iconst 2, 1) := by decide +kernel
theorem dL_edit_22 : decode cL_edit 22 = .ok (.ireturn, 1) := by decide +kernel
theorem dL_edit_23 : decode cL_edit 23 = .ok (.astore 5, 2) := by decide +kernel
theorem dL_edit_25 : decode cL_edit 25 = .ok (.iconst 3, 1) := by decide +kernel
theorem dL_edit_26 : decode cL_edit 26 = .ok (.ireturn, 1) := by decide +kernel
theorem dL_edit_27 : decode cL_edit 27 = .ok (.iconst 0, 1) := by decide +kernel
theorem dL_edit_28 : decode cL_edit 28 = .ok (.ireturn, 1) := by decide +kernel
abbrev rmL_edit : Room := { frames := 11, cells := 1, slots := 6, locals := 204 }
set_option maxRecDepth 100000 in
set_option maxHeartbeats 4000000 in
theorem ch_edit {l : Launch} {k : KC} (hl : l.stackTraces = false) {w : Wd} {b : Nat} {fs : List Value} (hb : b ∈ w.1) (hbf : w.2 b = .inr (11, fs)) {ao : Nat} {f : Nat → Int64} (hd : DJ w (oW k ao f)) {p1 p2 p3 : Int32} {P : Out → Wd → Prop} (hC : MC l k yX10_edit (.code yX10_edit cX10_edit 7 (some .int)) rmt_X10_edit [.ref b, .int p1, .int p2, .int p3] w P) (hP : ∀ o w1, P o w1 → (∃ r, o = .inl (some (.int r))) ∨ ∃ E, o = .inr E ∧ (E = "java/lang/IndexOutOfBoundsException" ∨ E = "java/lang/IllegalArgumentException" ∨ E = "java/lang/IllegalStateException")) : MI l k yL_edit (.codeWith yL_edit cL_edit 6 (some .int) [(0, 12, 15, 13), (0, 12, 19, 15), (0, 12, 23, 17)]) rmL_edit [.ref b, .int p1, .int p2, .int p3, .ref ao] (wu w (oW k ao f)) (fun o w2 => ∃ w1 f1, w2 = wu w1 (oW k ao f1) ∧ DJ w1 (oW k ao f1) ∧ ((∃ r, P (.inl (some (.int r))) w1 ∧ o = .inl (some (.int 0)) ∧ f1 0 = r.toInt64) ∨ ∃ E, P (.inr E) w1 ∧ o = .inl (some (.int (xcIAS E))))) := by
  refine ML.of 1 hl (by decide) (Nat.le_of_ble_eq_true rfl) ?_
  intro p e s m args below meth c A Q G B ht
  show Wx p l e rmL_edit s m args below meth c k A 6 Q 1 6 0 [some (.ref b), some (.int p1), some (.int p2), some (.int p3), some (.ref ao), none] [] (wu w (oW k ao f))
  refine x_aload4 (pc := 0) G dL_edit_0 ?_
  refine x_iconst (pc := 2) (v := 0) G dL_edit_2 (by decide) ?_
  refine x_aload0 (pc := 3) G dL_edit_3 ?_
  refine x_iload1 (pc := 4) G dL_edit_4 ?_
  refine x_iload2 (pc := 5) G dL_edit_5 ?_
  refine x_iload3 (pc := 6) G dL_edit_6 ?_
  refine x_callV (pc := 7) (bc1 := 0) (bs1 := 0) (n := 3) (As := [.int p1, .int p2, .int p3]) G (hC.frame hd) (List.mem_append_left _ hb) ((if_pos hb).trans hbf) kb_11.2.2.2.1 q_ml_L_72 q_im_yX10_edit q_se_yX10_edit q_in_X10 q_co_yX10_edit ⟨by decide, by decide, by decide +kernel⟩ ⟨Nat.le_of_ble_eq_true rfl, Nat.le_of_ble_eq_true rfl⟩ (Nat.le_of_ble_eq_true rfl) (Nat.le_of_ble_eq_true rfl) (Nat.le_of_ble_eq_true rfl) rfl rfl dL_edit_7 (fun v w9 hp => ?_) (fun E w9 hp => ?_)
  · obtain ⟨w1, hp1, hd1, rfl⟩ := hp
    obtain ⟨r, hv⟩ : ∃ r, v = some (.int r) := by
      rcases hP _ _ hp1 with ⟨r, z⟩ | ⟨E, z, _⟩
      · exact ⟨r, Sum.inl.inj z⟩
      · cases z
    subst hv
    refine x_i2l (pc := 10) G dL_edit_10 ?_
    refine x_lald0 (pc := 11) G hd1 dL_edit_11 ?_
    refine x_goto (pc := 12) (tgt := 27) G dL_edit_12 rfl ?_
    refine x_iconst (pc := 27) (v := 0) G dL_edit_27 (by decide) ?_
    exact x_iret (pc := 28) G B rfl dL_edit_28 ⟨w1, _, rfl, hd1, Or.inl ⟨r, hp1, rfl, up0⟩⟩
  · obtain ⟨w1, hp1, hd1, rfl⟩ := hp
    have hE : E = "java/lang/IndexOutOfBoundsException" ∨ E = "java/lang/IllegalArgumentException" ∨ E = "java/lang/IllegalStateException" := by
      rcases hP _ _ hp1 with ⟨r, z⟩ | ⟨E9, z, hE⟩
      · cases z
      · cases z; exact hE
    rcases hE with rfl | rfl | rfl
    · refine x_catch (pc := 7) G (name := "java/lang/IndexOutOfBoundsException") [] ({ startPc := 0, endPc := 12, handlerPc := 15, catchType := 13 } : ExceptionTableEntry) [({ startPc := 0, endPc := 12, handlerPc := 19, catchType := 15 } : ExceptionTableEntry), ({ startPc := 0, endPc := 12, handlerPc := 23, catchType := 17 } : ExceptionTableEntry)] (ht.trans rfl) (fun z hz => (List.not_mem_nil hz).elim) (by decide) (by decide) q_cl_L_13 (by decide) (fun q => ?_)
      refine x_astore5 (pc := 15) G dL_edit_15 (by decide) rfl ?_
      refine x_iconst (pc := 17) (v := 1) G dL_edit_17 (by decide) ?_
      exact x_iret (pc := 18) G B rfl dL_edit_18 ⟨w1, _, rfl, hd1, Or.inr ⟨_, hp1, congrArg (fun z => Sum.inl (some (Value.int z))) xIAS_I.symm⟩⟩
    · refine x_catch (pc := 7) G (name := "java/lang/IllegalArgumentException") [({ startPc := 0, endPc := 12, handlerPc := 15, catchType := 13 } : ExceptionTableEntry)] ({ startPc := 0, endPc := 12, handlerPc := 19, catchType := 15 } : ExceptionTableEntry) [({ startPc := 0, endPc := 12, handlerPc := 23, catchType := 17 } : ExceptionTableEntry)] (ht.trans rfl) (fun z hz => by
        simp only [List.mem_cons, List.not_mem_nil, or_false] at hz
        rcases hz with rfl
        · exact ⟨by decide, _, q_cl_L_13, by decide⟩) (by decide) (by decide) q_cl_L_15 (by decide) (fun q => ?_)
      refine x_astore5 (pc := 19) G dL_edit_19 (by decide) rfl ?_
      refine x_iconst (pc := 21) (v := 2) G dL_edit_21 (by decide) ?_
      exact x_iret (pc := 22) G B rfl dL_edit_22 ⟨w1, _, rfl, hd1, Or.inr ⟨_, hp1, congrArg (fun z => Sum.inl (some (Value.int z))) xIAS_A.symm⟩⟩
    · refine x_catch (pc := 7) G (name := "java/lang/IllegalStateException") [({ startPc := 0, endPc := 12, handlerPc := 15, catchType := 13 } : ExceptionTableEntry), ({ startPc := 0, endPc := 12, handlerPc := 19, catchType := 15 } : ExceptionTableEntry)] ({ startPc := 0, endPc := 12, handlerPc := 23, catchType := 17 } : ExceptionTableEntry) [] (ht.trans rfl) (fun z hz => by
        simp only [List.mem_cons, List.not_mem_nil, or_false] at hz
        rcases hz with rfl | rfl
        · exact ⟨by decide, _, q_cl_L_13, by decide⟩
        · exact ⟨by decide, _, q_cl_L_15, by decide⟩) (by decide) (by decide) q_cl_L_17 (by decide) (fun q => ?_)
      refine x_astore5 (pc := 23) G dL_edit_23 (by decide) rfl ?_
      refine x_iconst (pc := 25) (v := 3) G dL_edit_25 (by decide) ?_
      exact x_iret (pc := 26) G B rfl dL_edit_26 ⟨w1, _, rfl, hd1, Or.inr ⟨_, hp1, congrArg (fun z => Sum.inl (some (Value.int z))) xIAS_S.symm⟩⟩
theorem q_cw_order : Cond.codeWith yL_order cL_order 4 (some .int) [(0, 6, 9, 13), (0, 6, 12, 17)] ∈ TB := tb_i 767 (by decide +kernel) (by decide +kernel)
theorem dL_order_0 : decode cL_order 0 = .ok (.aload_n 0, 1) := by decide +kernel
theorem dL_order_1 : decode cL_order 1 = .ok (.iload_n 1, 1) := by decide +kernel
theorem dL_order_2 : decode cL_order 2 = .ok (.iload_n 2, 1) := by decide +kernel
theorem dL_order_3 : decode cL_order 3 = .ok (.invokevirtual 76, 3) := by decide +kernel
theorem dL_order_6 : decode cL_order 6 = .ok (.goto 9, 3) := by decide +kernel
theorem dL_order_9 : decode cL_order 9 = .ok (.astore_n 3, 1) := by decide +kernel
theorem dL_order_10 : decode cL_order 10 = .ok (.iconst 1, 1) := by decide +kernel
theorem dL_order_11 : decode cL_order 11 = .ok (.ireturn, 1) := by decide +kernel
theorem dL_order_12 : decode cL_order 12 = .ok (.astore_n 3, 1) := by decide +kernel
theorem dL_order_13 : decode cL_order 13 = .ok (.iconst 2, 1) := by decide +kernel
theorem dL_order_14 : decode cL_order 14 = .ok (.ireturn, 1) := by decide +kernel
theorem dL_order_15 : decode cL_order 15 = .ok (.iconst 0, 1) := by decide +kernel
theorem dL_order_16 : decode cL_order 16 = .ok (.ireturn, 1) := by decide +kernel
abbrev rmL_order : Room := { frames := 9, cells := 1, slots := 6, locals := 156 }
set_option maxRecDepth 100000 in
set_option maxHeartbeats 4000000 in
theorem ch_order {l : Launch} {k : KC} (hl : l.stackTraces = false) {w : Wd} {b : Nat} {fs : List Value} (hb : b ∈ w.1) (hbf : w.2 b = .inr (11, fs)) {p1 p2 : Int32} {P : Out → Wd → Prop} (hC : MC l k yX10_order (.code yX10_order cX10_order 5 none) rmt_X10_order [.ref b, .int p1, .int p2] w P) (hP : ∀ o w1, P o w1 → (o = .inl none) ∨ ∃ E, o = .inr E ∧ (E = "java/lang/IndexOutOfBoundsException" ∨ E = "java/lang/IllegalStateException")) : MI l k yL_order (.codeWith yL_order cL_order 4 (some .int) [(0, 6, 9, 13), (0, 6, 12, 17)]) rmL_order [.ref b, .int p1, .int p2] w (fun o w2 => ∃ w1, w2 = w1 ∧ ((P (.inl none) w1 ∧ o = .inl (some (.int 0))) ∨ ∃ E, P (.inr E) w1 ∧ o = .inl (some (.int (xcIS E))))) := by
  refine ML.of 1 hl (by decide) (Nat.le_of_ble_eq_true rfl) ?_
  intro p e s m args below meth c A Q G B ht
  show Wx p l e rmL_order s m args below meth c k A 4 Q 1 6 0 [some (.ref b), some (.int p1), some (.int p2), none] [] w
  refine x_aload0 (pc := 0) G dL_order_0 ?_
  refine x_iload1 (pc := 1) G dL_order_1 ?_
  refine x_iload2 (pc := 2) G dL_order_2 ?_
  refine x_callV (pc := 3) (bc1 := 0) (bs1 := 0) (n := 2) (As := [.int p1, .int p2]) G hC hb hbf kb_11.2.2.2.1 q_ml_L_76 q_im_yX10_order q_se_yX10_order q_in_X10 q_co_yX10_order ⟨by decide, by decide, by decide +kernel⟩ ⟨Nat.le_of_ble_eq_true rfl, Nat.le_of_ble_eq_true rfl⟩ (Nat.le_of_ble_eq_true rfl) (Nat.le_of_ble_eq_true rfl) (Nat.le_of_ble_eq_true rfl) rfl rfl dL_order_3 (fun v w9 hp => ?_) (fun E w9 hp => ?_)
  · have hp1 := hp
    have hv : v = none := by
      rcases hP _ _ hp1 with z | ⟨E, z, _⟩
      · exact Sum.inl.inj z
      · cases z
    subst hv
    refine x_goto (pc := 6) (tgt := 15) G dL_order_6 rfl ?_
    refine x_iconst (pc := 15) (v := 0) G dL_order_15 (by decide) ?_
    exact x_iret (pc := 16) G B rfl dL_order_16 ⟨_, rfl, Or.inl ⟨hp1, rfl⟩⟩
  · have hp1 := hp
    have hE : E = "java/lang/IndexOutOfBoundsException" ∨ E = "java/lang/IllegalStateException" := by
      rcases hP _ _ hp1 with z | ⟨E9, z, hE⟩
      · cases z
      · cases z; exact hE
    rcases hE with rfl | rfl
    · refine x_catch (pc := 3) G (name := "java/lang/IndexOutOfBoundsException") [] ({ startPc := 0, endPc := 6, handlerPc := 9, catchType := 13 } : ExceptionTableEntry) [({ startPc := 0, endPc := 6, handlerPc := 12, catchType := 17 } : ExceptionTableEntry)] (ht.trans rfl) (fun z hz => (List.not_mem_nil hz).elim) (by decide) (by decide) q_cl_L_13 (by decide) (fun q => ?_)
      refine x_astore3 (pc := 9) G dL_order_9 (by decide) rfl ?_
      refine x_iconst (pc := 10) (v := 1) G dL_order_10 (by decide) ?_
      exact x_iret (pc := 11) G B rfl dL_order_11 ⟨_, rfl, Or.inr ⟨_, hp1, congrArg (fun z => Sum.inl (some (Value.int z))) xIS_I.symm⟩⟩
    · refine x_catch (pc := 3) G (name := "java/lang/IllegalStateException") [({ startPc := 0, endPc := 6, handlerPc := 9, catchType := 13 } : ExceptionTableEntry)] ({ startPc := 0, endPc := 6, handlerPc := 12, catchType := 17 } : ExceptionTableEntry) [] (ht.trans rfl) (fun z hz => by
        simp only [List.mem_cons, List.not_mem_nil, or_false] at hz
        rcases hz with rfl
        · exact ⟨by decide, _, q_cl_L_13, by decide⟩) (by decide) (by decide) q_cl_L_17 (by decide) (fun q => ?_)
      refine x_astore3 (pc := 12) G dL_order_12 (by decide) rfl ?_
      refine x_iconst (pc := 13) (v := 2) G dL_order_13 (by decide) ?_
      exact x_iret (pc := 14) G B rfl dL_order_14 ⟨_, rfl, Or.inr ⟨_, hp1, congrArg (fun z => Sum.inl (some (Value.int z))) xIS_S.symm⟩⟩
theorem q_cw_receive : Cond.codeWith yL_receive cL_receive 6 (some .int) [(0, 12, 15, 13), (0, 12, 19, 15), (0, 12, 23, 17)] ∈ TB := tb_i 775 (by decide +kernel) (by decide +kernel)
theorem dL_receive_0 : decode cL_receive 0 = .ok (.aload 4, 2) := by decide +kernel
theorem dL_receive_2 : decode cL_receive 2 = .ok (.iconst 0, 1) := by decide +kernel
theorem dL_receive_3 : decode cL_receive 3 = .ok (.aload_n 0, 1) := by decide +kernel
theorem dL_receive_4 : decode cL_receive 4 = .ok (.iload_n 1, 1) := by decide +kernel
theorem dL_receive_5 : decode cL_receive 5 = .ok (.iload_n 2, 1) := by decide +kernel
theorem dL_receive_6 : decode cL_receive 6 = .ok (.iload_n 3, 1) := by decide +kernel
theorem dL_receive_7 : decode cL_receive 7 = .ok (.invokevirtual 79, 3) := by decide +kernel
theorem dL_receive_10 : decode cL_receive 10 = .ok (.i2l, 1) := by decide +kernel
theorem dL_receive_11 : decode cL_receive 11 = .ok (.lastore, 1) := by decide +kernel
theorem dL_receive_12 : decode cL_receive 12 = .ok (.goto 15, 3) := by decide +kernel
theorem dL_receive_15 : decode cL_receive 15 = .ok (.astore 5, 2) := by decide +kernel
theorem dL_receive_17 : decode cL_receive 17 = .ok (.iconst 1, 1) := by decide +kernel
theorem dL_receive_18 : decode cL_receive 18 = .ok (.ireturn, 1) := by decide +kernel
theorem dL_receive_19 : decode cL_receive 19 = .ok (.astore 5, 2) := by decide +kernel
theorem dL_receive_21 : decode cL_receive 21 = .ok (.iconst 2, 1) := by decide +kernel
theorem dL_receive_22 : decode cL_receive 22 = .ok (.ireturn, 1) := by decide +kernel
theorem dL_receive_23 : decode cL_receive 23 = .ok (.astore 5, 2) := by decide +kernel
theorem dL_receive_25 : decode cL_receive 25 = .ok (.iconst 3, 1) := by decide +kernel
theorem dL_receive_26 : decode cL_receive 26 = .ok (.ireturn, 1) := by decide +kernel
theorem dL_receive_27 : decode cL_receive 27 = .ok (.iconst 0, 1) := by decide +kernel
theorem dL_receive_28 : decode cL_receive 28 = .ok (.ireturn, 1) := by decide +kernel
abbrev rmL_receive : Room := { frames := 13, cells := 1, slots := 6, locals := 255 }
set_option maxRecDepth 100000 in
set_option maxHeartbeats 4000000 in
theorem ch_receive {l : Launch} {k : KC} (hl : l.stackTraces = false) {w : Wd} {b : Nat} {fs : List Value} (hb : b ∈ w.1) (hbf : w.2 b = .inr (11, fs)) {ao : Nat} {f : Nat → Int64} (hd : DJ w (oW k ao f)) {p1 p2 p3 : Int32} {P : Out → Wd → Prop} (hC : MC l k yX10_receive (.code yX10_receive cX10_receive 7 (some .int)) rmt_X10_receive [.ref b, .int p1, .int p2, .int p3] w P) (hP : ∀ o w1, P o w1 → (∃ r, o = .inl (some (.int r))) ∨ ∃ E, o = .inr E ∧ (E = "java/lang/IndexOutOfBoundsException" ∨ E = "java/lang/IllegalArgumentException" ∨ E = "java/lang/IllegalStateException")) : MI l k yL_receive (.codeWith yL_receive cL_receive 6 (some .int) [(0, 12, 15, 13), (0, 12, 19, 15), (0, 12, 23, 17)]) rmL_receive [.ref b, .int p1, .int p2, .int p3, .ref ao] (wu w (oW k ao f)) (fun o w2 => ∃ w1 f1, w2 = wu w1 (oW k ao f1) ∧ DJ w1 (oW k ao f1) ∧ ((∃ r, P (.inl (some (.int r))) w1 ∧ o = .inl (some (.int 0)) ∧ f1 0 = r.toInt64) ∨ ∃ E, P (.inr E) w1 ∧ o = .inl (some (.int (xcIAS E))))) := by
  refine ML.of 1 hl (by decide) (Nat.le_of_ble_eq_true rfl) ?_
  intro p e s m args below meth c A Q G B ht
  show Wx p l e rmL_receive s m args below meth c k A 6 Q 1 6 0 [some (.ref b), some (.int p1), some (.int p2), some (.int p3), some (.ref ao), none] [] (wu w (oW k ao f))
  refine x_aload4 (pc := 0) G dL_receive_0 ?_
  refine x_iconst (pc := 2) (v := 0) G dL_receive_2 (by decide) ?_
  refine x_aload0 (pc := 3) G dL_receive_3 ?_
  refine x_iload1 (pc := 4) G dL_receive_4 ?_
  refine x_iload2 (pc := 5) G dL_receive_5 ?_
  refine x_iload3 (pc := 6) G dL_receive_6 ?_
  refine x_callV (pc := 7) (bc1 := 0) (bs1 := 0) (n := 3) (As := [.int p1, .int p2, .int p3]) G (hC.frame hd) (List.mem_append_left _ hb) ((if_pos hb).trans hbf) kb_11.2.2.2.1 q_ml_L_79 q_im_yX10_receive q_se_yX10_receive q_in_X10 q_co_yX10_receive ⟨by decide, by decide, by decide +kernel⟩ ⟨Nat.le_of_ble_eq_true rfl, Nat.le_of_ble_eq_true rfl⟩ (Nat.le_of_ble_eq_true rfl) (Nat.le_of_ble_eq_true rfl) (Nat.le_of_ble_eq_true rfl) rfl rfl dL_receive_7 (fun v w9 hp => ?_) (fun E w9 hp => ?_)
  · obtain ⟨w1, hp1, hd1, rfl⟩ := hp
    obtain ⟨r, hv⟩ : ∃ r, v = some (.int r) := by
      rcases hP _ _ hp1 with ⟨r, z⟩ | ⟨E, z, _⟩
      · exact ⟨r, Sum.inl.inj z⟩
      · cases z
    subst hv
    refine x_i2l (pc := 10) G dL_receive_10 ?_
    refine x_lald0 (pc := 11) G hd1 dL_receive_11 ?_
    refine x_goto (pc := 12) (tgt := 27) G dL_receive_12 rfl ?_
    refine x_iconst (pc := 27) (v := 0) G dL_receive_27 (by decide) ?_
    exact x_iret (pc := 28) G B rfl dL_receive_28 ⟨w1, _, rfl, hd1, Or.inl ⟨r, hp1, rfl, up0⟩⟩
  · obtain ⟨w1, hp1, hd1, rfl⟩ := hp
    have hE : E = "java/lang/IndexOutOfBoundsException" ∨ E = "java/lang/IllegalArgumentException" ∨ E = "java/lang/IllegalStateException" := by
      rcases hP _ _ hp1 with ⟨r, z⟩ | ⟨E9, z, hE⟩
      · cases z
      · cases z; exact hE
    rcases hE with rfl | rfl | rfl
    · refine x_catch (pc := 7) G (name := "java/lang/IndexOutOfBoundsException") [] ({ startPc := 0, endPc := 12, handlerPc := 15, catchType := 13 } : ExceptionTableEntry) [({ startPc := 0, endPc := 12, handlerPc := 19, catchType := 15 } : ExceptionTableEntry), ({ startPc := 0, endPc := 12, handlerPc := 23, catchType := 17 } : ExceptionTableEntry)] (ht.trans rfl) (fun z hz => (List.not_mem_nil hz).elim) (by decide) (by decide) q_cl_L_13 (by decide) (fun q => ?_)
      refine x_astore5 (pc := 15) G dL_receive_15 (by decide) rfl ?_
      refine x_iconst (pc := 17) (v := 1) G dL_receive_17 (by decide) ?_
      exact x_iret (pc := 18) G B rfl dL_receive_18 ⟨w1, _, rfl, hd1, Or.inr ⟨_, hp1, congrArg (fun z => Sum.inl (some (Value.int z))) xIAS_I.symm⟩⟩
    · refine x_catch (pc := 7) G (name := "java/lang/IllegalArgumentException") [({ startPc := 0, endPc := 12, handlerPc := 15, catchType := 13 } : ExceptionTableEntry)] ({ startPc := 0, endPc := 12, handlerPc := 19, catchType := 15 } : ExceptionTableEntry) [({ startPc := 0, endPc := 12, handlerPc := 23, catchType := 17 } : ExceptionTableEntry)] (ht.trans rfl) (fun z hz => by
        simp only [List.mem_cons, List.not_mem_nil, or_false] at hz
        rcases hz with rfl
        · exact ⟨by decide, _, q_cl_L_13, by decide⟩) (by decide) (by decide) q_cl_L_15 (by decide) (fun q => ?_)
      refine x_astore5 (pc := 19) G dL_receive_19 (by decide) rfl ?_
      refine x_iconst (pc := 21) (v := 2) G dL_receive_21 (by decide) ?_
      exact x_iret (pc := 22) G B rfl dL_receive_22 ⟨w1, _, rfl, hd1, Or.inr ⟨_, hp1, congrArg (fun z => Sum.inl (some (Value.int z))) xIAS_A.symm⟩⟩
    · refine x_catch (pc := 7) G (name := "java/lang/IllegalStateException") [({ startPc := 0, endPc := 12, handlerPc := 15, catchType := 13 } : ExceptionTableEntry), ({ startPc := 0, endPc := 12, handlerPc := 19, catchType := 15 } : ExceptionTableEntry)] ({ startPc := 0, endPc := 12, handlerPc := 23, catchType := 17 } : ExceptionTableEntry) [] (ht.trans rfl) (fun z hz => by
        simp only [List.mem_cons, List.not_mem_nil, or_false] at hz
        rcases hz with rfl | rfl
        · exact ⟨by decide, _, q_cl_L_13, by decide⟩
        · exact ⟨by decide, _, q_cl_L_15, by decide⟩) (by decide) (by decide) q_cl_L_17 (by decide) (fun q => ?_)
      refine x_astore5 (pc := 23) G dL_receive_23 (by decide) rfl ?_
      refine x_iconst (pc := 25) (v := 3) G dL_receive_25 (by decide) ?_
      exact x_iret (pc := 26) G B rfl dL_receive_26 ⟨w1, _, rfl, hd1, Or.inr ⟨_, hp1, congrArg (fun z => Sum.inl (some (Value.int z))) xIAS_S.symm⟩⟩
theorem q_cw_change : Cond.codeWith yL_change cL_change 6 (some .int) [(0, 12, 15, 13), (0, 12, 19, 15), (0, 12, 23, 17)] ∈ TB := tb_i 813 (by decide +kernel) (by decide +kernel)
theorem dL_change_0 : decode cL_change 0 = .ok (.aload 4, 2) := by decide +kernel
theorem dL_change_2 : decode cL_change 2 = .ok (.iconst 0, 1) := by decide +kernel
theorem dL_change_3 : decode cL_change 3 = .ok (.aload_n 0, 1) := by decide +kernel
theorem dL_change_4 : decode cL_change 4 = .ok (.iload_n 1, 1) := by decide +kernel
theorem dL_change_5 : decode cL_change 5 = .ok (.iload_n 2, 1) := by decide +kernel
theorem dL_change_6 : decode cL_change 6 = .ok (.iload_n 3, 1) := by decide +kernel
theorem dL_change_7 : decode cL_change 7 = .ok (.invokevirtual 82, 3) := by decide +kernel
theorem dL_change_10 : decode cL_change 10 = .ok (.i2l, 1) := by decide +kernel
theorem dL_change_11 : decode cL_change 11 = .ok (.lastore, 1) := by decide +kernel
theorem dL_change_12 : decode cL_change 12 = .ok (.goto 15, 3) := by decide +kernel
theorem dL_change_15 : decode cL_change 15 = .ok (.astore 5, 2) := by decide +kernel
theorem dL_change_17 : decode cL_change 17 = .ok (.iconst 1, 1) := by decide +kernel
theorem dL_change_18 : decode cL_change 18 = .ok (.ireturn, 1) := by decide +kernel
theorem dL_change_19 : decode cL_change 19 = .ok (.astore 5, 2) := by decide +kernel
theorem dL_change_21 : decode cL_change 21 = .ok (.iconst 2, 1) := by decide +kernel
theorem dL_change_22 : decode cL_change 22 = .ok (.ireturn, 1) := by decide +kernel
theorem dL_change_23 : decode cL_change 23 = .ok (.astore 5, 2) := by decide +kernel
theorem dL_change_25 : decode cL_change 25 = .ok (.iconst 3, 1) := by decide +kernel
theorem dL_change_26 : decode cL_change 26 = .ok (.ireturn, 1) := by decide +kernel
theorem dL_change_27 : decode cL_change 27 = .ok (.iconst 0, 1) := by decide +kernel
theorem dL_change_28 : decode cL_change 28 = .ok (.ireturn, 1) := by decide +kernel
abbrev rmL_change : Room := { frames := 13, cells := 1, slots := 6, locals := 256 }
set_option maxRecDepth 100000 in
set_option maxHeartbeats 4000000 in
theorem ch_change {l : Launch} {k : KC} (hl : l.stackTraces = false) {w : Wd} {b : Nat} {fs : List Value} (hb : b ∈ w.1) (hbf : w.2 b = .inr (11, fs)) {ao : Nat} {f : Nat → Int64} (hd : DJ w (oW k ao f)) {p1 p2 p3 : Int32} {P : Out → Wd → Prop} (hC : MC l k yX10_change (.code yX10_change cX10_change 8 (some .int)) rmt_X10_change [.ref b, .int p1, .int p2, .int p3] w P) (hP : ∀ o w1, P o w1 → (∃ r, o = .inl (some (.int r))) ∨ ∃ E, o = .inr E ∧ (E = "java/lang/IndexOutOfBoundsException" ∨ E = "java/lang/IllegalArgumentException" ∨ E = "java/lang/IllegalStateException")) : MI l k yL_change (.codeWith yL_change cL_change 6 (some .int) [(0, 12, 15, 13), (0, 12, 19, 15), (0, 12, 23, 17)]) rmL_change [.ref b, .int p1, .int p2, .int p3, .ref ao] (wu w (oW k ao f)) (fun o w2 => ∃ w1 f1, w2 = wu w1 (oW k ao f1) ∧ DJ w1 (oW k ao f1) ∧ ((∃ r, P (.inl (some (.int r))) w1 ∧ o = .inl (some (.int 0)) ∧ f1 0 = r.toInt64) ∨ ∃ E, P (.inr E) w1 ∧ o = .inl (some (.int (xcIAS E))))) := by
  refine ML.of 1 hl (by decide) (Nat.le_of_ble_eq_true rfl) ?_
  intro p e s m args below meth c A Q G B ht
  show Wx p l e rmL_change s m args below meth c k A 6 Q 1 6 0 [some (.ref b), some (.int p1), some (.int p2), some (.int p3), some (.ref ao), none] [] (wu w (oW k ao f))
  refine x_aload4 (pc := 0) G dL_change_0 ?_
  refine x_iconst (pc := 2) (v := 0) G dL_change_2 (by decide) ?_
  refine x_aload0 (pc := 3) G dL_change_3 ?_
  refine x_iload1 (pc := 4) G dL_change_4 ?_
  refine x_iload2 (pc := 5) G dL_change_5 ?_
  refine x_iload3 (pc := 6) G dL_change_6 ?_
  refine x_callV (pc := 7) (bc1 := 0) (bs1 := 0) (n := 3) (As := [.int p1, .int p2, .int p3]) G (hC.frame hd) (List.mem_append_left _ hb) ((if_pos hb).trans hbf) kb_11.2.2.2.1 q_ml_L_82 q_im_yX10_change q_se_yX10_change q_in_X10 q_co_yX10_change ⟨by decide, by decide, by decide +kernel⟩ ⟨Nat.le_of_ble_eq_true rfl, Nat.le_of_ble_eq_true rfl⟩ (Nat.le_of_ble_eq_true rfl) (Nat.le_of_ble_eq_true rfl) (Nat.le_of_ble_eq_true rfl) rfl rfl dL_change_7 (fun v w9 hp => ?_) (fun E w9 hp => ?_)
  · obtain ⟨w1, hp1, hd1, rfl⟩ := hp
    obtain ⟨r, hv⟩ : ∃ r, v = some (.int r) := by
      rcases hP _ _ hp1 with ⟨r, z⟩ | ⟨E, z, _⟩
      · exact ⟨r, Sum.inl.inj z⟩
      · cases z
    subst hv
    refine x_i2l (pc := 10) G dL_change_10 ?_
    refine x_lald0 (pc := 11) G hd1 dL_change_11 ?_
    refine x_goto (pc := 12) (tgt := 27) G dL_change_12 rfl ?_
    refine x_iconst (pc := 27) (v := 0) G dL_change_27 (by decide) ?_
    exact x_iret (pc := 28) G B rfl dL_change_28 ⟨w1, _, rfl, hd1, Or.inl ⟨r, hp1, rfl, up0⟩⟩
  · obtain ⟨w1, hp1, hd1, rfl⟩ := hp
    have hE : E = "java/lang/IndexOutOfBoundsException" ∨ E = "java/lang/IllegalArgumentException" ∨ E = "java/lang/IllegalStateException" := by
      rcases hP _ _ hp1 with ⟨r, z⟩ | ⟨E9, z, hE⟩
      · cases z
      · cases z; exact hE
    rcases hE with rfl | rfl | rfl
    · refine x_catch (pc := 7) G (name := "java/lang/IndexOutOfBoundsException") [] ({ startPc := 0, endPc := 12, handlerPc := 15, catchType := 13 } : ExceptionTableEntry) [({ startPc := 0, endPc := 12, handlerPc := 19, catchType := 15 } : ExceptionTableEntry), ({ startPc := 0, endPc := 12, handlerPc := 23, catchType := 17 } : ExceptionTableEntry)] (ht.trans rfl) (fun z hz => (List.not_mem_nil hz).elim) (by decide) (by decide) q_cl_L_13 (by decide) (fun q => ?_)
      refine x_astore5 (pc := 15) G dL_change_15 (by decide) rfl ?_
      refine x_iconst (pc := 17) (v := 1) G dL_change_17 (by decide) ?_
      exact x_iret (pc := 18) G B rfl dL_change_18 ⟨w1, _, rfl, hd1, Or.inr ⟨_, hp1, congrArg (fun z => Sum.inl (some (Value.int z))) xIAS_I.symm⟩⟩
    · refine x_catch (pc := 7) G (name := "java/lang/IllegalArgumentException") [({ startPc := 0, endPc := 12, handlerPc := 15, catchType := 13 } : ExceptionTableEntry)] ({ startPc := 0, endPc := 12, handlerPc := 19, catchType := 15 } : ExceptionTableEntry) [({ startPc := 0, endPc := 12, handlerPc := 23, catchType := 17 } : ExceptionTableEntry)] (ht.trans rfl) (fun z hz => by
        simp only [List.mem_cons, List.not_mem_nil, or_false] at hz
        rcases hz with rfl
        · exact ⟨by decide, _, q_cl_L_13, by decide⟩) (by decide) (by decide) q_cl_L_15 (by decide) (fun q => ?_)
      refine x_astore5 (pc := 19) G dL_change_19 (by decide) rfl ?_
      refine x_iconst (pc := 21) (v := 2) G dL_change_21 (by decide) ?_
      exact x_iret (pc := 22) G B rfl dL_change_22 ⟨w1, _, rfl, hd1, Or.inr ⟨_, hp1, congrArg (fun z => Sum.inl (some (Value.int z))) xIAS_A.symm⟩⟩
    · refine x_catch (pc := 7) G (name := "java/lang/IllegalStateException") [({ startPc := 0, endPc := 12, handlerPc := 15, catchType := 13 } : ExceptionTableEntry), ({ startPc := 0, endPc := 12, handlerPc := 19, catchType := 15 } : ExceptionTableEntry)] ({ startPc := 0, endPc := 12, handlerPc := 23, catchType := 17 } : ExceptionTableEntry) [] (ht.trans rfl) (fun z hz => by
        simp only [List.mem_cons, List.not_mem_nil, or_false] at hz
        rcases hz with rfl | rfl
        · exact ⟨by decide, _, q_cl_L_13, by decide⟩
        · exact ⟨by decide, _, q_cl_L_15, by decide⟩) (by decide) (by decide) q_cl_L_17 (by decide) (fun q => ?_)
      refine x_astore5 (pc := 23) G dL_change_23 (by decide) rfl ?_
      refine x_iconst (pc := 25) (v := 3) G dL_change_25 (by decide) ?_
      exact x_iret (pc := 26) G B rfl dL_change_26 ⟨w1, _, rfl, hd1, Or.inr ⟨_, hp1, congrArg (fun z => Sum.inl (some (Value.int z))) xIAS_S.symm⟩⟩
theorem q_cw_end : Cond.codeWith yL_end cL_end 4 (some .int) [(0, 8, 11, 13), (0, 8, 14, 17)] ∈ TB := tb_i 824 (by decide +kernel) (by decide +kernel)
theorem dL_end_0 : decode cL_end 0 = .ok (.aload_n 2, 1) := by decide +kernel
theorem dL_end_1 : decode cL_end 1 = .ok (.iconst 0, 1) := by decide +kernel
theorem dL_end_2 : decode cL_end 2 = .ok (.aload_n 0, 1) := by decide +kernel
theorem dL_end_3 : decode cL_end 3 = .ok (.iload_n 1, 1) := by decide +kernel
theorem dL_end_4 : decode cL_end 4 = .ok (.invokevirtual 85, 3) := by decide +kernel
theorem dL_end_7 : decode cL_end 7 = .ok (.lastore, 1) := by decide +kernel
theorem dL_end_8 : decode cL_end 8 = .ok (.goto 9, 3) := by decide +kernel
theorem dL_end_11 : decode cL_end 11 = .ok (.astore_n 3, 1) := by decide +kernel
theorem dL_end_12 : decode cL_end 12 = .ok (.iconst 1, 1) := by decide +kernel
theorem dL_end_13 : decode cL_end 13 = .ok (.ireturn, 1) := by decide +kernel
theorem dL_end_14 : decode cL_end 14 = .ok (.astore_n 3, 1) := by decide +kernel
theorem dL_end_15 : decode cL_end 15 = .ok (.iconst 2, 1) := by decide +kernel
theorem dL_end_16 : decode cL_end 16 = .ok (.ireturn, 1) := by decide +kernel
theorem dL_end_17 : decode cL_end 17 = .ok (.iconst 0, 1) := by decide +kernel
theorem dL_end_18 : decode cL_end 18 = .ok (.ireturn, 1) := by decide +kernel
abbrev rmL_end : Room := { frames := 11, cells := 1, slots := 6, locals := 200 }
set_option maxRecDepth 100000 in
set_option maxHeartbeats 4000000 in
theorem ch_end {l : Launch} {k : KC} (hl : l.stackTraces = false) {w : Wd} {b : Nat} {fs : List Value} (hb : b ∈ w.1) (hbf : w.2 b = .inr (11, fs)) {ao : Nat} {f : Nat → Int64} (hd : DJ w (oW k ao f)) {p1 : Int32} {P : Out → Wd → Prop} (hC : MC l k yX10_end (.code yX10_end cX10_end 3 (some .long)) rmt_X10_end [.ref b, .int p1] w P) (hP : ∀ o w1, P o w1 → (∃ r, o = .inl (some (.long r))) ∨ ∃ E, o = .inr E ∧ (E = "java/lang/IndexOutOfBoundsException" ∨ E = "java/lang/IllegalStateException")) : MI l k yL_end (.codeWith yL_end cL_end 4 (some .int) [(0, 8, 11, 13), (0, 8, 14, 17)]) rmL_end [.ref b, .int p1, .ref ao] (wu w (oW k ao f)) (fun o w2 => ∃ w1 f1, w2 = wu w1 (oW k ao f1) ∧ DJ w1 (oW k ao f1) ∧ ((∃ r, P (.inl (some (.long r))) w1 ∧ o = .inl (some (.int 0)) ∧ f1 0 = r) ∨ ∃ E, P (.inr E) w1 ∧ o = .inl (some (.int (xcIS E))))) := by
  refine ML.of 1 hl (by decide) (Nat.le_of_ble_eq_true rfl) ?_
  intro p e s m args below meth c A Q G B ht
  show Wx p l e rmL_end s m args below meth c k A 4 Q 1 6 0 [some (.ref b), some (.int p1), some (.ref ao), none] [] (wu w (oW k ao f))
  refine x_aload2 (pc := 0) G dL_end_0 ?_
  refine x_iconst (pc := 1) (v := 0) G dL_end_1 (by decide) ?_
  refine x_aload0 (pc := 2) G dL_end_2 ?_
  refine x_iload1 (pc := 3) G dL_end_3 ?_
  refine x_callV (pc := 4) (bc1 := 0) (bs1 := 0) (n := 1) (As := [.int p1]) G (hC.frame hd) (List.mem_append_left _ hb) ((if_pos hb).trans hbf) kb_11.2.2.2.1 q_ml_L_85 q_im_yX10_end q_se_yX10_end q_in_X10 q_co_yX10_end ⟨by decide, by decide, by decide +kernel⟩ ⟨Nat.le_of_ble_eq_true rfl, Nat.le_of_ble_eq_true rfl⟩ (Nat.le_of_ble_eq_true rfl) (Nat.le_of_ble_eq_true rfl) (Nat.le_of_ble_eq_true rfl) rfl rfl dL_end_4 (fun v w9 hp => ?_) (fun E w9 hp => ?_)
  · obtain ⟨w1, hp1, hd1, rfl⟩ := hp
    obtain ⟨r, hv⟩ : ∃ r, v = some (.long r) := by
      rcases hP _ _ hp1 with ⟨r, z⟩ | ⟨E, z, _⟩
      · exact ⟨r, Sum.inl.inj z⟩
      · cases z
    subst hv
    refine x_lald0 (pc := 7) G hd1 dL_end_7 ?_
    refine x_goto (pc := 8) (tgt := 17) G dL_end_8 rfl ?_
    refine x_iconst (pc := 17) (v := 0) G dL_end_17 (by decide) ?_
    exact x_iret (pc := 18) G B rfl dL_end_18 ⟨w1, _, rfl, hd1, Or.inl ⟨r, hp1, rfl, up0⟩⟩
  · obtain ⟨w1, hp1, hd1, rfl⟩ := hp
    have hE : E = "java/lang/IndexOutOfBoundsException" ∨ E = "java/lang/IllegalStateException" := by
      rcases hP _ _ hp1 with ⟨r, z⟩ | ⟨E9, z, hE⟩
      · cases z
      · cases z; exact hE
    rcases hE with rfl | rfl
    · refine x_catch (pc := 4) G (name := "java/lang/IndexOutOfBoundsException") [] ({ startPc := 0, endPc := 8, handlerPc := 11, catchType := 13 } : ExceptionTableEntry) [({ startPc := 0, endPc := 8, handlerPc := 14, catchType := 17 } : ExceptionTableEntry)] (ht.trans rfl) (fun z hz => (List.not_mem_nil hz).elim) (by decide) (by decide) q_cl_L_13 (by decide) (fun q => ?_)
      refine x_astore3 (pc := 11) G dL_end_11 (by decide) rfl ?_
      refine x_iconst (pc := 12) (v := 1) G dL_end_12 (by decide) ?_
      exact x_iret (pc := 13) G B rfl dL_end_13 ⟨w1, _, rfl, hd1, Or.inr ⟨_, hp1, congrArg (fun z => Sum.inl (some (Value.int z))) xIS_I.symm⟩⟩
    · refine x_catch (pc := 4) G (name := "java/lang/IllegalStateException") [({ startPc := 0, endPc := 8, handlerPc := 11, catchType := 13 } : ExceptionTableEntry)] ({ startPc := 0, endPc := 8, handlerPc := 14, catchType := 17 } : ExceptionTableEntry) [] (ht.trans rfl) (fun z hz => by
        simp only [List.mem_cons, List.not_mem_nil, or_false] at hz
        rcases hz with rfl
        · exact ⟨by decide, _, q_cl_L_13, by decide⟩) (by decide) (by decide) q_cl_L_17 (by decide) (fun q => ?_)
      refine x_astore3 (pc := 14) G dL_end_14 (by decide) rfl ?_
      refine x_iconst (pc := 15) (v := 2) G dL_end_15 (by decide) ?_
      exact x_iret (pc := 16) G B rfl dL_end_16 ⟨w1, _, rfl, hd1, Or.inr ⟨_, hp1, congrArg (fun z => Sum.inl (some (Value.int z))) xIS_S.symm⟩⟩
theorem q_cw_invoice : Cond.codeWith yL_invoice cL_invoice 7 (some .int) [(0, 14, 17, 13), (0, 14, 21, 15), (0, 14, 25, 17)] ∈ TB := tb_i 836 (by decide +kernel) (by decide +kernel)
theorem dL_invoice_0 : decode cL_invoice 0 = .ok (.aload 5, 2) := by decide +kernel
theorem dL_invoice_2 : decode cL_invoice 2 = .ok (.iconst 0, 1) := by decide +kernel
theorem dL_invoice_3 : decode cL_invoice 3 = .ok (.aload_n 0, 1) := by decide +kernel
theorem dL_invoice_4 : decode cL_invoice 4 = .ok (.iload_n 1, 1) := by decide +kernel
theorem dL_invoice_5 : decode cL_invoice 5 = .ok (.iload_n 2, 1) := by decide +kernel
theorem dL_invoice_6 : decode cL_invoice 6 = .ok (.iload_n 3, 1) := by decide +kernel
theorem dL_invoice_7 : decode cL_invoice 7 = .ok (.iload 4, 2) := by decide +kernel
theorem dL_invoice_9 : decode cL_invoice 9 = .ok (.invokevirtual 89, 3) := by decide +kernel
theorem dL_invoice_12 : decode cL_invoice 12 = .ok (.i2l, 1) := by decide +kernel
theorem dL_invoice_13 : decode cL_invoice 13 = .ok (.lastore, 1) := by decide +kernel
theorem dL_invoice_14 : decode cL_invoice 14 = .ok (.goto 15, 3) := by decide +kernel
theorem dL_invoice_17 : decode cL_invoice 17 = .ok (.astore 6, 2) := by decide +kernel
theorem dL_invoice_19 : decode cL_invoice 19 = .ok (.iconst 1, 1) := by decide +kernel
theorem dL_invoice_20 : decode cL_invoice 20 = .ok (.ireturn, 1) := by decide +kernel
theorem dL_invoice_21 : decode cL_invoice 21 = .ok (.astore 6, 2) := by decide +kernel
theorem dL_invoice_23 : decode cL_invoice 23 = .ok (.iconst 2, 1) := by decide +kernel
theorem dL_invoice_24 : decode cL_invoice 24 = .ok (.ireturn, 1) := by decide +kernel
theorem dL_invoice_25 : decode cL_invoice 25 = .ok (.astore 6, 2) := by decide +kernel
theorem dL_invoice_27 : decode cL_invoice 27 = .ok (.iconst 3, 1) := by decide +kernel
theorem dL_invoice_28 : decode cL_invoice 28 = .ok (.ireturn, 1) := by decide +kernel
theorem dL_invoice_29 : decode cL_invoice 29 = .ok (.iconst 0, 1) := by decide +kernel
theorem dL_invoice_30 : decode cL_invoice 30 = .ok (.ireturn, 1) := by decide +kernel
abbrev rmL_invoice : Room := { frames := 13, cells := 2, slots := 91, locals := 268 }
set_option maxRecDepth 100000 in
set_option maxHeartbeats 4000000 in
theorem ch_invoice {l : Launch} {k : KC} (hl : l.stackTraces = false) {w : Wd} {b : Nat} {fs : List Value} (hb : b ∈ w.1) (hbf : w.2 b = .inr (11, fs)) {ao : Nat} {f : Nat → Int64} (hd : DJ w (oW k ao f)) {p1 p2 p3 p4 : Int32} {P : Out → Wd → Prop} (hC : MC l k yX10_invoice (.code yX10_invoice cX10_invoice 9 (some .int)) rma_invoice [.ref b, .int p1, .int p2, .int p3, .int p4] w P) (hP : ∀ o w1, P o w1 → (∃ r, o = .inl (some (.int r))) ∨ ∃ E, o = .inr E ∧ (E = "java/lang/IndexOutOfBoundsException" ∨ E = "java/lang/IllegalArgumentException" ∨ E = "java/lang/IllegalStateException")) : MI l k yL_invoice (.codeWith yL_invoice cL_invoice 7 (some .int) [(0, 14, 17, 13), (0, 14, 21, 15), (0, 14, 25, 17)]) rmL_invoice [.ref b, .int p1, .int p2, .int p3, .int p4, .ref ao] (wu w (oW k ao f)) (fun o w2 => ∃ w1 f1, w2 = wu w1 (oW k ao f1) ∧ DJ w1 (oW k ao f1) ∧ ((∃ r, P (.inl (some (.int r))) w1 ∧ o = .inl (some (.int 0)) ∧ f1 0 = r.toInt64) ∨ ∃ E, P (.inr E) w1 ∧ o = .inl (some (.int (xcIAS E))))) := by
  refine ML.of 1 hl (by decide) (Nat.le_of_ble_eq_true rfl) ?_
  intro p e s m args below meth c A Q G B ht
  show Wx p l e rmL_invoice s m args below meth c k A 7 Q 2 91 0 [some (.ref b), some (.int p1), some (.int p2), some (.int p3), some (.int p4), some (.ref ao), none] [] (wu w (oW k ao f))
  refine x_aload5 (pc := 0) G dL_invoice_0 ?_
  refine x_iconst (pc := 2) (v := 0) G dL_invoice_2 (by decide) ?_
  refine x_aload0 (pc := 3) G dL_invoice_3 ?_
  refine x_iload1 (pc := 4) G dL_invoice_4 ?_
  refine x_iload2 (pc := 5) G dL_invoice_5 ?_
  refine x_iload3 (pc := 6) G dL_invoice_6 ?_
  refine x_iload4 (pc := 7) G dL_invoice_7 ?_
  refine x_callV (pc := 9) (bc1 := 0) (bs1 := 0) (n := 4) (As := [.int p1, .int p2, .int p3, .int p4]) G (hC.frame hd) (List.mem_append_left _ hb) ((if_pos hb).trans hbf) kb_11.2.2.2.1 q_ml_L_89 q_im_yX10_invoice q_se_yX10_invoice q_in_X10 q_co_yX10_invoice ⟨by decide, by decide, by decide +kernel⟩ ⟨Nat.le_of_ble_eq_true rfl, Nat.le_of_ble_eq_true rfl⟩ (Nat.le_of_ble_eq_true rfl) (Nat.le_of_ble_eq_true rfl) (Nat.le_of_ble_eq_true rfl) rfl rfl dL_invoice_9 (fun v w9 hp => ?_) (fun E w9 hp => ?_)
  · obtain ⟨w1, hp1, hd1, rfl⟩ := hp
    obtain ⟨r, hv⟩ : ∃ r, v = some (.int r) := by
      rcases hP _ _ hp1 with ⟨r, z⟩ | ⟨E, z, _⟩
      · exact ⟨r, Sum.inl.inj z⟩
      · cases z
    subst hv
    refine x_i2l (pc := 12) G dL_invoice_12 ?_
    refine x_lald0 (pc := 13) G hd1 dL_invoice_13 ?_
    refine x_goto (pc := 14) (tgt := 29) G dL_invoice_14 rfl ?_
    refine x_iconst (pc := 29) (v := 0) G dL_invoice_29 (by decide) ?_
    exact x_iret (pc := 30) G B rfl dL_invoice_30 ⟨w1, _, rfl, hd1, Or.inl ⟨r, hp1, rfl, up0⟩⟩
  · obtain ⟨w1, hp1, hd1, rfl⟩ := hp
    have hE : E = "java/lang/IndexOutOfBoundsException" ∨ E = "java/lang/IllegalArgumentException" ∨ E = "java/lang/IllegalStateException" := by
      rcases hP _ _ hp1 with ⟨r, z⟩ | ⟨E9, z, hE⟩
      · cases z
      · cases z; exact hE
    rcases hE with rfl | rfl | rfl
    · refine x_catch (pc := 9) G (name := "java/lang/IndexOutOfBoundsException") [] ({ startPc := 0, endPc := 14, handlerPc := 17, catchType := 13 } : ExceptionTableEntry) [({ startPc := 0, endPc := 14, handlerPc := 21, catchType := 15 } : ExceptionTableEntry), ({ startPc := 0, endPc := 14, handlerPc := 25, catchType := 17 } : ExceptionTableEntry)] (ht.trans rfl) (fun z hz => (List.not_mem_nil hz).elim) (by decide) (by decide) q_cl_L_13 (by decide) (fun q => ?_)
      refine x_astore6 (pc := 17) G dL_invoice_17 (by decide) rfl ?_
      refine x_iconst (pc := 19) (v := 1) G dL_invoice_19 (by decide) ?_
      exact x_iret (pc := 20) G B rfl dL_invoice_20 ⟨w1, _, rfl, hd1, Or.inr ⟨_, hp1, congrArg (fun z => Sum.inl (some (Value.int z))) xIAS_I.symm⟩⟩
    · refine x_catch (pc := 9) G (name := "java/lang/IllegalArgumentException") [({ startPc := 0, endPc := 14, handlerPc := 17, catchType := 13 } : ExceptionTableEntry)] ({ startPc := 0, endPc := 14, handlerPc := 21, catchType := 15 } : ExceptionTableEntry) [({ startPc := 0, endPc := 14, handlerPc := 25, catchType := 17 } : ExceptionTableEntry)] (ht.trans rfl) (fun z hz => by
        simp only [List.mem_cons, List.not_mem_nil, or_false] at hz
        rcases hz with rfl
        · exact ⟨by decide, _, q_cl_L_13, by decide⟩) (by decide) (by decide) q_cl_L_15 (by decide) (fun q => ?_)
      refine x_astore6 (pc := 21) G dL_invoice_21 (by decide) rfl ?_
      refine x_iconst (pc := 23) (v := 2) G dL_invoice_23 (by decide) ?_
      exact x_iret (pc := 24) G B rfl dL_invoice_24 ⟨w1, _, rfl, hd1, Or.inr ⟨_, hp1, congrArg (fun z => Sum.inl (some (Value.int z))) xIAS_A.symm⟩⟩
    · refine x_catch (pc := 9) G (name := "java/lang/IllegalStateException") [({ startPc := 0, endPc := 14, handlerPc := 17, catchType := 13 } : ExceptionTableEntry), ({ startPc := 0, endPc := 14, handlerPc := 21, catchType := 15 } : ExceptionTableEntry)] ({ startPc := 0, endPc := 14, handlerPc := 25, catchType := 17 } : ExceptionTableEntry) [] (ht.trans rfl) (fun z hz => by
        simp only [List.mem_cons, List.not_mem_nil, or_false] at hz
        rcases hz with rfl | rfl
        · exact ⟨by decide, _, q_cl_L_13, by decide⟩
        · exact ⟨by decide, _, q_cl_L_15, by decide⟩) (by decide) (by decide) q_cl_L_17 (by decide) (fun q => ?_)
      refine x_astore6 (pc := 25) G dL_invoice_25 (by decide) rfl ?_
      refine x_iconst (pc := 27) (v := 3) G dL_invoice_27 (by decide) ?_
      exact x_iret (pc := 28) G B rfl dL_invoice_28 ⟨w1, _, rfl, hd1, Or.inr ⟨_, hp1, congrArg (fun z => Sum.inl (some (Value.int z))) xIAS_S.symm⟩⟩
theorem q_cw_letGo : Cond.codeWith yL_letGo cL_letGo 5 (some .int) [(0, 17, 20, 13), (0, 17, 24, 17)] ∈ TB := tb_i 926 (by decide +kernel) (by decide +kernel)
theorem dL_letGo_0 : decode cL_letGo 0 = .ok (.aload_n 3, 1) := by decide +kernel
theorem dL_letGo_1 : decode cL_letGo 1 = .ok (.iconst 0, 1) := by decide +kernel
theorem dL_letGo_2 : decode cL_letGo 2 = .ok (.aload_n 0, 1) := by decide +kernel
theorem dL_letGo_3 : decode cL_letGo 3 = .ok (.iload_n 1, 1) := by decide +kernel
theorem dL_letGo_4 : decode cL_letGo 4 = .ok (.iload_n 2, 1) := by decide +kernel
theorem dL_letGo_5 : decode cL_letGo 5 = .ok (.invokevirtual 93, 3) := by decide +kernel
theorem dL_letGo_8 : decode cL_letGo 8 = .ok (.ifCond .eq 7, 3) := by decide +kernel
theorem dL_letGo_11 : decode cL_letGo 11 = .ok (.lconst 1, 1) := by decide +kernel
theorem dL_letGo_12 : decode cL_letGo 12 = .ok (.goto 4, 3) := by decide +kernel
theorem dL_letGo_15 : decode cL_letGo 15 = .ok (.lconst 0, 1) := by decide +kernel
theorem dL_letGo_16 : decode cL_letGo 16 = .ok (.lastore, 1) := by decide +kernel
theorem dL_letGo_17 : decode cL_letGo 17 = .ok (.goto 11, 3) := by decide +kernel
theorem dL_letGo_20 : decode cL_letGo 20 = .ok (.astore 4, 2) := by decide +kernel
theorem dL_letGo_22 : decode cL_letGo 22 = .ok (.iconst 1, 1) := by decide +kernel
theorem dL_letGo_23 : decode cL_letGo 23 = .ok (.ireturn, 1) := by decide +kernel
theorem dL_letGo_24 : decode cL_letGo 24 = .ok (.astore 4, 2) := by decide +kernel
theorem dL_letGo_26 : decode cL_letGo 26 = .ok (.iconst 2, 1) := by decide +kernel
theorem dL_letGo_27 : decode cL_letGo 27 = .ok (.ireturn, 1) := by decide +kernel
theorem dL_letGo_28 : decode cL_letGo 28 = .ok (.iconst 0, 1) := by decide +kernel
theorem dL_letGo_29 : decode cL_letGo 29 = .ok (.ireturn, 1) := by decide +kernel
abbrev rmL_letGo : Room := { frames := 13, cells := 1, slots := 6, locals := 250 }
set_option maxRecDepth 100000 in
set_option maxHeartbeats 4000000 in
theorem ch_letGo {l : Launch} {k : KC} (hl : l.stackTraces = false) {w : Wd} {b : Nat} {fs : List Value} (hb : b ∈ w.1) (hbf : w.2 b = .inr (11, fs)) {ao : Nat} {f : Nat → Int64} (hd : DJ w (oW k ao f)) {p1 p2 : Int32} {P : Out → Wd → Prop} (hC : MC l k yX10_letGo (.code yX10_letGo cX10_letGo 5 (some .boolean)) rmt_X10_letGo [.ref b, .int p1, .int p2] w P) (hP : ∀ o w1, P o w1 → (∃ r, o = .inl (some (.int r))) ∨ ∃ E, o = .inr E ∧ (E = "java/lang/IndexOutOfBoundsException" ∨ E = "java/lang/IllegalStateException")) : MI l k yL_letGo (.codeWith yL_letGo cL_letGo 5 (some .int) [(0, 17, 20, 13), (0, 17, 24, 17)]) rmL_letGo [.ref b, .int p1, .int p2, .ref ao] (wu w (oW k ao f)) (fun o w2 => ∃ w1 f1, w2 = wu w1 (oW k ao f1) ∧ DJ w1 (oW k ao f1) ∧ ((∃ r, P (.inl (some (.int r))) w1 ∧ o = .inl (some (.int 0)) ∧ f1 0 = if r = 0 then 0 else 1) ∨ ∃ E, P (.inr E) w1 ∧ o = .inl (some (.int (xcIS E))))) := by
  refine ML.of 1 hl (by decide) (Nat.le_of_ble_eq_true rfl) ?_
  intro p e s m args below meth c A Q G B ht
  show Wx p l e rmL_letGo s m args below meth c k A 5 Q 1 6 0 [some (.ref b), some (.int p1), some (.int p2), some (.ref ao), none] [] (wu w (oW k ao f))
  refine x_aload3 (pc := 0) G dL_letGo_0 ?_
  refine x_iconst (pc := 1) (v := 0) G dL_letGo_1 (by decide) ?_
  refine x_aload0 (pc := 2) G dL_letGo_2 ?_
  refine x_iload1 (pc := 3) G dL_letGo_3 ?_
  refine x_iload2 (pc := 4) G dL_letGo_4 ?_
  refine x_callV (pc := 5) (bc1 := 0) (bs1 := 0) (n := 2) (As := [.int p1, .int p2]) G (hC.frame hd) (List.mem_append_left _ hb) ((if_pos hb).trans hbf) kb_11.2.2.2.1 q_ml_L_93 q_im_yX10_letGo q_se_yX10_letGo q_in_X10 q_co_yX10_letGo ⟨by decide, by decide, by decide +kernel⟩ ⟨Nat.le_of_ble_eq_true rfl, Nat.le_of_ble_eq_true rfl⟩ (Nat.le_of_ble_eq_true rfl) (Nat.le_of_ble_eq_true rfl) (Nat.le_of_ble_eq_true rfl) rfl rfl dL_letGo_5 (fun v w9 hp => ?_) (fun E w9 hp => ?_)
  · obtain ⟨w1, hp1, hd1, rfl⟩ := hp
    obtain ⟨r, hv⟩ : ∃ r, v = some (.int r) := by
      rcases hP _ _ hp1 with ⟨r, z⟩ | ⟨E, z, _⟩
      · exact ⟨r, Sum.inl.inj z⟩
      · cases z
    subst hv
    refine x_if_eq (pc := 8) (tgt := 15) (y := 0) G dL_letGo_8 rfl (fun cz => ?_) (fun cz => ?_)
    · skip
      refine x_lconst (pc := 15) (v := 0) G dL_letGo_15 (by decide) ?_
      refine x_lald0 (pc := 16) G hd1 dL_letGo_16 ?_
      refine x_goto (pc := 17) (tgt := 28) G dL_letGo_17 rfl ?_
      refine x_iconst (pc := 28) (v := 0) G dL_letGo_28 (by decide) ?_
      exact x_iret (pc := 29) G B rfl dL_letGo_29 ⟨w1, _, rfl, hd1, Or.inl ⟨r, hp1, rfl, (up0.trans (if_pos cz).symm)⟩⟩
    · skip
      refine x_lconst (pc := 11) (v := 1) G dL_letGo_11 (by decide) ?_
      refine x_goto (pc := 12) (tgt := 16) G dL_letGo_12 rfl ?_
      refine x_lald0 (pc := 16) G hd1 dL_letGo_16 ?_
      refine x_goto (pc := 17) (tgt := 28) G dL_letGo_17 rfl ?_
      refine x_iconst (pc := 28) (v := 0) G dL_letGo_28 (by decide) ?_
      exact x_iret (pc := 29) G B rfl dL_letGo_29 ⟨w1, _, rfl, hd1, Or.inl ⟨r, hp1, rfl, (up0.trans (if_neg cz).symm)⟩⟩
  · obtain ⟨w1, hp1, hd1, rfl⟩ := hp
    have hE : E = "java/lang/IndexOutOfBoundsException" ∨ E = "java/lang/IllegalStateException" := by
      rcases hP _ _ hp1 with ⟨r, z⟩ | ⟨E9, z, hE⟩
      · cases z
      · cases z; exact hE
    rcases hE with rfl | rfl
    · refine x_catch (pc := 5) G (name := "java/lang/IndexOutOfBoundsException") [] ({ startPc := 0, endPc := 17, handlerPc := 20, catchType := 13 } : ExceptionTableEntry) [({ startPc := 0, endPc := 17, handlerPc := 24, catchType := 17 } : ExceptionTableEntry)] (ht.trans rfl) (fun z hz => (List.not_mem_nil hz).elim) (by decide) (by decide) q_cl_L_13 (by decide) (fun q => ?_)
      refine x_astore4 (pc := 20) G dL_letGo_20 (by decide) rfl ?_
      refine x_iconst (pc := 22) (v := 1) G dL_letGo_22 (by decide) ?_
      exact x_iret (pc := 23) G B rfl dL_letGo_23 ⟨w1, _, rfl, hd1, Or.inr ⟨_, hp1, congrArg (fun z => Sum.inl (some (Value.int z))) xIS_I.symm⟩⟩
    · refine x_catch (pc := 5) G (name := "java/lang/IllegalStateException") [({ startPc := 0, endPc := 17, handlerPc := 20, catchType := 13 } : ExceptionTableEntry)] ({ startPc := 0, endPc := 17, handlerPc := 24, catchType := 17 } : ExceptionTableEntry) [] (ht.trans rfl) (fun z hz => by
        simp only [List.mem_cons, List.not_mem_nil, or_false] at hz
        rcases hz with rfl
        · exact ⟨by decide, _, q_cl_L_13, by decide⟩) (by decide) (by decide) q_cl_L_17 (by decide) (fun q => ?_)
      refine x_astore4 (pc := 24) G dL_letGo_24 (by decide) rfl ?_
      refine x_iconst (pc := 26) (v := 2) G dL_letGo_26 (by decide) ?_
      exact x_iret (pc := 27) G B rfl dL_letGo_27 ⟨w1, _, rfl, hd1, Or.inr ⟨_, hp1, congrArg (fun z => Sum.inl (some (Value.int z))) xIS_S.symm⟩⟩
theorem q_cw_run : Cond.codeWith yL_run cL_run 5 (some .int) [(0, 10, 13, 15)] ∈ TB := tb_i 940 (by decide +kernel) (by decide +kernel)
theorem dL_run_0 : decode cL_run 0 = .ok (.aload_n 3, 1) := by decide +kernel
theorem dL_run_1 : decode cL_run 1 = .ok (.iconst 0, 1) := by decide +kernel
theorem dL_run_2 : decode cL_run 2 = .ok (.aload_n 0, 1) := by decide +kernel
theorem dL_run_3 : decode cL_run 3 = .ok (.iload_n 1, 1) := by decide +kernel
theorem dL_run_4 : decode cL_run 4 = .ok (.iload_n 2, 1) := by decide +kernel
theorem dL_run_5 : decode cL_run 5 = .ok (.invokevirtual 97, 3) := by decide +kernel
theorem dL_run_8 : decode cL_run 8 = .ok (.i2l, 1) := by decide +kernel
theorem dL_run_9 : decode cL_run 9 = .ok (.lastore, 1) := by decide +kernel
theorem dL_run_10 : decode cL_run 10 = .ok (.goto 7, 3) := by decide +kernel
theorem dL_run_13 : decode cL_run 13 = .ok (.astore 4, 2) := by decide +kernel
theorem dL_run_15 : decode cL_run 15 = .ok (.iconst 1, 1) := by decide +kernel
theorem dL_run_16 : decode cL_run 16 = .ok (.ireturn, 1) := by decide +kernel
theorem dL_run_17 : decode cL_run 17 = .ok (.iconst 0, 1) := by decide +kernel
theorem dL_run_18 : decode cL_run 18 = .ok (.ireturn, 1) := by decide +kernel
abbrev rmL_run : Room := { frames := 10, cells := 1, slots := 6, locals := 183 }
set_option maxRecDepth 100000 in
set_option maxHeartbeats 4000000 in
theorem ch_run {l : Launch} {k : KC} (hl : l.stackTraces = false) {w : Wd} {b : Nat} {fs : List Value} (hb : b ∈ w.1) (hbf : w.2 b = .inr (11, fs)) {ao : Nat} {f : Nat → Int64} (hd : DJ w (oW k ao f)) {p1 p2 : Int32} {P : Out → Wd → Prop} (hC : MC l k yX10_run (.code yX10_run cX10_run 6 (some .int)) rmt_X10_run [.ref b, .int p1, .int p2] w P) (hP : ∀ o w1, P o w1 → (∃ r, o = .inl (some (.int r))) ∨ ∃ E, o = .inr E ∧ (E = "java/lang/IllegalArgumentException")) : MI l k yL_run (.codeWith yL_run cL_run 5 (some .int) [(0, 10, 13, 15)]) rmL_run [.ref b, .int p1, .int p2, .ref ao] (wu w (oW k ao f)) (fun o w2 => ∃ w1 f1, w2 = wu w1 (oW k ao f1) ∧ DJ w1 (oW k ao f1) ∧ ((∃ r, P (.inl (some (.int r))) w1 ∧ o = .inl (some (.int 0)) ∧ f1 0 = r.toInt64) ∨ ∃ E, P (.inr E) w1 ∧ o = .inl (some (.int (xcA E))))) := by
  refine ML.of 1 hl (by decide) (Nat.le_of_ble_eq_true rfl) ?_
  intro p e s m args below meth c A Q G B ht
  show Wx p l e rmL_run s m args below meth c k A 5 Q 1 6 0 [some (.ref b), some (.int p1), some (.int p2), some (.ref ao), none] [] (wu w (oW k ao f))
  refine x_aload3 (pc := 0) G dL_run_0 ?_
  refine x_iconst (pc := 1) (v := 0) G dL_run_1 (by decide) ?_
  refine x_aload0 (pc := 2) G dL_run_2 ?_
  refine x_iload1 (pc := 3) G dL_run_3 ?_
  refine x_iload2 (pc := 4) G dL_run_4 ?_
  refine x_callV (pc := 5) (bc1 := 0) (bs1 := 0) (n := 2) (As := [.int p1, .int p2]) G (hC.frame hd) (List.mem_append_left _ hb) ((if_pos hb).trans hbf) kb_11.2.2.2.1 q_ml_L_97 q_im_yX10_run q_se_yX10_run q_in_X10 q_co_yX10_run ⟨by decide, by decide, by decide +kernel⟩ ⟨Nat.le_of_ble_eq_true rfl, Nat.le_of_ble_eq_true rfl⟩ (Nat.le_of_ble_eq_true rfl) (Nat.le_of_ble_eq_true rfl) (Nat.le_of_ble_eq_true rfl) rfl rfl dL_run_5 (fun v w9 hp => ?_) (fun E w9 hp => ?_)
  · obtain ⟨w1, hp1, hd1, rfl⟩ := hp
    obtain ⟨r, hv⟩ : ∃ r, v = some (.int r) := by
      rcases hP _ _ hp1 with ⟨r, z⟩ | ⟨E, z, _⟩
      · exact ⟨r, Sum.inl.inj z⟩
      · cases z
    subst hv
    refine x_i2l (pc := 8) G dL_run_8 ?_
    refine x_lald0 (pc := 9) G hd1 dL_run_9 ?_
    refine x_goto (pc := 10) (tgt := 17) G dL_run_10 rfl ?_
    refine x_iconst (pc := 17) (v := 0) G dL_run_17 (by decide) ?_
    exact x_iret (pc := 18) G B rfl dL_run_18 ⟨w1, _, rfl, hd1, Or.inl ⟨r, hp1, rfl, up0⟩⟩
  · obtain ⟨w1, hp1, hd1, rfl⟩ := hp
    have hE : E = "java/lang/IllegalArgumentException" := by
      rcases hP _ _ hp1 with ⟨r, z⟩ | ⟨E9, z, hE⟩
      · cases z
      · cases z; exact hE
    rcases hE with rfl
    · refine x_catch (pc := 5) G (name := "java/lang/IllegalArgumentException") [] ({ startPc := 0, endPc := 10, handlerPc := 13, catchType := 15 } : ExceptionTableEntry) [] (ht.trans rfl) (fun z hz => (List.not_mem_nil hz).elim) (by decide) (by decide) q_cl_L_15 (by decide) (fun q => ?_)
      refine x_astore4 (pc := 13) G dL_run_13 (by decide) rfl ?_
      refine x_iconst (pc := 15) (v := 1) G dL_run_15 (by decide) ?_
      exact x_iret (pc := 16) G B rfl dL_run_16 ⟨w1, _, rfl, hd1, Or.inr ⟨_, hp1, congrArg (fun z => Sum.inl (some (Value.int z))) xA_A.symm⟩⟩
theorem q_cw_bounce : Cond.codeWith yL_bounce cL_bounce 4 (some .int) [(0, 8, 11, 13), (0, 8, 14, 17)] ∈ TB := tb_i 964 (by decide +kernel) (by decide +kernel)
theorem dL_bounce_0 : decode cL_bounce 0 = .ok (.aload_n 2, 1) := by decide +kernel
theorem dL_bounce_1 : decode cL_bounce 1 = .ok (.iconst 0, 1) := by decide +kernel
theorem dL_bounce_2 : decode cL_bounce 2 = .ok (.aload_n 0, 1) := by decide +kernel
theorem dL_bounce_3 : decode cL_bounce 3 = .ok (.iload_n 1, 1) := by decide +kernel
theorem dL_bounce_4 : decode cL_bounce 4 = .ok (.invokevirtual 101, 3) := by decide +kernel
theorem dL_bounce_7 : decode cL_bounce 7 = .ok (.lastore, 1) := by decide +kernel
theorem dL_bounce_8 : decode cL_bounce 8 = .ok (.goto 9, 3) := by decide +kernel
theorem dL_bounce_11 : decode cL_bounce 11 = .ok (.astore_n 3, 1) := by decide +kernel
theorem dL_bounce_12 : decode cL_bounce 12 = .ok (.iconst 1, 1) := by decide +kernel
theorem dL_bounce_13 : decode cL_bounce 13 = .ok (.ireturn, 1) := by decide +kernel
theorem dL_bounce_14 : decode cL_bounce 14 = .ok (.astore_n 3, 1) := by decide +kernel
theorem dL_bounce_15 : decode cL_bounce 15 = .ok (.iconst 2, 1) := by decide +kernel
theorem dL_bounce_16 : decode cL_bounce 16 = .ok (.ireturn, 1) := by decide +kernel
theorem dL_bounce_17 : decode cL_bounce 17 = .ok (.iconst 0, 1) := by decide +kernel
theorem dL_bounce_18 : decode cL_bounce 18 = .ok (.ireturn, 1) := by decide +kernel
abbrev rmL_bounce : Room := { frames := 9, cells := 1, slots := 6, locals := 156 }
set_option maxRecDepth 100000 in
set_option maxHeartbeats 4000000 in
theorem ch_bounce {l : Launch} {k : KC} (hl : l.stackTraces = false) {w : Wd} {b : Nat} {fs : List Value} (hb : b ∈ w.1) (hbf : w.2 b = .inr (11, fs)) {ao : Nat} {f : Nat → Int64} (hd : DJ w (oW k ao f)) {p1 : Int32} {P : Out → Wd → Prop} (hC : MC l k yX10_bounce (.code yX10_bounce cX10_bounce 3 (some .long)) rmt_X10_bounce [.ref b, .int p1] w P) (hP : ∀ o w1, P o w1 → (∃ r, o = .inl (some (.long r))) ∨ ∃ E, o = .inr E ∧ (E = "java/lang/IndexOutOfBoundsException" ∨ E = "java/lang/IllegalStateException")) : MI l k yL_bounce (.codeWith yL_bounce cL_bounce 4 (some .int) [(0, 8, 11, 13), (0, 8, 14, 17)]) rmL_bounce [.ref b, .int p1, .ref ao] (wu w (oW k ao f)) (fun o w2 => ∃ w1 f1, w2 = wu w1 (oW k ao f1) ∧ DJ w1 (oW k ao f1) ∧ ((∃ r, P (.inl (some (.long r))) w1 ∧ o = .inl (some (.int 0)) ∧ f1 0 = r) ∨ ∃ E, P (.inr E) w1 ∧ o = .inl (some (.int (xcIS E))))) := by
  refine ML.of 1 hl (by decide) (Nat.le_of_ble_eq_true rfl) ?_
  intro p e s m args below meth c A Q G B ht
  show Wx p l e rmL_bounce s m args below meth c k A 4 Q 1 6 0 [some (.ref b), some (.int p1), some (.ref ao), none] [] (wu w (oW k ao f))
  refine x_aload2 (pc := 0) G dL_bounce_0 ?_
  refine x_iconst (pc := 1) (v := 0) G dL_bounce_1 (by decide) ?_
  refine x_aload0 (pc := 2) G dL_bounce_2 ?_
  refine x_iload1 (pc := 3) G dL_bounce_3 ?_
  refine x_callV (pc := 4) (bc1 := 0) (bs1 := 0) (n := 1) (As := [.int p1]) G (hC.frame hd) (List.mem_append_left _ hb) ((if_pos hb).trans hbf) kb_11.2.2.2.1 q_ml_L_101 q_im_yX10_bounce q_se_yX10_bounce q_in_X10 q_co_yX10_bounce ⟨by decide, by decide, by decide +kernel⟩ ⟨Nat.le_of_ble_eq_true rfl, Nat.le_of_ble_eq_true rfl⟩ (Nat.le_of_ble_eq_true rfl) (Nat.le_of_ble_eq_true rfl) (Nat.le_of_ble_eq_true rfl) rfl rfl dL_bounce_4 (fun v w9 hp => ?_) (fun E w9 hp => ?_)
  · obtain ⟨w1, hp1, hd1, rfl⟩ := hp
    obtain ⟨r, hv⟩ : ∃ r, v = some (.long r) := by
      rcases hP _ _ hp1 with ⟨r, z⟩ | ⟨E, z, _⟩
      · exact ⟨r, Sum.inl.inj z⟩
      · cases z
    subst hv
    refine x_lald0 (pc := 7) G hd1 dL_bounce_7 ?_
    refine x_goto (pc := 8) (tgt := 17) G dL_bounce_8 rfl ?_
    refine x_iconst (pc := 17) (v := 0) G dL_bounce_17 (by decide) ?_
    exact x_iret (pc := 18) G B rfl dL_bounce_18 ⟨w1, _, rfl, hd1, Or.inl ⟨r, hp1, rfl, up0⟩⟩
  · obtain ⟨w1, hp1, hd1, rfl⟩ := hp
    have hE : E = "java/lang/IndexOutOfBoundsException" ∨ E = "java/lang/IllegalStateException" := by
      rcases hP _ _ hp1 with ⟨r, z⟩ | ⟨E9, z, hE⟩
      · cases z
      · cases z; exact hE
    rcases hE with rfl | rfl
    · refine x_catch (pc := 4) G (name := "java/lang/IndexOutOfBoundsException") [] ({ startPc := 0, endPc := 8, handlerPc := 11, catchType := 13 } : ExceptionTableEntry) [({ startPc := 0, endPc := 8, handlerPc := 14, catchType := 17 } : ExceptionTableEntry)] (ht.trans rfl) (fun z hz => (List.not_mem_nil hz).elim) (by decide) (by decide) q_cl_L_13 (by decide) (fun q => ?_)
      refine x_astore3 (pc := 11) G dL_bounce_11 (by decide) rfl ?_
      refine x_iconst (pc := 12) (v := 1) G dL_bounce_12 (by decide) ?_
      exact x_iret (pc := 13) G B rfl dL_bounce_13 ⟨w1, _, rfl, hd1, Or.inr ⟨_, hp1, congrArg (fun z => Sum.inl (some (Value.int z))) xIS_I.symm⟩⟩
    · refine x_catch (pc := 4) G (name := "java/lang/IllegalStateException") [({ startPc := 0, endPc := 8, handlerPc := 11, catchType := 13 } : ExceptionTableEntry)] ({ startPc := 0, endPc := 8, handlerPc := 14, catchType := 17 } : ExceptionTableEntry) [] (ht.trans rfl) (fun z hz => by
        simp only [List.mem_cons, List.not_mem_nil, or_false] at hz
        rcases hz with rfl
        · exact ⟨by decide, _, q_cl_L_13, by decide⟩) (by decide) (by decide) q_cl_L_17 (by decide) (fun q => ?_)
      refine x_astore3 (pc := 14) G dL_bounce_14 (by decide) rfl ?_
      refine x_iconst (pc := 15) (v := 2) G dL_bounce_15 (by decide) ?_
      exact x_iret (pc := 16) G B rfl dL_bounce_16 ⟨w1, _, rfl, hd1, Or.inr ⟨_, hp1, congrArg (fun z => Sum.inl (some (Value.int z))) xIS_S.symm⟩⟩
theorem q_cw_goOn : Cond.codeWith yL_goOn cL_goOn 3 (some .int) [(0, 5, 8, 13), (0, 5, 11, 17)] ∈ TB := tb_i 972 (by decide +kernel) (by decide +kernel)
theorem dL_goOn_0 : decode cL_goOn 0 = .ok (.aload_n 0, 1) := by decide +kernel
theorem dL_goOn_1 : decode cL_goOn 1 = .ok (.iload_n 1, 1) := by decide +kernel
theorem dL_goOn_2 : decode cL_goOn 2 = .ok (.invokevirtual 104, 3) := by decide +kernel
theorem dL_goOn_5 : decode cL_goOn 5 = .ok (.goto 9, 3) := by decide +kernel
theorem dL_goOn_8 : decode cL_goOn 8 = .ok (.astore_n 2, 1) := by decide +kernel
theorem dL_goOn_9 : decode cL_goOn 9 = .ok (.iconst 1, 1) := by decide +kernel
theorem dL_goOn_10 : decode cL_goOn 10 = .ok (.ireturn, 1) := by decide +kernel
theorem dL_goOn_11 : decode cL_goOn 11 = .ok (.astore_n 2, 1) := by decide +kernel
theorem dL_goOn_12 : decode cL_goOn 12 = .ok (.iconst 2, 1) := by decide +kernel
theorem dL_goOn_13 : decode cL_goOn 13 = .ok (.ireturn, 1) := by decide +kernel
theorem dL_goOn_14 : decode cL_goOn 14 = .ok (.iconst 0, 1) := by decide +kernel
theorem dL_goOn_15 : decode cL_goOn 15 = .ok (.ireturn, 1) := by decide +kernel
abbrev rmL_goOn : Room := { frames := 9, cells := 1, slots := 6, locals := 154 }
set_option maxRecDepth 100000 in
set_option maxHeartbeats 4000000 in
theorem ch_goOn {l : Launch} {k : KC} (hl : l.stackTraces = false) {w : Wd} {b : Nat} {fs : List Value} (hb : b ∈ w.1) (hbf : w.2 b = .inr (11, fs)) {p1 : Int32} {P : Out → Wd → Prop} (hC : MC l k yX10_goOn (.code yX10_goOn cX10_goOn 3 none) rmt_X10_goOn [.ref b, .int p1] w P) (hP : ∀ o w1, P o w1 → (o = .inl none) ∨ ∃ E, o = .inr E ∧ (E = "java/lang/IndexOutOfBoundsException" ∨ E = "java/lang/IllegalStateException")) : MI l k yL_goOn (.codeWith yL_goOn cL_goOn 3 (some .int) [(0, 5, 8, 13), (0, 5, 11, 17)]) rmL_goOn [.ref b, .int p1] w (fun o w2 => ∃ w1, w2 = w1 ∧ ((P (.inl none) w1 ∧ o = .inl (some (.int 0))) ∨ ∃ E, P (.inr E) w1 ∧ o = .inl (some (.int (xcIS E))))) := by
  refine ML.of 1 hl (by decide) (Nat.le_of_ble_eq_true rfl) ?_
  intro p e s m args below meth c A Q G B ht
  show Wx p l e rmL_goOn s m args below meth c k A 3 Q 1 6 0 [some (.ref b), some (.int p1), none] [] w
  refine x_aload0 (pc := 0) G dL_goOn_0 ?_
  refine x_iload1 (pc := 1) G dL_goOn_1 ?_
  refine x_callV (pc := 2) (bc1 := 0) (bs1 := 0) (n := 1) (As := [.int p1]) G hC hb hbf kb_11.2.2.2.1 q_ml_L_104 q_im_yX10_goOn q_se_yX10_goOn q_in_X10 q_co_yX10_goOn ⟨by decide, by decide, by decide +kernel⟩ ⟨Nat.le_of_ble_eq_true rfl, Nat.le_of_ble_eq_true rfl⟩ (Nat.le_of_ble_eq_true rfl) (Nat.le_of_ble_eq_true rfl) (Nat.le_of_ble_eq_true rfl) rfl rfl dL_goOn_2 (fun v w9 hp => ?_) (fun E w9 hp => ?_)
  · have hp1 := hp
    have hv : v = none := by
      rcases hP _ _ hp1 with z | ⟨E, z, _⟩
      · exact Sum.inl.inj z
      · cases z
    subst hv
    refine x_goto (pc := 5) (tgt := 14) G dL_goOn_5 rfl ?_
    refine x_iconst (pc := 14) (v := 0) G dL_goOn_14 (by decide) ?_
    exact x_iret (pc := 15) G B rfl dL_goOn_15 ⟨_, rfl, Or.inl ⟨hp1, rfl⟩⟩
  · have hp1 := hp
    have hE : E = "java/lang/IndexOutOfBoundsException" ∨ E = "java/lang/IllegalStateException" := by
      rcases hP _ _ hp1 with z | ⟨E9, z, hE⟩
      · cases z
      · cases z; exact hE
    rcases hE with rfl | rfl
    · refine x_catch (pc := 2) G (name := "java/lang/IndexOutOfBoundsException") [] ({ startPc := 0, endPc := 5, handlerPc := 8, catchType := 13 } : ExceptionTableEntry) [({ startPc := 0, endPc := 5, handlerPc := 11, catchType := 17 } : ExceptionTableEntry)] (ht.trans rfl) (fun z hz => (List.not_mem_nil hz).elim) (by decide) (by decide) q_cl_L_13 (by decide) (fun q => ?_)
      refine x_astore2 (pc := 8) G dL_goOn_8 (by decide) rfl ?_
      refine x_iconst (pc := 9) (v := 1) G dL_goOn_9 (by decide) ?_
      exact x_iret (pc := 10) G B rfl dL_goOn_10 ⟨_, rfl, Or.inr ⟨_, hp1, congrArg (fun z => Sum.inl (some (Value.int z))) xIS_I.symm⟩⟩
    · refine x_catch (pc := 2) G (name := "java/lang/IllegalStateException") [({ startPc := 0, endPc := 5, handlerPc := 8, catchType := 13 } : ExceptionTableEntry)] ({ startPc := 0, endPc := 5, handlerPc := 11, catchType := 17 } : ExceptionTableEntry) [] (ht.trans rfl) (fun z hz => by
        simp only [List.mem_cons, List.not_mem_nil, or_false] at hz
        rcases hz with rfl
        · exact ⟨by decide, _, q_cl_L_13, by decide⟩) (by decide) (by decide) q_cl_L_17 (by decide) (fun q => ?_)
      refine x_astore2 (pc := 11) G dL_goOn_11 (by decide) rfl ?_
      refine x_iconst (pc := 12) (v := 2) G dL_goOn_12 (by decide) ?_
      exact x_iret (pc := 13) G B rfl dL_goOn_13 ⟨_, rfl, Or.inr ⟨_, hp1, congrArg (fun z => Sum.inl (some (Value.int z))) xIS_S.symm⟩⟩
theorem q_cw_place : Cond.codeWith yL_place cL_place 5 (some .int) [(0, 10, 13, 13), (0, 10, 17, 15)] ∈ TB := tb_i 980 (by decide +kernel) (by decide +kernel)
theorem dL_place_0 : decode cL_place 0 = .ok (.aload_n 3, 1) := by decide +kernel
theorem dL_place_1 : decode cL_place 1 = .ok (.iconst 0, 1) := by decide +kernel
theorem dL_place_2 : decode cL_place 2 = .ok (.aload_n 0, 1) := by decide +kernel
theorem dL_place_3 : decode cL_place 3 = .ok (.iload_n 1, 1) := by decide +kernel
theorem dL_place_4 : decode cL_place 4 = .ok (.iload_n 2, 1) := by decide +kernel
theorem dL_place_5 : decode cL_place 5 = .ok (.invokevirtual 108, 3) := by decide +kernel
theorem dL_place_8 : decode cL_place 8 = .ok (.i2l, 1) := by decide +kernel
theorem dL_place_9 : decode cL_place 9 = .ok (.lastore, 1) := by decide +kernel
theorem dL_place_10 : decode cL_place 10 = .ok (.goto 11, 3) := by decide +kernel
theorem dL_place_13 : decode cL_place 13 = .ok (.astore 4, 2) := by decide +kernel
theorem dL_place_15 : decode cL_place 15 = .ok (.iconst 1, 1) := by decide +kernel
theorem dL_place_16 : decode cL_place 16 = .ok (.ireturn, 1) := by decide +kernel
theorem dL_place_17 : decode cL_place 17 = .ok (.astore 4, 2) := by decide +kernel
theorem dL_place_19 : decode cL_place 19 = .ok (.iconst 2, 1) := by decide +kernel
theorem dL_place_20 : decode cL_place 20 = .ok (.ireturn, 1) := by decide +kernel
theorem dL_place_21 : decode cL_place 21 = .ok (.iconst 0, 1) := by decide +kernel
theorem dL_place_22 : decode cL_place 22 = .ok (.ireturn, 1) := by decide +kernel
abbrev rmL_place : Room := { frames := 8, cells := 1, slots := 6, locals := 135 }
set_option maxRecDepth 100000 in
set_option maxHeartbeats 4000000 in
theorem ch_place {l : Launch} {k : KC} (hl : l.stackTraces = false) {w : Wd} {b : Nat} {fs : List Value} (hb : b ∈ w.1) (hbf : w.2 b = .inr (11, fs)) {ao : Nat} {f : Nat → Int64} (hd : DJ w (oW k ao f)) {p1 p2 : Int32} {P : Out → Wd → Prop} (hC : MC l k yX10_place (.code yX10_place cX10_place 4 (some .int)) rmt_X10_place [.ref b, .int p1, .int p2] w P) (hP : ∀ o w1, P o w1 → (∃ r, o = .inl (some (.int r))) ∨ ∃ E, o = .inr E ∧ (E = "java/lang/IndexOutOfBoundsException" ∨ E = "java/lang/IllegalArgumentException")) : MI l k yL_place (.codeWith yL_place cL_place 5 (some .int) [(0, 10, 13, 13), (0, 10, 17, 15)]) rmL_place [.ref b, .int p1, .int p2, .ref ao] (wu w (oW k ao f)) (fun o w2 => ∃ w1 f1, w2 = wu w1 (oW k ao f1) ∧ DJ w1 (oW k ao f1) ∧ ((∃ r, P (.inl (some (.int r))) w1 ∧ o = .inl (some (.int 0)) ∧ f1 0 = r.toInt64) ∨ ∃ E, P (.inr E) w1 ∧ o = .inl (some (.int (xcIA E))))) := by
  refine ML.of 1 hl (by decide) (Nat.le_of_ble_eq_true rfl) ?_
  intro p e s m args below meth c A Q G B ht
  show Wx p l e rmL_place s m args below meth c k A 5 Q 1 6 0 [some (.ref b), some (.int p1), some (.int p2), some (.ref ao), none] [] (wu w (oW k ao f))
  refine x_aload3 (pc := 0) G dL_place_0 ?_
  refine x_iconst (pc := 1) (v := 0) G dL_place_1 (by decide) ?_
  refine x_aload0 (pc := 2) G dL_place_2 ?_
  refine x_iload1 (pc := 3) G dL_place_3 ?_
  refine x_iload2 (pc := 4) G dL_place_4 ?_
  refine x_callV (pc := 5) (bc1 := 0) (bs1 := 0) (n := 2) (As := [.int p1, .int p2]) G (hC.frame hd) (List.mem_append_left _ hb) ((if_pos hb).trans hbf) kb_11.2.2.2.1 q_ml_L_108 q_im_yX10_place q_se_yX10_place q_in_X10 q_co_yX10_place ⟨by decide, by decide, by decide +kernel⟩ ⟨Nat.le_of_ble_eq_true rfl, Nat.le_of_ble_eq_true rfl⟩ (Nat.le_of_ble_eq_true rfl) (Nat.le_of_ble_eq_true rfl) (Nat.le_of_ble_eq_true rfl) rfl rfl dL_place_5 (fun v w9 hp => ?_) (fun E w9 hp => ?_)
  · obtain ⟨w1, hp1, hd1, rfl⟩ := hp
    obtain ⟨r, hv⟩ : ∃ r, v = some (.int r) := by
      rcases hP _ _ hp1 with ⟨r, z⟩ | ⟨E, z, _⟩
      · exact ⟨r, Sum.inl.inj z⟩
      · cases z
    subst hv
    refine x_i2l (pc := 8) G dL_place_8 ?_
    refine x_lald0 (pc := 9) G hd1 dL_place_9 ?_
    refine x_goto (pc := 10) (tgt := 21) G dL_place_10 rfl ?_
    refine x_iconst (pc := 21) (v := 0) G dL_place_21 (by decide) ?_
    exact x_iret (pc := 22) G B rfl dL_place_22 ⟨w1, _, rfl, hd1, Or.inl ⟨r, hp1, rfl, up0⟩⟩
  · obtain ⟨w1, hp1, hd1, rfl⟩ := hp
    have hE : E = "java/lang/IndexOutOfBoundsException" ∨ E = "java/lang/IllegalArgumentException" := by
      rcases hP _ _ hp1 with ⟨r, z⟩ | ⟨E9, z, hE⟩
      · cases z
      · cases z; exact hE
    rcases hE with rfl | rfl
    · refine x_catch (pc := 5) G (name := "java/lang/IndexOutOfBoundsException") [] ({ startPc := 0, endPc := 10, handlerPc := 13, catchType := 13 } : ExceptionTableEntry) [({ startPc := 0, endPc := 10, handlerPc := 17, catchType := 15 } : ExceptionTableEntry)] (ht.trans rfl) (fun z hz => (List.not_mem_nil hz).elim) (by decide) (by decide) q_cl_L_13 (by decide) (fun q => ?_)
      refine x_astore4 (pc := 13) G dL_place_13 (by decide) rfl ?_
      refine x_iconst (pc := 15) (v := 1) G dL_place_15 (by decide) ?_
      exact x_iret (pc := 16) G B rfl dL_place_16 ⟨w1, _, rfl, hd1, Or.inr ⟨_, hp1, congrArg (fun z => Sum.inl (some (Value.int z))) xIA_I.symm⟩⟩
    · refine x_catch (pc := 5) G (name := "java/lang/IllegalArgumentException") [({ startPc := 0, endPc := 10, handlerPc := 13, catchType := 13 } : ExceptionTableEntry)] ({ startPc := 0, endPc := 10, handlerPc := 17, catchType := 15 } : ExceptionTableEntry) [] (ht.trans rfl) (fun z hz => by
        simp only [List.mem_cons, List.not_mem_nil, or_false] at hz
        rcases hz with rfl
        · exact ⟨by decide, _, q_cl_L_13, by decide⟩) (by decide) (by decide) q_cl_L_15 (by decide) (fun q => ?_)
      refine x_astore4 (pc := 17) G dL_place_17 (by decide) rfl ?_
      refine x_iconst (pc := 19) (v := 2) G dL_place_19 (by decide) ?_
      exact x_iret (pc := 20) G B rfl dL_place_20 ⟨w1, _, rfl, hd1, Or.inr ⟨_, hp1, congrArg (fun z => Sum.inl (some (Value.int z))) xIA_A.symm⟩⟩
theorem q_cw_trip : Cond.codeWith yL_trip cL_trip 10 (some .int) [(0, 20, 23, 13), (0, 20, 27, 15), (0, 20, 31, 17)] ∈ TB := tb_i 989 (by decide +kernel) (by decide +kernel)
theorem dL_trip_0 : decode cL_trip 0 = .ok (.aload 8, 2) := by decide +kernel
theorem dL_trip_2 : decode cL_trip 2 = .ok (.iconst 0, 1) := by decide +kernel
theorem dL_trip_3 : decode cL_trip 3 = .ok (.aload_n 0, 1) := by decide +kernel
theorem dL_trip_4 : decode cL_trip 4 = .ok (.iload_n 1, 1) := by decide +kernel
theorem dL_trip_5 : decode cL_trip 5 = .ok (.iload_n 2, 1) := by decide +kernel
theorem dL_trip_6 : decode cL_trip 6 = .ok (.iload_n 3, 1) := by decide +kernel
theorem dL_trip_7 : decode cL_trip 7 = .ok (.iload 4, 2) := by decide +kernel
theorem dL_trip_9 : decode cL_trip 9 = .ok (.iload 5, 2) := by decide +kernel
theorem dL_trip_11 : decode cL_trip 11 = .ok (.iload 6, 2) := by decide +kernel
theorem dL_trip_13 : decode cL_trip 13 = .ok (.iload 7, 2) := by decide +kernel
theorem dL_trip_15 : decode cL_trip 15 = .ok (.invokevirtual 111, 3) := by decide +kernel
theorem dL_trip_18 : decode cL_trip 18 = .ok (.i2l, 1) := by decide +kernel
theorem dL_trip_19 : decode cL_trip 19 = .ok (.lastore, 1) := by decide +kernel
theorem dL_trip_20 : decode cL_trip 20 = .ok (.goto 15, 3) := by decide +kernel
theorem dL_trip_23 : decode cL_trip 23 = .ok (.astore 9, 2) := by decide +kernel
theorem dL_trip_25 : decode cL_trip 25 = .ok (.iconst 1, 1) := by decide +kernel
theorem dL_trip_26 : decode cL_trip 26 = .ok (.ireturn, 1) := by decide +kernel
theorem dL_trip_27 : decode cL_trip 27 = .ok (.astore 9, 2) := by decide +kernel
theorem dL_trip_29 : decode cL_trip 29 = .ok (.iconst 2, 1) := by decide +kernel
theorem dL_trip_30 : decode cL_trip 30 = .ok (.ireturn, 1) := by decide +kernel
theorem dL_trip_31 : decode cL_trip 31 = .ok (.astore 9, 2) := by decide +kernel
theorem dL_trip_33 : decode cL_trip 33 = .ok (.iconst 3, 1) := by decide +kernel
theorem dL_trip_34 : decode cL_trip 34 = .ok (.ireturn, 1) := by decide +kernel
theorem dL_trip_35 : decode cL_trip 35 = .ok (.iconst 0, 1) := by decide +kernel
theorem dL_trip_36 : decode cL_trip 36 = .ok (.ireturn, 1) := by decide +kernel
abbrev rmL_trip : Room := { frames := 10, cells := 2, slots := 74, locals := 271 }
set_option maxRecDepth 100000 in
set_option maxHeartbeats 4000000 in
theorem ch_trip {l : Launch} {k : KC} (hl : l.stackTraces = false) {w : Wd} {b : Nat} {fs : List Value} (hb : b ∈ w.1) (hbf : w.2 b = .inr (11, fs)) {ao : Nat} {f : Nat → Int64} (hd : DJ w (oW k ao f)) {p1 p2 p3 p4 p5 p6 p7 : Int32} {P : Out → Wd → Prop} (hC : MC l k yX10_trip (.code yX10_trip cX10_trip 12 (some .int)) rma_trip [.ref b, .int p1, .int p2, .int p3, .int p4, .int p5, .int p6, .int p7] w P) (hP : ∀ o w1, P o w1 → (∃ r, o = .inl (some (.int r))) ∨ ∃ E, o = .inr E ∧ (E = "java/lang/IndexOutOfBoundsException" ∨ E = "java/lang/IllegalArgumentException" ∨ E = "java/lang/IllegalStateException")) : MI l k yL_trip (.codeWith yL_trip cL_trip 10 (some .int) [(0, 20, 23, 13), (0, 20, 27, 15), (0, 20, 31, 17)]) rmL_trip [.ref b, .int p1, .int p2, .int p3, .int p4, .int p5, .int p6, .int p7, .ref ao] (wu w (oW k ao f)) (fun o w2 => ∃ w1 f1, w2 = wu w1 (oW k ao f1) ∧ DJ w1 (oW k ao f1) ∧ ((∃ r, P (.inl (some (.int r))) w1 ∧ o = .inl (some (.int 0)) ∧ f1 0 = r.toInt64) ∨ ∃ E, P (.inr E) w1 ∧ o = .inl (some (.int (xcIAS E))))) := by
  refine ML.of 1 hl (by decide) (Nat.le_of_ble_eq_true rfl) ?_
  intro p e s m args below meth c A Q G B ht
  show Wx p l e rmL_trip s m args below meth c k A 10 Q 2 74 0 [some (.ref b), some (.int p1), some (.int p2), some (.int p3), some (.int p4), some (.int p5), some (.int p6), some (.int p7), some (.ref ao), none] [] (wu w (oW k ao f))
  refine x_aload8 (pc := 0) G dL_trip_0 ?_
  refine x_iconst (pc := 2) (v := 0) G dL_trip_2 (by decide) ?_
  refine x_aload0 (pc := 3) G dL_trip_3 ?_
  refine x_iload1 (pc := 4) G dL_trip_4 ?_
  refine x_iload2 (pc := 5) G dL_trip_5 ?_
  refine x_iload3 (pc := 6) G dL_trip_6 ?_
  refine x_iload4 (pc := 7) G dL_trip_7 ?_
  refine x_iload5 (pc := 9) G dL_trip_9 ?_
  refine x_iload6 (pc := 11) G dL_trip_11 ?_
  refine x_iload7 (pc := 13) G dL_trip_13 ?_
  refine x_callV (pc := 15) (bc1 := 0) (bs1 := 0) (n := 7) (As := [.int p1, .int p2, .int p3, .int p4, .int p5, .int p6, .int p7]) G (hC.frame hd) (List.mem_append_left _ hb) ((if_pos hb).trans hbf) kb_11.2.2.2.1 q_ml_L_111 q_im_yX10_trip q_se_yX10_trip q_in_X10 q_co_yX10_trip ⟨by decide, by decide, by decide +kernel⟩ ⟨Nat.le_of_ble_eq_true rfl, Nat.le_of_ble_eq_true rfl⟩ (Nat.le_of_ble_eq_true rfl) (Nat.le_of_ble_eq_true rfl) (Nat.le_of_ble_eq_true rfl) rfl rfl dL_trip_15 (fun v w9 hp => ?_) (fun E w9 hp => ?_)
  · obtain ⟨w1, hp1, hd1, rfl⟩ := hp
    obtain ⟨r, hv⟩ : ∃ r, v = some (.int r) := by
      rcases hP _ _ hp1 with ⟨r, z⟩ | ⟨E, z, _⟩
      · exact ⟨r, Sum.inl.inj z⟩
      · cases z
    subst hv
    refine x_i2l (pc := 18) G dL_trip_18 ?_
    refine x_lald0 (pc := 19) G hd1 dL_trip_19 ?_
    refine x_goto (pc := 20) (tgt := 35) G dL_trip_20 rfl ?_
    refine x_iconst (pc := 35) (v := 0) G dL_trip_35 (by decide) ?_
    exact x_iret (pc := 36) G B rfl dL_trip_36 ⟨w1, _, rfl, hd1, Or.inl ⟨r, hp1, rfl, up0⟩⟩
  · obtain ⟨w1, hp1, hd1, rfl⟩ := hp
    have hE : E = "java/lang/IndexOutOfBoundsException" ∨ E = "java/lang/IllegalArgumentException" ∨ E = "java/lang/IllegalStateException" := by
      rcases hP _ _ hp1 with ⟨r, z⟩ | ⟨E9, z, hE⟩
      · cases z
      · cases z; exact hE
    rcases hE with rfl | rfl | rfl
    · refine x_catch (pc := 15) G (name := "java/lang/IndexOutOfBoundsException") [] ({ startPc := 0, endPc := 20, handlerPc := 23, catchType := 13 } : ExceptionTableEntry) [({ startPc := 0, endPc := 20, handlerPc := 27, catchType := 15 } : ExceptionTableEntry), ({ startPc := 0, endPc := 20, handlerPc := 31, catchType := 17 } : ExceptionTableEntry)] (ht.trans rfl) (fun z hz => (List.not_mem_nil hz).elim) (by decide) (by decide) q_cl_L_13 (by decide) (fun q => ?_)
      refine x_astore9 (pc := 23) G dL_trip_23 (by decide) rfl ?_
      refine x_iconst (pc := 25) (v := 1) G dL_trip_25 (by decide) ?_
      exact x_iret (pc := 26) G B rfl dL_trip_26 ⟨w1, _, rfl, hd1, Or.inr ⟨_, hp1, congrArg (fun z => Sum.inl (some (Value.int z))) xIAS_I.symm⟩⟩
    · refine x_catch (pc := 15) G (name := "java/lang/IllegalArgumentException") [({ startPc := 0, endPc := 20, handlerPc := 23, catchType := 13 } : ExceptionTableEntry)] ({ startPc := 0, endPc := 20, handlerPc := 27, catchType := 15 } : ExceptionTableEntry) [({ startPc := 0, endPc := 20, handlerPc := 31, catchType := 17 } : ExceptionTableEntry)] (ht.trans rfl) (fun z hz => by
        simp only [List.mem_cons, List.not_mem_nil, or_false] at hz
        rcases hz with rfl
        · exact ⟨by decide, _, q_cl_L_13, by decide⟩) (by decide) (by decide) q_cl_L_15 (by decide) (fun q => ?_)
      refine x_astore9 (pc := 27) G dL_trip_27 (by decide) rfl ?_
      refine x_iconst (pc := 29) (v := 2) G dL_trip_29 (by decide) ?_
      exact x_iret (pc := 30) G B rfl dL_trip_30 ⟨w1, _, rfl, hd1, Or.inr ⟨_, hp1, congrArg (fun z => Sum.inl (some (Value.int z))) xIAS_A.symm⟩⟩
    · refine x_catch (pc := 15) G (name := "java/lang/IllegalStateException") [({ startPc := 0, endPc := 20, handlerPc := 23, catchType := 13 } : ExceptionTableEntry), ({ startPc := 0, endPc := 20, handlerPc := 27, catchType := 15 } : ExceptionTableEntry)] ({ startPc := 0, endPc := 20, handlerPc := 31, catchType := 17 } : ExceptionTableEntry) [] (ht.trans rfl) (fun z hz => by
        simp only [List.mem_cons, List.not_mem_nil, or_false] at hz
        rcases hz with rfl | rfl
        · exact ⟨by decide, _, q_cl_L_13, by decide⟩
        · exact ⟨by decide, _, q_cl_L_15, by decide⟩) (by decide) (by decide) q_cl_L_17 (by decide) (fun q => ?_)
      refine x_astore9 (pc := 31) G dL_trip_31 (by decide) rfl ?_
      refine x_iconst (pc := 33) (v := 3) G dL_trip_33 (by decide) ?_
      exact x_iret (pc := 34) G B rfl dL_trip_34 ⟨w1, _, rfl, hd1, Or.inr ⟨_, hp1, congrArg (fun z => Sum.inl (some (Value.int z))) xIAS_S.symm⟩⟩
theorem q_cw_advance : Cond.codeWith yL_advance cL_advance 5 (some .int) [(0, 9, 12, 13), (0, 9, 16, 15)] ∈ TB := tb_i 1013 (by decide +kernel) (by decide +kernel)
theorem dL_advance_0 : decode cL_advance 0 = .ok (.aload_n 3, 1) := by decide +kernel
theorem dL_advance_1 : decode cL_advance 1 = .ok (.iconst 0, 1) := by decide +kernel
theorem dL_advance_2 : decode cL_advance 2 = .ok (.aload_n 0, 1) := by decide +kernel
theorem dL_advance_3 : decode cL_advance 3 = .ok (.iload_n 1, 1) := by decide +kernel
theorem dL_advance_4 : decode cL_advance 4 = .ok (.iload_n 2, 1) := by decide +kernel
theorem dL_advance_5 : decode cL_advance 5 = .ok (.invokevirtual 115, 3) := by decide +kernel
theorem dL_advance_8 : decode cL_advance 8 = .ok (.lastore, 1) := by decide +kernel
theorem dL_advance_9 : decode cL_advance 9 = .ok (.goto 11, 3) := by decide +kernel
theorem dL_advance_12 : decode cL_advance 12 = .ok (.astore 4, 2) := by decide +kernel
theorem dL_advance_14 : decode cL_advance 14 = .ok (.iconst 1, 1) := by decide +kernel
theorem dL_advance_15 : decode cL_advance 15 = .ok (.ireturn, 1) := by decide +kernel
theorem dL_advance_16 : decode cL_advance 16 = .ok (.astore 4, 2) := by decide +kernel
theorem dL_advance_18 : decode cL_advance 18 = .ok (.iconst 2, 1) := by decide +kernel
theorem dL_advance_19 : decode cL_advance 19 = .ok (.ireturn, 1) := by decide +kernel
theorem dL_advance_20 : decode cL_advance 20 = .ok (.iconst 0, 1) := by decide +kernel
theorem dL_advance_21 : decode cL_advance 21 = .ok (.ireturn, 1) := by decide +kernel
abbrev rmL_advance : Room := { frames := 9, cells := 1, slots := 6, locals := 157 }
set_option maxRecDepth 100000 in
set_option maxHeartbeats 4000000 in
theorem ch_advance {l : Launch} {k : KC} (hl : l.stackTraces = false) {w : Wd} {b : Nat} {fs : List Value} (hb : b ∈ w.1) (hbf : w.2 b = .inr (11, fs)) {ao : Nat} {f : Nat → Int64} (hd : DJ w (oW k ao f)) {p1 p2 : Int32} {P : Out → Wd → Prop} (hC : MC l k yX10_advance (.code yX10_advance cX10_advance 4 (some .long)) rmt_X10_advance [.ref b, .int p1, .int p2] w P) (hP : ∀ o w1, P o w1 → (∃ r, o = .inl (some (.long r))) ∨ ∃ E, o = .inr E ∧ (E = "java/lang/IndexOutOfBoundsException" ∨ E = "java/lang/IllegalArgumentException")) : MI l k yL_advance (.codeWith yL_advance cL_advance 5 (some .int) [(0, 9, 12, 13), (0, 9, 16, 15)]) rmL_advance [.ref b, .int p1, .int p2, .ref ao] (wu w (oW k ao f)) (fun o w2 => ∃ w1 f1, w2 = wu w1 (oW k ao f1) ∧ DJ w1 (oW k ao f1) ∧ ((∃ r, P (.inl (some (.long r))) w1 ∧ o = .inl (some (.int 0)) ∧ f1 0 = r) ∨ ∃ E, P (.inr E) w1 ∧ o = .inl (some (.int (xcIA E))))) := by
  refine ML.of 1 hl (by decide) (Nat.le_of_ble_eq_true rfl) ?_
  intro p e s m args below meth c A Q G B ht
  show Wx p l e rmL_advance s m args below meth c k A 5 Q 1 6 0 [some (.ref b), some (.int p1), some (.int p2), some (.ref ao), none] [] (wu w (oW k ao f))
  refine x_aload3 (pc := 0) G dL_advance_0 ?_
  refine x_iconst (pc := 1) (v := 0) G dL_advance_1 (by decide) ?_
  refine x_aload0 (pc := 2) G dL_advance_2 ?_
  refine x_iload1 (pc := 3) G dL_advance_3 ?_
  refine x_iload2 (pc := 4) G dL_advance_4 ?_
  refine x_callV (pc := 5) (bc1 := 0) (bs1 := 0) (n := 2) (As := [.int p1, .int p2]) G (hC.frame hd) (List.mem_append_left _ hb) ((if_pos hb).trans hbf) kb_11.2.2.2.1 q_ml_L_115 q_im_yX10_advance q_se_yX10_advance q_in_X10 q_co_yX10_advance ⟨by decide, by decide, by decide +kernel⟩ ⟨Nat.le_of_ble_eq_true rfl, Nat.le_of_ble_eq_true rfl⟩ (Nat.le_of_ble_eq_true rfl) (Nat.le_of_ble_eq_true rfl) (Nat.le_of_ble_eq_true rfl) rfl rfl dL_advance_5 (fun v w9 hp => ?_) (fun E w9 hp => ?_)
  · obtain ⟨w1, hp1, hd1, rfl⟩ := hp
    obtain ⟨r, hv⟩ : ∃ r, v = some (.long r) := by
      rcases hP _ _ hp1 with ⟨r, z⟩ | ⟨E, z, _⟩
      · exact ⟨r, Sum.inl.inj z⟩
      · cases z
    subst hv
    refine x_lald0 (pc := 8) G hd1 dL_advance_8 ?_
    refine x_goto (pc := 9) (tgt := 20) G dL_advance_9 rfl ?_
    refine x_iconst (pc := 20) (v := 0) G dL_advance_20 (by decide) ?_
    exact x_iret (pc := 21) G B rfl dL_advance_21 ⟨w1, _, rfl, hd1, Or.inl ⟨r, hp1, rfl, up0⟩⟩
  · obtain ⟨w1, hp1, hd1, rfl⟩ := hp
    have hE : E = "java/lang/IndexOutOfBoundsException" ∨ E = "java/lang/IllegalArgumentException" := by
      rcases hP _ _ hp1 with ⟨r, z⟩ | ⟨E9, z, hE⟩
      · cases z
      · cases z; exact hE
    rcases hE with rfl | rfl
    · refine x_catch (pc := 5) G (name := "java/lang/IndexOutOfBoundsException") [] ({ startPc := 0, endPc := 9, handlerPc := 12, catchType := 13 } : ExceptionTableEntry) [({ startPc := 0, endPc := 9, handlerPc := 16, catchType := 15 } : ExceptionTableEntry)] (ht.trans rfl) (fun z hz => (List.not_mem_nil hz).elim) (by decide) (by decide) q_cl_L_13 (by decide) (fun q => ?_)
      refine x_astore4 (pc := 12) G dL_advance_12 (by decide) rfl ?_
      refine x_iconst (pc := 14) (v := 1) G dL_advance_14 (by decide) ?_
      exact x_iret (pc := 15) G B rfl dL_advance_15 ⟨w1, _, rfl, hd1, Or.inr ⟨_, hp1, congrArg (fun z => Sum.inl (some (Value.int z))) xIA_I.symm⟩⟩
    · refine x_catch (pc := 5) G (name := "java/lang/IllegalArgumentException") [({ startPc := 0, endPc := 9, handlerPc := 12, catchType := 13 } : ExceptionTableEntry)] ({ startPc := 0, endPc := 9, handlerPc := 16, catchType := 15 } : ExceptionTableEntry) [] (ht.trans rfl) (fun z hz => by
        simp only [List.mem_cons, List.not_mem_nil, or_false] at hz
        rcases hz with rfl
        · exact ⟨by decide, _, q_cl_L_13, by decide⟩) (by decide) (by decide) q_cl_L_15 (by decide) (fun q => ?_)
      refine x_astore4 (pc := 16) G dL_advance_16 (by decide) rfl ?_
      refine x_iconst (pc := 18) (v := 2) G dL_advance_18 (by decide) ?_
      exact x_iret (pc := 19) G B rfl dL_advance_19 ⟨w1, _, rfl, hd1, Or.inr ⟨_, hp1, congrArg (fun z => Sum.inl (some (Value.int z))) xIA_A.symm⟩⟩
theorem q_cw_settle : Cond.codeWith yL_settle cL_settle 4 (some .int) [(0, 8, 11, 13)] ∈ TB := tb_i 1021 (by decide +kernel) (by decide +kernel)
theorem dL_settle_0 : decode cL_settle 0 = .ok (.aload_n 2, 1) := by decide +kernel
theorem dL_settle_1 : decode cL_settle 1 = .ok (.iconst 0, 1) := by decide +kernel
theorem dL_settle_2 : decode cL_settle 2 = .ok (.aload_n 0, 1) := by decide +kernel
theorem dL_settle_3 : decode cL_settle 3 = .ok (.iload_n 1, 1) := by decide +kernel
theorem dL_settle_4 : decode cL_settle 4 = .ok (.invokevirtual 119, 3) := by decide +kernel
theorem dL_settle_7 : decode cL_settle 7 = .ok (.lastore, 1) := by decide +kernel
theorem dL_settle_8 : decode cL_settle 8 = .ok (.goto 6, 3) := by decide +kernel
theorem dL_settle_11 : decode cL_settle 11 = .ok (.astore_n 3, 1) := by decide +kernel
theorem dL_settle_12 : decode cL_settle 12 = .ok (.iconst 1, 1) := by decide +kernel
theorem dL_settle_13 : decode cL_settle 13 = .ok (.ireturn, 1) := by decide +kernel
theorem dL_settle_14 : decode cL_settle 14 = .ok (.iconst 0, 1) := by decide +kernel
theorem dL_settle_15 : decode cL_settle 15 = .ok (.ireturn, 1) := by decide +kernel
abbrev rmL_settle : Room := { frames := 9, cells := 1, slots := 6, locals := 158 }
set_option maxRecDepth 100000 in
set_option maxHeartbeats 4000000 in
theorem ch_settle {l : Launch} {k : KC} (hl : l.stackTraces = false) {w : Wd} {b : Nat} {fs : List Value} (hb : b ∈ w.1) (hbf : w.2 b = .inr (11, fs)) {ao : Nat} {f : Nat → Int64} (hd : DJ w (oW k ao f)) {p1 : Int32} {P : Out → Wd → Prop} (hC : MC l k yX10_settle (.code yX10_settle cX10_settle 5 (some .long)) rmt_X10_settle [.ref b, .int p1] w P) (hP : ∀ o w1, P o w1 → (∃ r, o = .inl (some (.long r))) ∨ ∃ E, o = .inr E ∧ (E = "java/lang/IndexOutOfBoundsException")) : MI l k yL_settle (.codeWith yL_settle cL_settle 4 (some .int) [(0, 8, 11, 13)]) rmL_settle [.ref b, .int p1, .ref ao] (wu w (oW k ao f)) (fun o w2 => ∃ w1 f1, w2 = wu w1 (oW k ao f1) ∧ DJ w1 (oW k ao f1) ∧ ((∃ r, P (.inl (some (.long r))) w1 ∧ o = .inl (some (.int 0)) ∧ f1 0 = r) ∨ ∃ E, P (.inr E) w1 ∧ o = .inl (some (.int (xcI E))))) := by
  refine ML.of 1 hl (by decide) (Nat.le_of_ble_eq_true rfl) ?_
  intro p e s m args below meth c A Q G B ht
  show Wx p l e rmL_settle s m args below meth c k A 4 Q 1 6 0 [some (.ref b), some (.int p1), some (.ref ao), none] [] (wu w (oW k ao f))
  refine x_aload2 (pc := 0) G dL_settle_0 ?_
  refine x_iconst (pc := 1) (v := 0) G dL_settle_1 (by decide) ?_
  refine x_aload0 (pc := 2) G dL_settle_2 ?_
  refine x_iload1 (pc := 3) G dL_settle_3 ?_
  refine x_callV (pc := 4) (bc1 := 0) (bs1 := 0) (n := 1) (As := [.int p1]) G (hC.frame hd) (List.mem_append_left _ hb) ((if_pos hb).trans hbf) kb_11.2.2.2.1 q_ml_L_119 q_im_yX10_settle q_se_yX10_settle q_in_X10 q_co_yX10_settle ⟨by decide, by decide, by decide +kernel⟩ ⟨Nat.le_of_ble_eq_true rfl, Nat.le_of_ble_eq_true rfl⟩ (Nat.le_of_ble_eq_true rfl) (Nat.le_of_ble_eq_true rfl) (Nat.le_of_ble_eq_true rfl) rfl rfl dL_settle_4 (fun v w9 hp => ?_) (fun E w9 hp => ?_)
  · obtain ⟨w1, hp1, hd1, rfl⟩ := hp
    obtain ⟨r, hv⟩ : ∃ r, v = some (.long r) := by
      rcases hP _ _ hp1 with ⟨r, z⟩ | ⟨E, z, _⟩
      · exact ⟨r, Sum.inl.inj z⟩
      · cases z
    subst hv
    refine x_lald0 (pc := 7) G hd1 dL_settle_7 ?_
    refine x_goto (pc := 8) (tgt := 14) G dL_settle_8 rfl ?_
    refine x_iconst (pc := 14) (v := 0) G dL_settle_14 (by decide) ?_
    exact x_iret (pc := 15) G B rfl dL_settle_15 ⟨w1, _, rfl, hd1, Or.inl ⟨r, hp1, rfl, up0⟩⟩
  · obtain ⟨w1, hp1, hd1, rfl⟩ := hp
    have hE : E = "java/lang/IndexOutOfBoundsException" := by
      rcases hP _ _ hp1 with ⟨r, z⟩ | ⟨E9, z, hE⟩
      · cases z
      · cases z; exact hE
    rcases hE with rfl
    · refine x_catch (pc := 4) G (name := "java/lang/IndexOutOfBoundsException") [] ({ startPc := 0, endPc := 8, handlerPc := 11, catchType := 13 } : ExceptionTableEntry) [] (ht.trans rfl) (fun z hz => (List.not_mem_nil hz).elim) (by decide) (by decide) q_cl_L_13 (by decide) (fun q => ?_)
      refine x_astore3 (pc := 11) G dL_settle_11 (by decide) rfl ?_
      refine x_iconst (pc := 12) (v := 1) G dL_settle_12 (by decide) ?_
      exact x_iret (pc := 13) G B rfl dL_settle_13 ⟨w1, _, rfl, hd1, Or.inr ⟨_, hp1, congrArg (fun z => Sum.inl (some (Value.int z))) xI_I.symm⟩⟩
theorem q_cw_card : Cond.codeWith yL_card cL_card 5 (some .int) [(0, 10, 13, 13), (0, 10, 17, 15), (0, 10, 21, 17)] ∈ TB := tb_i 1028 (by decide +kernel) (by decide +kernel)
theorem dL_card_0 : decode cL_card 0 = .ok (.aload_n 3, 1) := by decide +kernel
theorem dL_card_1 : decode cL_card 1 = .ok (.iconst 0, 1) := by decide +kernel
theorem dL_card_2 : decode cL_card 2 = .ok (.aload_n 0, 1) := by decide +kernel
theorem dL_card_3 : decode cL_card 3 = .ok (.iload_n 1, 1) := by decide +kernel
theorem dL_card_4 : decode cL_card 4 = .ok (.iload_n 2, 1) := by decide +kernel
theorem dL_card_5 : decode cL_card 5 = .ok (.invokevirtual 122, 3) := by decide +kernel
theorem dL_card_8 : decode cL_card 8 = .ok (.i2l, 1) := by decide +kernel
theorem dL_card_9 : decode cL_card 9 = .ok (.lastore, 1) := by decide +kernel
theorem dL_card_10 : decode cL_card 10 = .ok (.goto 15, 3) := by decide +kernel
theorem dL_card_13 : decode cL_card 13 = .ok (.astore 4, 2) := by decide +kernel
theorem dL_card_15 : decode cL_card 15 = .ok (.iconst 1, 1) := by decide +kernel
theorem dL_card_16 : decode cL_card 16 = .ok (.ireturn, 1) := by decide +kernel
theorem dL_card_17 : decode cL_card 17 = .ok (.astore 4, 2) := by decide +kernel
theorem dL_card_19 : decode cL_card 19 = .ok (.iconst 2, 1) := by decide +kernel
theorem dL_card_20 : decode cL_card 20 = .ok (.ireturn, 1) := by decide +kernel
theorem dL_card_21 : decode cL_card 21 = .ok (.astore 4, 2) := by decide +kernel
theorem dL_card_23 : decode cL_card 23 = .ok (.iconst 3, 1) := by decide +kernel
theorem dL_card_24 : decode cL_card 24 = .ok (.ireturn, 1) := by decide +kernel
theorem dL_card_25 : decode cL_card 25 = .ok (.iconst 0, 1) := by decide +kernel
theorem dL_card_26 : decode cL_card 26 = .ok (.ireturn, 1) := by decide +kernel
abbrev rmL_card : Room := { frames := 9, cells := 2, slots := 76, locals := 263 }
set_option maxRecDepth 100000 in
set_option maxHeartbeats 4000000 in
theorem ch_card {l : Launch} {k : KC} (hl : l.stackTraces = false) {w : Wd} {b : Nat} {fs : List Value} (hb : b ∈ w.1) (hbf : w.2 b = .inr (11, fs)) {ao : Nat} {f : Nat → Int64} (hd : DJ w (oW k ao f)) {p1 p2 : Int32} {P : Out → Wd → Prop} (hC : MC l k yX10_card (.code yX10_card cX10_card 4 (some .int)) rma_card [.ref b, .int p1, .int p2] w P) (hP : ∀ o w1, P o w1 → (∃ r, o = .inl (some (.int r))) ∨ ∃ E, o = .inr E ∧ (E = "java/lang/IndexOutOfBoundsException" ∨ E = "java/lang/IllegalArgumentException" ∨ E = "java/lang/IllegalStateException")) : MI l k yL_card (.codeWith yL_card cL_card 5 (some .int) [(0, 10, 13, 13), (0, 10, 17, 15), (0, 10, 21, 17)]) rmL_card [.ref b, .int p1, .int p2, .ref ao] (wu w (oW k ao f)) (fun o w2 => ∃ w1 f1, w2 = wu w1 (oW k ao f1) ∧ DJ w1 (oW k ao f1) ∧ ((∃ r, P (.inl (some (.int r))) w1 ∧ o = .inl (some (.int 0)) ∧ f1 0 = r.toInt64) ∨ ∃ E, P (.inr E) w1 ∧ o = .inl (some (.int (xcIAS E))))) := by
  refine ML.of 1 hl (by decide) (Nat.le_of_ble_eq_true rfl) ?_
  intro p e s m args below meth c A Q G B ht
  show Wx p l e rmL_card s m args below meth c k A 5 Q 2 76 0 [some (.ref b), some (.int p1), some (.int p2), some (.ref ao), none] [] (wu w (oW k ao f))
  refine x_aload3 (pc := 0) G dL_card_0 ?_
  refine x_iconst (pc := 1) (v := 0) G dL_card_1 (by decide) ?_
  refine x_aload0 (pc := 2) G dL_card_2 ?_
  refine x_iload1 (pc := 3) G dL_card_3 ?_
  refine x_iload2 (pc := 4) G dL_card_4 ?_
  refine x_callV (pc := 5) (bc1 := 0) (bs1 := 0) (n := 2) (As := [.int p1, .int p2]) G (hC.frame hd) (List.mem_append_left _ hb) ((if_pos hb).trans hbf) kb_11.2.2.2.1 q_ml_L_122 q_im_yX10_card q_se_yX10_card q_in_X10 q_co_yX10_card ⟨by decide, by decide, by decide +kernel⟩ ⟨Nat.le_of_ble_eq_true rfl, Nat.le_of_ble_eq_true rfl⟩ (Nat.le_of_ble_eq_true rfl) (Nat.le_of_ble_eq_true rfl) (Nat.le_of_ble_eq_true rfl) rfl rfl dL_card_5 (fun v w9 hp => ?_) (fun E w9 hp => ?_)
  · obtain ⟨w1, hp1, hd1, rfl⟩ := hp
    obtain ⟨r, hv⟩ : ∃ r, v = some (.int r) := by
      rcases hP _ _ hp1 with ⟨r, z⟩ | ⟨E, z, _⟩
      · exact ⟨r, Sum.inl.inj z⟩
      · cases z
    subst hv
    refine x_i2l (pc := 8) G dL_card_8 ?_
    refine x_lald0 (pc := 9) G hd1 dL_card_9 ?_
    refine x_goto (pc := 10) (tgt := 25) G dL_card_10 rfl ?_
    refine x_iconst (pc := 25) (v := 0) G dL_card_25 (by decide) ?_
    exact x_iret (pc := 26) G B rfl dL_card_26 ⟨w1, _, rfl, hd1, Or.inl ⟨r, hp1, rfl, up0⟩⟩
  · obtain ⟨w1, hp1, hd1, rfl⟩ := hp
    have hE : E = "java/lang/IndexOutOfBoundsException" ∨ E = "java/lang/IllegalArgumentException" ∨ E = "java/lang/IllegalStateException" := by
      rcases hP _ _ hp1 with ⟨r, z⟩ | ⟨E9, z, hE⟩
      · cases z
      · cases z; exact hE
    rcases hE with rfl | rfl | rfl
    · refine x_catch (pc := 5) G (name := "java/lang/IndexOutOfBoundsException") [] ({ startPc := 0, endPc := 10, handlerPc := 13, catchType := 13 } : ExceptionTableEntry) [({ startPc := 0, endPc := 10, handlerPc := 17, catchType := 15 } : ExceptionTableEntry), ({ startPc := 0, endPc := 10, handlerPc := 21, catchType := 17 } : ExceptionTableEntry)] (ht.trans rfl) (fun z hz => (List.not_mem_nil hz).elim) (by decide) (by decide) q_cl_L_13 (by decide) (fun q => ?_)
      refine x_astore4 (pc := 13) G dL_card_13 (by decide) rfl ?_
      refine x_iconst (pc := 15) (v := 1) G dL_card_15 (by decide) ?_
      exact x_iret (pc := 16) G B rfl dL_card_16 ⟨w1, _, rfl, hd1, Or.inr ⟨_, hp1, congrArg (fun z => Sum.inl (some (Value.int z))) xIAS_I.symm⟩⟩
    · refine x_catch (pc := 5) G (name := "java/lang/IllegalArgumentException") [({ startPc := 0, endPc := 10, handlerPc := 13, catchType := 13 } : ExceptionTableEntry)] ({ startPc := 0, endPc := 10, handlerPc := 17, catchType := 15 } : ExceptionTableEntry) [({ startPc := 0, endPc := 10, handlerPc := 21, catchType := 17 } : ExceptionTableEntry)] (ht.trans rfl) (fun z hz => by
        simp only [List.mem_cons, List.not_mem_nil, or_false] at hz
        rcases hz with rfl
        · exact ⟨by decide, _, q_cl_L_13, by decide⟩) (by decide) (by decide) q_cl_L_15 (by decide) (fun q => ?_)
      refine x_astore4 (pc := 17) G dL_card_17 (by decide) rfl ?_
      refine x_iconst (pc := 19) (v := 2) G dL_card_19 (by decide) ?_
      exact x_iret (pc := 20) G B rfl dL_card_20 ⟨w1, _, rfl, hd1, Or.inr ⟨_, hp1, congrArg (fun z => Sum.inl (some (Value.int z))) xIAS_A.symm⟩⟩
    · refine x_catch (pc := 5) G (name := "java/lang/IllegalStateException") [({ startPc := 0, endPc := 10, handlerPc := 13, catchType := 13 } : ExceptionTableEntry), ({ startPc := 0, endPc := 10, handlerPc := 17, catchType := 15 } : ExceptionTableEntry)] ({ startPc := 0, endPc := 10, handlerPc := 21, catchType := 17 } : ExceptionTableEntry) [] (ht.trans rfl) (fun z hz => by
        simp only [List.mem_cons, List.not_mem_nil, or_false] at hz
        rcases hz with rfl | rfl
        · exact ⟨by decide, _, q_cl_L_13, by decide⟩
        · exact ⟨by decide, _, q_cl_L_15, by decide⟩) (by decide) (by decide) q_cl_L_17 (by decide) (fun q => ?_)
      refine x_astore4 (pc := 21) G dL_card_21 (by decide) rfl ?_
      refine x_iconst (pc := 23) (v := 3) G dL_card_23 (by decide) ?_
      exact x_iret (pc := 24) G B rfl dL_card_24 ⟨w1, _, rfl, hd1, Or.inr ⟨_, hp1, congrArg (fun z => Sum.inl (some (Value.int z))) xIAS_S.symm⟩⟩
theorem q_cw_tell : Cond.codeWith yL_tell cL_tell 6 (some .int) [(0, 11, 14, 13), (0, 11, 18, 15), (0, 11, 22, 17)] ∈ TB := tb_i 1055 (by decide +kernel) (by decide +kernel)
theorem dL_tell_0 : decode cL_tell 0 = .ok (.aload 4, 2) := by decide +kernel
theorem dL_tell_2 : decode cL_tell 2 = .ok (.iconst 0, 1) := by decide +kernel
theorem dL_tell_3 : decode cL_tell 3 = .ok (.aload_n 0, 1) := by decide +kernel
theorem dL_tell_4 : decode cL_tell 4 = .ok (.iload_n 1, 1) := by decide +kernel
theorem dL_tell_5 : decode cL_tell 5 = .ok (.iload_n 2, 1) := by decide +kernel
theorem dL_tell_6 : decode cL_tell 6 = .ok (.iload_n 3, 1) := by decide +kernel
theorem dL_tell_7 : decode cL_tell 7 = .ok (.invokevirtual 125, 3) := by decide +kernel
theorem dL_tell_10 : decode cL_tell 10 = .ok (.lastore, 1) := by decide +kernel
theorem dL_tell_11 : decode cL_tell 11 = .ok (.goto 15, 3) := by decide +kernel
theorem dL_tell_14 : decode cL_tell 14 = .ok (.astore 5, 2) := by decide +kernel
theorem dL_tell_16 : decode cL_tell 16 = .ok (.iconst 1, 1) := by decide +kernel
theorem dL_tell_17 : decode cL_tell 17 = .ok (.ireturn, 1) := by decide +kernel
theorem dL_tell_18 : decode cL_tell 18 = .ok (.astore 5, 2) := by decide +kernel
theorem dL_tell_20 : decode cL_tell 20 = .ok (.iconst 2, 1) := by decide +kernel
theorem dL_tell_21 : decode cL_tell 21 = .ok (.ireturn, 1) := by decide +kernel
theorem dL_tell_22 : decode cL_tell 22 = .ok (.astore 5, 2) := by decide +kernel
theorem dL_tell_24 : decode cL_tell 24 = .ok (.iconst 3, 1) := by decide +kernel
theorem dL_tell_25 : decode cL_tell 25 = .ok (.ireturn, 1) := by decide +kernel
theorem dL_tell_26 : decode cL_tell 26 = .ok (.iconst 0, 1) := by decide +kernel
theorem dL_tell_27 : decode cL_tell 27 = .ok (.ireturn, 1) := by decide +kernel
abbrev rmL_tell : Room := { frames := 10, cells := 1, slots := 6, locals := 181 }
set_option maxRecDepth 100000 in
set_option maxHeartbeats 4000000 in
theorem ch_tell {l : Launch} {k : KC} (hl : l.stackTraces = false) {w : Wd} {b : Nat} {fs : List Value} (hb : b ∈ w.1) (hbf : w.2 b = .inr (11, fs)) {ao : Nat} {f : Nat → Int64} (hd : DJ w (oW k ao f)) {p1 p2 p3 : Int32} {P : Out → Wd → Prop} (hC : MC l k yX10_tell (.code yX10_tell cX10_tell 7 (some .long)) rmt_X10_tell [.ref b, .int p1, .int p2, .int p3] w P) (hP : ∀ o w1, P o w1 → (∃ r, o = .inl (some (.long r))) ∨ ∃ E, o = .inr E ∧ (E = "java/lang/IndexOutOfBoundsException" ∨ E = "java/lang/IllegalArgumentException" ∨ E = "java/lang/IllegalStateException")) : MI l k yL_tell (.codeWith yL_tell cL_tell 6 (some .int) [(0, 11, 14, 13), (0, 11, 18, 15), (0, 11, 22, 17)]) rmL_tell [.ref b, .int p1, .int p2, .int p3, .ref ao] (wu w (oW k ao f)) (fun o w2 => ∃ w1 f1, w2 = wu w1 (oW k ao f1) ∧ DJ w1 (oW k ao f1) ∧ ((∃ r, P (.inl (some (.long r))) w1 ∧ o = .inl (some (.int 0)) ∧ f1 0 = r) ∨ ∃ E, P (.inr E) w1 ∧ o = .inl (some (.int (xcIAS E))))) := by
  refine ML.of 1 hl (by decide) (Nat.le_of_ble_eq_true rfl) ?_
  intro p e s m args below meth c A Q G B ht
  show Wx p l e rmL_tell s m args below meth c k A 6 Q 1 6 0 [some (.ref b), some (.int p1), some (.int p2), some (.int p3), some (.ref ao), none] [] (wu w (oW k ao f))
  refine x_aload4 (pc := 0) G dL_tell_0 ?_
  refine x_iconst (pc := 2) (v := 0) G dL_tell_2 (by decide) ?_
  refine x_aload0 (pc := 3) G dL_tell_3 ?_
  refine x_iload1 (pc := 4) G dL_tell_4 ?_
  refine x_iload2 (pc := 5) G dL_tell_5 ?_
  refine x_iload3 (pc := 6) G dL_tell_6 ?_
  refine x_callV (pc := 7) (bc1 := 0) (bs1 := 0) (n := 3) (As := [.int p1, .int p2, .int p3]) G (hC.frame hd) (List.mem_append_left _ hb) ((if_pos hb).trans hbf) kb_11.2.2.2.1 q_ml_L_125 q_im_yX10_tell q_se_yX10_tell q_in_X10 q_co_yX10_tell ⟨by decide, by decide, by decide +kernel⟩ ⟨Nat.le_of_ble_eq_true rfl, Nat.le_of_ble_eq_true rfl⟩ (Nat.le_of_ble_eq_true rfl) (Nat.le_of_ble_eq_true rfl) (Nat.le_of_ble_eq_true rfl) rfl rfl dL_tell_7 (fun v w9 hp => ?_) (fun E w9 hp => ?_)
  · obtain ⟨w1, hp1, hd1, rfl⟩ := hp
    obtain ⟨r, hv⟩ : ∃ r, v = some (.long r) := by
      rcases hP _ _ hp1 with ⟨r, z⟩ | ⟨E, z, _⟩
      · exact ⟨r, Sum.inl.inj z⟩
      · cases z
    subst hv
    refine x_lald0 (pc := 10) G hd1 dL_tell_10 ?_
    refine x_goto (pc := 11) (tgt := 26) G dL_tell_11 rfl ?_
    refine x_iconst (pc := 26) (v := 0) G dL_tell_26 (by decide) ?_
    exact x_iret (pc := 27) G B rfl dL_tell_27 ⟨w1, _, rfl, hd1, Or.inl ⟨r, hp1, rfl, up0⟩⟩
  · obtain ⟨w1, hp1, hd1, rfl⟩ := hp
    have hE : E = "java/lang/IndexOutOfBoundsException" ∨ E = "java/lang/IllegalArgumentException" ∨ E = "java/lang/IllegalStateException" := by
      rcases hP _ _ hp1 with ⟨r, z⟩ | ⟨E9, z, hE⟩
      · cases z
      · cases z; exact hE
    rcases hE with rfl | rfl | rfl
    · refine x_catch (pc := 7) G (name := "java/lang/IndexOutOfBoundsException") [] ({ startPc := 0, endPc := 11, handlerPc := 14, catchType := 13 } : ExceptionTableEntry) [({ startPc := 0, endPc := 11, handlerPc := 18, catchType := 15 } : ExceptionTableEntry), ({ startPc := 0, endPc := 11, handlerPc := 22, catchType := 17 } : ExceptionTableEntry)] (ht.trans rfl) (fun z hz => (List.not_mem_nil hz).elim) (by decide) (by decide) q_cl_L_13 (by decide) (fun q => ?_)
      refine x_astore5 (pc := 14) G dL_tell_14 (by decide) rfl ?_
      refine x_iconst (pc := 16) (v := 1) G dL_tell_16 (by decide) ?_
      exact x_iret (pc := 17) G B rfl dL_tell_17 ⟨w1, _, rfl, hd1, Or.inr ⟨_, hp1, congrArg (fun z => Sum.inl (some (Value.int z))) xIAS_I.symm⟩⟩
    · refine x_catch (pc := 7) G (name := "java/lang/IllegalArgumentException") [({ startPc := 0, endPc := 11, handlerPc := 14, catchType := 13 } : ExceptionTableEntry)] ({ startPc := 0, endPc := 11, handlerPc := 18, catchType := 15 } : ExceptionTableEntry) [({ startPc := 0, endPc := 11, handlerPc := 22, catchType := 17 } : ExceptionTableEntry)] (ht.trans rfl) (fun z hz => by
        simp only [List.mem_cons, List.not_mem_nil, or_false] at hz
        rcases hz with rfl
        · exact ⟨by decide, _, q_cl_L_13, by decide⟩) (by decide) (by decide) q_cl_L_15 (by decide) (fun q => ?_)
      refine x_astore5 (pc := 18) G dL_tell_18 (by decide) rfl ?_
      refine x_iconst (pc := 20) (v := 2) G dL_tell_20 (by decide) ?_
      exact x_iret (pc := 21) G B rfl dL_tell_21 ⟨w1, _, rfl, hd1, Or.inr ⟨_, hp1, congrArg (fun z => Sum.inl (some (Value.int z))) xIAS_A.symm⟩⟩
    · refine x_catch (pc := 7) G (name := "java/lang/IllegalStateException") [({ startPc := 0, endPc := 11, handlerPc := 14, catchType := 13 } : ExceptionTableEntry), ({ startPc := 0, endPc := 11, handlerPc := 18, catchType := 15 } : ExceptionTableEntry)] ({ startPc := 0, endPc := 11, handlerPc := 22, catchType := 17 } : ExceptionTableEntry) [] (ht.trans rfl) (fun z hz => by
        simp only [List.mem_cons, List.not_mem_nil, or_false] at hz
        rcases hz with rfl | rfl
        · exact ⟨by decide, _, q_cl_L_13, by decide⟩
        · exact ⟨by decide, _, q_cl_L_15, by decide⟩) (by decide) (by decide) q_cl_L_17 (by decide) (fun q => ?_)
      refine x_astore5 (pc := 22) G dL_tell_22 (by decide) rfl ?_
      refine x_iconst (pc := 24) (v := 3) G dL_tell_24 (by decide) ?_
      exact x_iret (pc := 25) G B rfl dL_tell_25 ⟨w1, _, rfl, hd1, Or.inr ⟨_, hp1, congrArg (fun z => Sum.inl (some (Value.int z))) xIAS_S.symm⟩⟩
theorem q_cw_sample : Cond.codeWith yL_sample cL_sample 4 (some .int) [(0, 6, 9, 15)] ∈ TB := tb_i 1067 (by decide +kernel) (by decide +kernel)
theorem dL_sample_0 : decode cL_sample 0 = .ok (.aload_n 0, 1) := by decide +kernel
theorem dL_sample_1 : decode cL_sample 1 = .ok (.iload_n 1, 1) := by decide +kernel
theorem dL_sample_2 : decode cL_sample 2 = .ok (.iload_n 2, 1) := by decide +kernel
theorem dL_sample_3 : decode cL_sample 3 = .ok (.invokevirtual 128, 3) := by decide +kernel
theorem dL_sample_6 : decode cL_sample 6 = .ok (.goto 6, 3) := by decide +kernel
theorem dL_sample_9 : decode cL_sample 9 = .ok (.astore_n 3, 1) := by decide +kernel
theorem dL_sample_10 : decode cL_sample 10 = .ok (.iconst 1, 1) := by decide +kernel
theorem dL_sample_11 : decode cL_sample 11 = .ok (.ireturn, 1) := by decide +kernel
theorem dL_sample_12 : decode cL_sample 12 = .ok (.iconst 0, 1) := by decide +kernel
theorem dL_sample_13 : decode cL_sample 13 = .ok (.ireturn, 1) := by decide +kernel
abbrev rmL_sample : Room := { frames := 8, cells := 1, slots := 6, locals := 134 }
set_option maxRecDepth 100000 in
set_option maxHeartbeats 4000000 in
theorem ch_sample {l : Launch} {k : KC} (hl : l.stackTraces = false) {w : Wd} {b : Nat} {fs : List Value} (hb : b ∈ w.1) (hbf : w.2 b = .inr (11, fs)) {p1 p2 : Int32} {P : Out → Wd → Prop} (hC : MC l k yX10_sample (.code yX10_sample cX10_sample 3 none) rmt_X10_sample [.ref b, .int p1, .int p2] w P) (hP : ∀ o w1, P o w1 → (o = .inl none) ∨ ∃ E, o = .inr E ∧ (E = "java/lang/IllegalArgumentException")) : MI l k yL_sample (.codeWith yL_sample cL_sample 4 (some .int) [(0, 6, 9, 15)]) rmL_sample [.ref b, .int p1, .int p2] w (fun o w2 => ∃ w1, w2 = w1 ∧ ((P (.inl none) w1 ∧ o = .inl (some (.int 0))) ∨ ∃ E, P (.inr E) w1 ∧ o = .inl (some (.int (xcA E))))) := by
  refine ML.of 1 hl (by decide) (Nat.le_of_ble_eq_true rfl) ?_
  intro p e s m args below meth c A Q G B ht
  show Wx p l e rmL_sample s m args below meth c k A 4 Q 1 6 0 [some (.ref b), some (.int p1), some (.int p2), none] [] w
  refine x_aload0 (pc := 0) G dL_sample_0 ?_
  refine x_iload1 (pc := 1) G dL_sample_1 ?_
  refine x_iload2 (pc := 2) G dL_sample_2 ?_
  refine x_callV (pc := 3) (bc1 := 0) (bs1 := 0) (n := 2) (As := [.int p1, .int p2]) G hC hb hbf kb_11.2.2.2.1 q_ml_L_128 q_im_yX10_sample q_se_yX10_sample q_in_X10 q_co_yX10_sample ⟨by decide, by decide, by decide +kernel⟩ ⟨Nat.le_of_ble_eq_true rfl, Nat.le_of_ble_eq_true rfl⟩ (Nat.le_of_ble_eq_true rfl) (Nat.le_of_ble_eq_true rfl) (Nat.le_of_ble_eq_true rfl) rfl rfl dL_sample_3 (fun v w9 hp => ?_) (fun E w9 hp => ?_)
  · have hp1 := hp
    have hv : v = none := by
      rcases hP _ _ hp1 with z | ⟨E, z, _⟩
      · exact Sum.inl.inj z
      · cases z
    subst hv
    refine x_goto (pc := 6) (tgt := 12) G dL_sample_6 rfl ?_
    refine x_iconst (pc := 12) (v := 0) G dL_sample_12 (by decide) ?_
    exact x_iret (pc := 13) G B rfl dL_sample_13 ⟨_, rfl, Or.inl ⟨hp1, rfl⟩⟩
  · have hp1 := hp
    have hE : E = "java/lang/IllegalArgumentException" := by
      rcases hP _ _ hp1 with z | ⟨E9, z, hE⟩
      · cases z
      · cases z; exact hE
    rcases hE with rfl
    · refine x_catch (pc := 3) G (name := "java/lang/IllegalArgumentException") [] ({ startPc := 0, endPc := 6, handlerPc := 9, catchType := 15 } : ExceptionTableEntry) [] (ht.trans rfl) (fun z hz => (List.not_mem_nil hz).elim) (by decide) (by decide) q_cl_L_15 (by decide) (fun q => ?_)
      refine x_astore3 (pc := 9) G dL_sample_9 (by decide) rfl ?_
      refine x_iconst (pc := 10) (v := 1) G dL_sample_10 (by decide) ?_
      exact x_iret (pc := 11) G B rfl dL_sample_11 ⟨_, rfl, Or.inr ⟨_, hp1, congrArg (fun z => Sum.inl (some (Value.int z))) xA_A.symm⟩⟩
theorem q_cw_centre : Cond.codeWith yL_centre cL_centre 6 (some .int) [(0, 11, 14, 13), (0, 11, 18, 15)] ∈ TB := tb_i 1074 (by decide +kernel) (by decide +kernel)
theorem dL_centre_0 : decode cL_centre 0 = .ok (.aload 4, 2) := by decide +kernel
theorem dL_centre_2 : decode cL_centre 2 = .ok (.iconst 0, 1) := by decide +kernel
theorem dL_centre_3 : decode cL_centre 3 = .ok (.aload_n 0, 1) := by decide +kernel
theorem dL_centre_4 : decode cL_centre 4 = .ok (.iload_n 1, 1) := by decide +kernel
theorem dL_centre_5 : decode cL_centre 5 = .ok (.iload_n 2, 1) := by decide +kernel
theorem dL_centre_6 : decode cL_centre 6 = .ok (.iload_n 3, 1) := by decide +kernel
theorem dL_centre_7 : decode cL_centre 7 = .ok (.invokevirtual 131, 3) := by decide +kernel
theorem dL_centre_10 : decode cL_centre 10 = .ok (.lastore, 1) := by decide +kernel
theorem dL_centre_11 : decode cL_centre 11 = .ok (.goto 11, 3) := by decide +kernel
theorem dL_centre_14 : decode cL_centre 14 = .ok (.astore 5, 2) := by decide +kernel
theorem dL_centre_16 : decode cL_centre 16 = .ok (.iconst 1, 1) := by decide +kernel
theorem dL_centre_17 : decode cL_centre 17 = .ok (.ireturn, 1) := by decide +kernel
theorem dL_centre_18 : decode cL_centre 18 = .ok (.astore 5, 2) := by decide +kernel
theorem dL_centre_20 : decode cL_centre 20 = .ok (.iconst 2, 1) := by decide +kernel
theorem dL_centre_21 : decode cL_centre 21 = .ok (.ireturn, 1) := by decide +kernel
theorem dL_centre_22 : decode cL_centre 22 = .ok (.iconst 0, 1) := by decide +kernel
theorem dL_centre_23 : decode cL_centre 23 = .ok (.ireturn, 1) := by decide +kernel
abbrev rmL_centre : Room := { frames := 10, cells := 1, slots := 6, locals := 178 }
set_option maxRecDepth 100000 in
set_option maxHeartbeats 4000000 in
theorem ch_centre {l : Launch} {k : KC} (hl : l.stackTraces = false) {w : Wd} {b : Nat} {fs : List Value} (hb : b ∈ w.1) (hbf : w.2 b = .inr (11, fs)) {ao : Nat} {f : Nat → Int64} (hd : DJ w (oW k ao f)) {p1 p2 p3 : Int32} {P : Out → Wd → Prop} (hC : MC l k yX10_centre (.code yX10_centre cX10_centre 5 (some .long)) rmt_X10_centre [.ref b, .int p1, .int p2, .int p3] w P) (hP : ∀ o w1, P o w1 → (∃ r, o = .inl (some (.long r))) ∨ ∃ E, o = .inr E ∧ (E = "java/lang/IndexOutOfBoundsException" ∨ E = "java/lang/IllegalArgumentException")) : MI l k yL_centre (.codeWith yL_centre cL_centre 6 (some .int) [(0, 11, 14, 13), (0, 11, 18, 15)]) rmL_centre [.ref b, .int p1, .int p2, .int p3, .ref ao] (wu w (oW k ao f)) (fun o w2 => ∃ w1 f1, w2 = wu w1 (oW k ao f1) ∧ DJ w1 (oW k ao f1) ∧ ((∃ r, P (.inl (some (.long r))) w1 ∧ o = .inl (some (.int 0)) ∧ f1 0 = r) ∨ ∃ E, P (.inr E) w1 ∧ o = .inl (some (.int (xcIA E))))) := by
  refine ML.of 1 hl (by decide) (Nat.le_of_ble_eq_true rfl) ?_
  intro p e s m args below meth c A Q G B ht
  show Wx p l e rmL_centre s m args below meth c k A 6 Q 1 6 0 [some (.ref b), some (.int p1), some (.int p2), some (.int p3), some (.ref ao), none] [] (wu w (oW k ao f))
  refine x_aload4 (pc := 0) G dL_centre_0 ?_
  refine x_iconst (pc := 2) (v := 0) G dL_centre_2 (by decide) ?_
  refine x_aload0 (pc := 3) G dL_centre_3 ?_
  refine x_iload1 (pc := 4) G dL_centre_4 ?_
  refine x_iload2 (pc := 5) G dL_centre_5 ?_
  refine x_iload3 (pc := 6) G dL_centre_6 ?_
  refine x_callV (pc := 7) (bc1 := 0) (bs1 := 0) (n := 3) (As := [.int p1, .int p2, .int p3]) G (hC.frame hd) (List.mem_append_left _ hb) ((if_pos hb).trans hbf) kb_11.2.2.2.1 q_ml_L_131 q_im_yX10_centre q_se_yX10_centre q_in_X10 q_co_yX10_centre ⟨by decide, by decide, by decide +kernel⟩ ⟨Nat.le_of_ble_eq_true rfl, Nat.le_of_ble_eq_true rfl⟩ (Nat.le_of_ble_eq_true rfl) (Nat.le_of_ble_eq_true rfl) (Nat.le_of_ble_eq_true rfl) rfl rfl dL_centre_7 (fun v w9 hp => ?_) (fun E w9 hp => ?_)
  · obtain ⟨w1, hp1, hd1, rfl⟩ := hp
    obtain ⟨r, hv⟩ : ∃ r, v = some (.long r) := by
      rcases hP _ _ hp1 with ⟨r, z⟩ | ⟨E, z, _⟩
      · exact ⟨r, Sum.inl.inj z⟩
      · cases z
    subst hv
    refine x_lald0 (pc := 10) G hd1 dL_centre_10 ?_
    refine x_goto (pc := 11) (tgt := 22) G dL_centre_11 rfl ?_
    refine x_iconst (pc := 22) (v := 0) G dL_centre_22 (by decide) ?_
    exact x_iret (pc := 23) G B rfl dL_centre_23 ⟨w1, _, rfl, hd1, Or.inl ⟨r, hp1, rfl, up0⟩⟩
  · obtain ⟨w1, hp1, hd1, rfl⟩ := hp
    have hE : E = "java/lang/IndexOutOfBoundsException" ∨ E = "java/lang/IllegalArgumentException" := by
      rcases hP _ _ hp1 with ⟨r, z⟩ | ⟨E9, z, hE⟩
      · cases z
      · cases z; exact hE
    rcases hE with rfl | rfl
    · refine x_catch (pc := 7) G (name := "java/lang/IndexOutOfBoundsException") [] ({ startPc := 0, endPc := 11, handlerPc := 14, catchType := 13 } : ExceptionTableEntry) [({ startPc := 0, endPc := 11, handlerPc := 18, catchType := 15 } : ExceptionTableEntry)] (ht.trans rfl) (fun z hz => (List.not_mem_nil hz).elim) (by decide) (by decide) q_cl_L_13 (by decide) (fun q => ?_)
      refine x_astore5 (pc := 14) G dL_centre_14 (by decide) rfl ?_
      refine x_iconst (pc := 16) (v := 1) G dL_centre_16 (by decide) ?_
      exact x_iret (pc := 17) G B rfl dL_centre_17 ⟨w1, _, rfl, hd1, Or.inr ⟨_, hp1, congrArg (fun z => Sum.inl (some (Value.int z))) xIA_I.symm⟩⟩
    · refine x_catch (pc := 7) G (name := "java/lang/IllegalArgumentException") [({ startPc := 0, endPc := 11, handlerPc := 14, catchType := 13 } : ExceptionTableEntry)] ({ startPc := 0, endPc := 11, handlerPc := 18, catchType := 15 } : ExceptionTableEntry) [] (ht.trans rfl) (fun z hz => by
        simp only [List.mem_cons, List.not_mem_nil, or_false] at hz
        rcases hz with rfl
        · exact ⟨by decide, _, q_cl_L_13, by decide⟩) (by decide) (by decide) q_cl_L_15 (by decide) (fun q => ?_)
      refine x_astore5 (pc := 18) G dL_centre_18 (by decide) rfl ?_
      refine x_iconst (pc := 20) (v := 2) G dL_centre_20 (by decide) ?_
      exact x_iret (pc := 21) G B rfl dL_centre_21 ⟨w1, _, rfl, hd1, Or.inr ⟨_, hp1, congrArg (fun z => Sum.inl (some (Value.int z))) xIA_A.symm⟩⟩
theorem q_cw_requestOf : Cond.codeWith yL_requestOf cL_requestOf 5 (some .int) [(0, 9, 12, 13), (0, 9, 16, 15)] ∈ TB := tb_i 1082 (by decide +kernel) (by decide +kernel)
theorem dL_requestOf_0 : decode cL_requestOf 0 = .ok (.aload_n 3, 1) := by decide +kernel
theorem dL_requestOf_1 : decode cL_requestOf 1 = .ok (.iconst 0, 1) := by decide +kernel
theorem dL_requestOf_2 : decode cL_requestOf 2 = .ok (.aload_n 0, 1) := by decide +kernel
theorem dL_requestOf_3 : decode cL_requestOf 3 = .ok (.iload_n 1, 1) := by decide +kernel
theorem dL_requestOf_4 : decode cL_requestOf 4 = .ok (.iload_n 2, 1) := by decide +kernel
theorem dL_requestOf_5 : decode cL_requestOf 5 = .ok (.invokevirtual 134, 3) := by decide +kernel
theorem dL_requestOf_8 : decode cL_requestOf 8 = .ok (.lastore, 1) := by decide +kernel
theorem dL_requestOf_9 : decode cL_requestOf 9 = .ok (.goto 11, 3) := by decide +kernel
theorem dL_requestOf_12 : decode cL_requestOf 12 = .ok (.astore 4, 2) := by decide +kernel
theorem dL_requestOf_14 : decode cL_requestOf 14 = .ok (.iconst 1, 1) := by decide +kernel
theorem dL_requestOf_15 : decode cL_requestOf 15 = .ok (.ireturn, 1) := by decide +kernel
theorem dL_requestOf_16 : decode cL_requestOf 16 = .ok (.astore 4, 2) := by decide +kernel
theorem dL_requestOf_18 : decode cL_requestOf 18 = .ok (.iconst 2, 1) := by decide +kernel
theorem dL_requestOf_19 : decode cL_requestOf 19 = .ok (.ireturn, 1) := by decide +kernel
theorem dL_requestOf_20 : decode cL_requestOf 20 = .ok (.iconst 0, 1) := by decide +kernel
theorem dL_requestOf_21 : decode cL_requestOf 21 = .ok (.ireturn, 1) := by decide +kernel
abbrev rmL_requestOf : Room := { frames := 9, cells := 1, slots := 6, locals := 155 }
set_option maxRecDepth 100000 in
set_option maxHeartbeats 4000000 in
theorem ch_requestOf {l : Launch} {k : KC} (hl : l.stackTraces = false) {w : Wd} {b : Nat} {fs : List Value} (hb : b ∈ w.1) (hbf : w.2 b = .inr (11, fs)) {ao : Nat} {f : Nat → Int64} (hd : DJ w (oW k ao f)) {p1 p2 : Int32} {P : Out → Wd → Prop} (hC : MC l k yX10_requestOf (.code yX10_requestOf cX10_requestOf 4 (some .long)) rmt_X10_requestOf [.ref b, .int p1, .int p2] w P) (hP : ∀ o w1, P o w1 → (∃ r, o = .inl (some (.long r))) ∨ ∃ E, o = .inr E ∧ (E = "java/lang/IndexOutOfBoundsException" ∨ E = "java/lang/IllegalArgumentException")) : MI l k yL_requestOf (.codeWith yL_requestOf cL_requestOf 5 (some .int) [(0, 9, 12, 13), (0, 9, 16, 15)]) rmL_requestOf [.ref b, .int p1, .int p2, .ref ao] (wu w (oW k ao f)) (fun o w2 => ∃ w1 f1, w2 = wu w1 (oW k ao f1) ∧ DJ w1 (oW k ao f1) ∧ ((∃ r, P (.inl (some (.long r))) w1 ∧ o = .inl (some (.int 0)) ∧ f1 0 = r) ∨ ∃ E, P (.inr E) w1 ∧ o = .inl (some (.int (xcIA E))))) := by
  refine ML.of 1 hl (by decide) (Nat.le_of_ble_eq_true rfl) ?_
  intro p e s m args below meth c A Q G B ht
  show Wx p l e rmL_requestOf s m args below meth c k A 5 Q 1 6 0 [some (.ref b), some (.int p1), some (.int p2), some (.ref ao), none] [] (wu w (oW k ao f))
  refine x_aload3 (pc := 0) G dL_requestOf_0 ?_
  refine x_iconst (pc := 1) (v := 0) G dL_requestOf_1 (by decide) ?_
  refine x_aload0 (pc := 2) G dL_requestOf_2 ?_
  refine x_iload1 (pc := 3) G dL_requestOf_3 ?_
  refine x_iload2 (pc := 4) G dL_requestOf_4 ?_
  refine x_callV (pc := 5) (bc1 := 0) (bs1 := 0) (n := 2) (As := [.int p1, .int p2]) G (hC.frame hd) (List.mem_append_left _ hb) ((if_pos hb).trans hbf) kb_11.2.2.2.1 q_ml_L_134 q_im_yX10_requestOf q_se_yX10_requestOf q_in_X10 q_co_yX10_requestOf ⟨by decide, by decide, by decide +kernel⟩ ⟨Nat.le_of_ble_eq_true rfl, Nat.le_of_ble_eq_true rfl⟩ (Nat.le_of_ble_eq_true rfl) (Nat.le_of_ble_eq_true rfl) (Nat.le_of_ble_eq_true rfl) rfl rfl dL_requestOf_5 (fun v w9 hp => ?_) (fun E w9 hp => ?_)
  · obtain ⟨w1, hp1, hd1, rfl⟩ := hp
    obtain ⟨r, hv⟩ : ∃ r, v = some (.long r) := by
      rcases hP _ _ hp1 with ⟨r, z⟩ | ⟨E, z, _⟩
      · exact ⟨r, Sum.inl.inj z⟩
      · cases z
    subst hv
    refine x_lald0 (pc := 8) G hd1 dL_requestOf_8 ?_
    refine x_goto (pc := 9) (tgt := 20) G dL_requestOf_9 rfl ?_
    refine x_iconst (pc := 20) (v := 0) G dL_requestOf_20 (by decide) ?_
    exact x_iret (pc := 21) G B rfl dL_requestOf_21 ⟨w1, _, rfl, hd1, Or.inl ⟨r, hp1, rfl, up0⟩⟩
  · obtain ⟨w1, hp1, hd1, rfl⟩ := hp
    have hE : E = "java/lang/IndexOutOfBoundsException" ∨ E = "java/lang/IllegalArgumentException" := by
      rcases hP _ _ hp1 with ⟨r, z⟩ | ⟨E9, z, hE⟩
      · cases z
      · cases z; exact hE
    rcases hE with rfl | rfl
    · refine x_catch (pc := 5) G (name := "java/lang/IndexOutOfBoundsException") [] ({ startPc := 0, endPc := 9, handlerPc := 12, catchType := 13 } : ExceptionTableEntry) [({ startPc := 0, endPc := 9, handlerPc := 16, catchType := 15 } : ExceptionTableEntry)] (ht.trans rfl) (fun z hz => (List.not_mem_nil hz).elim) (by decide) (by decide) q_cl_L_13 (by decide) (fun q => ?_)
      refine x_astore4 (pc := 12) G dL_requestOf_12 (by decide) rfl ?_
      refine x_iconst (pc := 14) (v := 1) G dL_requestOf_14 (by decide) ?_
      exact x_iret (pc := 15) G B rfl dL_requestOf_15 ⟨w1, _, rfl, hd1, Or.inr ⟨_, hp1, congrArg (fun z => Sum.inl (some (Value.int z))) xIA_I.symm⟩⟩
    · refine x_catch (pc := 5) G (name := "java/lang/IllegalArgumentException") [({ startPc := 0, endPc := 9, handlerPc := 12, catchType := 13 } : ExceptionTableEntry)] ({ startPc := 0, endPc := 9, handlerPc := 16, catchType := 15 } : ExceptionTableEntry) [] (ht.trans rfl) (fun z hz => by
        simp only [List.mem_cons, List.not_mem_nil, or_false] at hz
        rcases hz with rfl
        · exact ⟨by decide, _, q_cl_L_13, by decide⟩) (by decide) (by decide) q_cl_L_15 (by decide) (fun q => ?_)
      refine x_astore4 (pc := 16) G dL_requestOf_16 (by decide) rfl ?_
      refine x_iconst (pc := 18) (v := 2) G dL_requestOf_18 (by decide) ?_
      exact x_iret (pc := 19) G B rfl dL_requestOf_19 ⟨w1, _, rfl, hd1, Or.inr ⟨_, hp1, congrArg (fun z => Sum.inl (some (Value.int z))) xIA_A.symm⟩⟩
theorem q_cw_next : Cond.codeWith yL_next cL_next 4 (some .int) [(0, 9, 12, 13)] ∈ TB := tb_i 1091 (by decide +kernel) (by decide +kernel)
theorem dL_next_0 : decode cL_next 0 = .ok (.aload_n 2, 1) := by decide +kernel
theorem dL_next_1 : decode cL_next 1 = .ok (.iconst 0, 1) := by decide +kernel
theorem dL_next_2 : decode cL_next 2 = .ok (.aload_n 0, 1) := by decide +kernel
theorem dL_next_3 : decode cL_next 3 = .ok (.iload_n 1, 1) := by decide +kernel
theorem dL_next_4 : decode cL_next 4 = .ok (.invokevirtual 137, 3) := by decide +kernel
theorem dL_next_7 : decode cL_next 7 = .ok (.i2l, 1) := by decide +kernel
theorem dL_next_8 : decode cL_next 8 = .ok (.lastore, 1) := by decide +kernel
theorem dL_next_9 : decode cL_next 9 = .ok (.goto 6, 3) := by decide +kernel
theorem dL_next_12 : decode cL_next 12 = .ok (.astore_n 3, 1) := by decide +kernel
theorem dL_next_13 : decode cL_next 13 = .ok (.iconst 1, 1) := by decide +kernel
theorem dL_next_14 : decode cL_next 14 = .ok (.ireturn, 1) := by decide +kernel
theorem dL_next_15 : decode cL_next 15 = .ok (.iconst 0, 1) := by decide +kernel
theorem dL_next_16 : decode cL_next 16 = .ok (.ireturn, 1) := by decide +kernel
abbrev rmL_next : Room := { frames := 9, cells := 1, slots := 6, locals := 155 }
set_option maxRecDepth 100000 in
set_option maxHeartbeats 4000000 in
theorem ch_next {l : Launch} {k : KC} (hl : l.stackTraces = false) {w : Wd} {b : Nat} {fs : List Value} (hb : b ∈ w.1) (hbf : w.2 b = .inr (11, fs)) {ao : Nat} {f : Nat → Int64} (hd : DJ w (oW k ao f)) {p1 : Int32} {P : Out → Wd → Prop} (hC : MC l k yX10_next (.code yX10_next cX10_next 4 (some .int)) rmt_X10_next [.ref b, .int p1] w P) (hP : ∀ o w1, P o w1 → (∃ r, o = .inl (some (.int r))) ∨ ∃ E, o = .inr E ∧ (E = "java/lang/IndexOutOfBoundsException")) : MI l k yL_next (.codeWith yL_next cL_next 4 (some .int) [(0, 9, 12, 13)]) rmL_next [.ref b, .int p1, .ref ao] (wu w (oW k ao f)) (fun o w2 => ∃ w1 f1, w2 = wu w1 (oW k ao f1) ∧ DJ w1 (oW k ao f1) ∧ ((∃ r, P (.inl (some (.int r))) w1 ∧ o = .inl (some (.int 0)) ∧ f1 0 = r.toInt64) ∨ ∃ E, P (.inr E) w1 ∧ o = .inl (some (.int (xcI E))))) := by
  refine ML.of 1 hl (by decide) (Nat.le_of_ble_eq_true rfl) ?_
  intro p e s m args below meth c A Q G B ht
  show Wx p l e rmL_next s m args below meth c k A 4 Q 1 6 0 [some (.ref b), some (.int p1), some (.ref ao), none] [] (wu w (oW k ao f))
  refine x_aload2 (pc := 0) G dL_next_0 ?_
  refine x_iconst (pc := 1) (v := 0) G dL_next_1 (by decide) ?_
  refine x_aload0 (pc := 2) G dL_next_2 ?_
  refine x_iload1 (pc := 3) G dL_next_3 ?_
  refine x_callV (pc := 4) (bc1 := 0) (bs1 := 0) (n := 1) (As := [.int p1]) G (hC.frame hd) (List.mem_append_left _ hb) ((if_pos hb).trans hbf) kb_11.2.2.2.1 q_ml_L_137 q_im_yX10_next q_se_yX10_next q_in_X10 q_co_yX10_next ⟨by decide, by decide, by decide +kernel⟩ ⟨Nat.le_of_ble_eq_true rfl, Nat.le_of_ble_eq_true rfl⟩ (Nat.le_of_ble_eq_true rfl) (Nat.le_of_ble_eq_true rfl) (Nat.le_of_ble_eq_true rfl) rfl rfl dL_next_4 (fun v w9 hp => ?_) (fun E w9 hp => ?_)
  · obtain ⟨w1, hp1, hd1, rfl⟩ := hp
    obtain ⟨r, hv⟩ : ∃ r, v = some (.int r) := by
      rcases hP _ _ hp1 with ⟨r, z⟩ | ⟨E, z, _⟩
      · exact ⟨r, Sum.inl.inj z⟩
      · cases z
    subst hv
    refine x_i2l (pc := 7) G dL_next_7 ?_
    refine x_lald0 (pc := 8) G hd1 dL_next_8 ?_
    refine x_goto (pc := 9) (tgt := 15) G dL_next_9 rfl ?_
    refine x_iconst (pc := 15) (v := 0) G dL_next_15 (by decide) ?_
    exact x_iret (pc := 16) G B rfl dL_next_16 ⟨w1, _, rfl, hd1, Or.inl ⟨r, hp1, rfl, up0⟩⟩
  · obtain ⟨w1, hp1, hd1, rfl⟩ := hp
    have hE : E = "java/lang/IndexOutOfBoundsException" := by
      rcases hP _ _ hp1 with ⟨r, z⟩ | ⟨E9, z, hE⟩
      · cases z
      · cases z; exact hE
    rcases hE with rfl
    · refine x_catch (pc := 4) G (name := "java/lang/IndexOutOfBoundsException") [] ({ startPc := 0, endPc := 9, handlerPc := 12, catchType := 13 } : ExceptionTableEntry) [] (ht.trans rfl) (fun z hz => (List.not_mem_nil hz).elim) (by decide) (by decide) q_cl_L_13 (by decide) (fun q => ?_)
      refine x_astore3 (pc := 12) G dL_next_12 (by decide) rfl ?_
      refine x_iconst (pc := 13) (v := 1) G dL_next_13 (by decide) ?_
      exact x_iret (pc := 14) G B rfl dL_next_14 ⟨w1, _, rfl, hd1, Or.inr ⟨_, hp1, congrArg (fun z => Sum.inl (some (Value.int z))) xI_I.symm⟩⟩
theorem q_cw_lineOf : Cond.codeWith yL_lineOf cL_lineOf 6 (some .int) [(0, 12, 15, 13), (0, 12, 19, 15)] ∈ TB := tb_i 1098 (by decide +kernel) (by decide +kernel)
theorem dL_lineOf_0 : decode cL_lineOf 0 = .ok (.aload 4, 2) := by decide +kernel
theorem dL_lineOf_2 : decode cL_lineOf 2 = .ok (.iconst 0, 1) := by decide +kernel
theorem dL_lineOf_3 : decode cL_lineOf 3 = .ok (.aload_n 0, 1) := by decide +kernel
theorem dL_lineOf_4 : decode cL_lineOf 4 = .ok (.iload_n 1, 1) := by decide +kernel
theorem dL_lineOf_5 : decode cL_lineOf 5 = .ok (.iload_n 2, 1) := by decide +kernel
theorem dL_lineOf_6 : decode cL_lineOf 6 = .ok (.iload_n 3, 1) := by decide +kernel
theorem dL_lineOf_7 : decode cL_lineOf 7 = .ok (.invokevirtual 140, 3) := by decide +kernel
theorem dL_lineOf_10 : decode cL_lineOf 10 = .ok (.i2l, 1) := by decide +kernel
theorem dL_lineOf_11 : decode cL_lineOf 11 = .ok (.lastore, 1) := by decide +kernel
theorem dL_lineOf_12 : decode cL_lineOf 12 = .ok (.goto 11, 3) := by decide +kernel
theorem dL_lineOf_15 : decode cL_lineOf 15 = .ok (.astore 5, 2) := by decide +kernel
theorem dL_lineOf_17 : decode cL_lineOf 17 = .ok (.iconst 1, 1) := by decide +kernel
theorem dL_lineOf_18 : decode cL_lineOf 18 = .ok (.ireturn, 1) := by decide +kernel
theorem dL_lineOf_19 : decode cL_lineOf 19 = .ok (.astore 5, 2) := by decide +kernel
theorem dL_lineOf_21 : decode cL_lineOf 21 = .ok (.iconst 2, 1) := by decide +kernel
theorem dL_lineOf_22 : decode cL_lineOf 22 = .ok (.ireturn, 1) := by decide +kernel
theorem dL_lineOf_23 : decode cL_lineOf 23 = .ok (.iconst 0, 1) := by decide +kernel
theorem dL_lineOf_24 : decode cL_lineOf 24 = .ok (.ireturn, 1) := by decide +kernel
abbrev rmL_lineOf : Room := { frames := 9, cells := 1, slots := 6, locals := 156 }
set_option maxRecDepth 100000 in
set_option maxHeartbeats 4000000 in
theorem ch_lineOf {l : Launch} {k : KC} (hl : l.stackTraces = false) {w : Wd} {b : Nat} {fs : List Value} (hb : b ∈ w.1) (hbf : w.2 b = .inr (11, fs)) {ao : Nat} {f : Nat → Int64} (hd : DJ w (oW k ao f)) {p1 p2 p3 : Int32} {P : Out → Wd → Prop} (hC : MC l k yX10_lineOf (.code yX10_lineOf cX10_lineOf 5 (some .int)) rmt_X10_lineOf [.ref b, .int p1, .int p2, .int p3] w P) (hP : ∀ o w1, P o w1 → (∃ r, o = .inl (some (.int r))) ∨ ∃ E, o = .inr E ∧ (E = "java/lang/IndexOutOfBoundsException" ∨ E = "java/lang/IllegalArgumentException")) : MI l k yL_lineOf (.codeWith yL_lineOf cL_lineOf 6 (some .int) [(0, 12, 15, 13), (0, 12, 19, 15)]) rmL_lineOf [.ref b, .int p1, .int p2, .int p3, .ref ao] (wu w (oW k ao f)) (fun o w2 => ∃ w1 f1, w2 = wu w1 (oW k ao f1) ∧ DJ w1 (oW k ao f1) ∧ ((∃ r, P (.inl (some (.int r))) w1 ∧ o = .inl (some (.int 0)) ∧ f1 0 = r.toInt64) ∨ ∃ E, P (.inr E) w1 ∧ o = .inl (some (.int (xcIA E))))) := by
  refine ML.of 1 hl (by decide) (Nat.le_of_ble_eq_true rfl) ?_
  intro p e s m args below meth c A Q G B ht
  show Wx p l e rmL_lineOf s m args below meth c k A 6 Q 1 6 0 [some (.ref b), some (.int p1), some (.int p2), some (.int p3), some (.ref ao), none] [] (wu w (oW k ao f))
  refine x_aload4 (pc := 0) G dL_lineOf_0 ?_
  refine x_iconst (pc := 2) (v := 0) G dL_lineOf_2 (by decide) ?_
  refine x_aload0 (pc := 3) G dL_lineOf_3 ?_
  refine x_iload1 (pc := 4) G dL_lineOf_4 ?_
  refine x_iload2 (pc := 5) G dL_lineOf_5 ?_
  refine x_iload3 (pc := 6) G dL_lineOf_6 ?_
  refine x_callV (pc := 7) (bc1 := 0) (bs1 := 0) (n := 3) (As := [.int p1, .int p2, .int p3]) G (hC.frame hd) (List.mem_append_left _ hb) ((if_pos hb).trans hbf) kb_11.2.2.2.1 q_ml_L_140 q_im_yX10_lineOf q_se_yX10_lineOf q_in_X10 q_co_yX10_lineOf ⟨by decide, by decide, by decide +kernel⟩ ⟨Nat.le_of_ble_eq_true rfl, Nat.le_of_ble_eq_true rfl⟩ (Nat.le_of_ble_eq_true rfl) (Nat.le_of_ble_eq_true rfl) (Nat.le_of_ble_eq_true rfl) rfl rfl dL_lineOf_7 (fun v w9 hp => ?_) (fun E w9 hp => ?_)
  · obtain ⟨w1, hp1, hd1, rfl⟩ := hp
    obtain ⟨r, hv⟩ : ∃ r, v = some (.int r) := by
      rcases hP _ _ hp1 with ⟨r, z⟩ | ⟨E, z, _⟩
      · exact ⟨r, Sum.inl.inj z⟩
      · cases z
    subst hv
    refine x_i2l (pc := 10) G dL_lineOf_10 ?_
    refine x_lald0 (pc := 11) G hd1 dL_lineOf_11 ?_
    refine x_goto (pc := 12) (tgt := 23) G dL_lineOf_12 rfl ?_
    refine x_iconst (pc := 23) (v := 0) G dL_lineOf_23 (by decide) ?_
    exact x_iret (pc := 24) G B rfl dL_lineOf_24 ⟨w1, _, rfl, hd1, Or.inl ⟨r, hp1, rfl, up0⟩⟩
  · obtain ⟨w1, hp1, hd1, rfl⟩ := hp
    have hE : E = "java/lang/IndexOutOfBoundsException" ∨ E = "java/lang/IllegalArgumentException" := by
      rcases hP _ _ hp1 with ⟨r, z⟩ | ⟨E9, z, hE⟩
      · cases z
      · cases z; exact hE
    rcases hE with rfl | rfl
    · refine x_catch (pc := 7) G (name := "java/lang/IndexOutOfBoundsException") [] ({ startPc := 0, endPc := 12, handlerPc := 15, catchType := 13 } : ExceptionTableEntry) [({ startPc := 0, endPc := 12, handlerPc := 19, catchType := 15 } : ExceptionTableEntry)] (ht.trans rfl) (fun z hz => (List.not_mem_nil hz).elim) (by decide) (by decide) q_cl_L_13 (by decide) (fun q => ?_)
      refine x_astore5 (pc := 15) G dL_lineOf_15 (by decide) rfl ?_
      refine x_iconst (pc := 17) (v := 1) G dL_lineOf_17 (by decide) ?_
      exact x_iret (pc := 18) G B rfl dL_lineOf_18 ⟨w1, _, rfl, hd1, Or.inr ⟨_, hp1, congrArg (fun z => Sum.inl (some (Value.int z))) xIA_I.symm⟩⟩
    · refine x_catch (pc := 7) G (name := "java/lang/IllegalArgumentException") [({ startPc := 0, endPc := 12, handlerPc := 15, catchType := 13 } : ExceptionTableEntry)] ({ startPc := 0, endPc := 12, handlerPc := 19, catchType := 15 } : ExceptionTableEntry) [] (ht.trans rfl) (fun z hz => by
        simp only [List.mem_cons, List.not_mem_nil, or_false] at hz
        rcases hz with rfl
        · exact ⟨by decide, _, q_cl_L_13, by decide⟩) (by decide) (by decide) q_cl_L_15 (by decide) (fun q => ?_)
      refine x_astore5 (pc := 19) G dL_lineOf_19 (by decide) rfl ?_
      refine x_iconst (pc := 21) (v := 2) G dL_lineOf_21 (by decide) ?_
      exact x_iret (pc := 22) G B rfl dL_lineOf_22 ⟨w1, _, rfl, hd1, Or.inr ⟨_, hp1, congrArg (fun z => Sum.inl (some (Value.int z))) xIA_A.symm⟩⟩
theorem q_cw_invoiceOf : Cond.codeWith yL_invoiceOf cL_invoiceOf 5 (some .int) [(0, 9, 12, 13), (0, 9, 16, 15)] ∈ TB := tb_i 1106 (by decide +kernel) (by decide +kernel)
theorem dL_invoiceOf_0 : decode cL_invoiceOf 0 = .ok (.aload_n 3, 1) := by decide +kernel
theorem dL_invoiceOf_1 : decode cL_invoiceOf 1 = .ok (.iconst 0, 1) := by decide +kernel
theorem dL_invoiceOf_2 : decode cL_invoiceOf 2 = .ok (.aload_n 0, 1) := by decide +kernel
theorem dL_invoiceOf_3 : decode cL_invoiceOf 3 = .ok (.iload_n 1, 1) := by decide +kernel
theorem dL_invoiceOf_4 : decode cL_invoiceOf 4 = .ok (.iload_n 2, 1) := by decide +kernel
theorem dL_invoiceOf_5 : decode cL_invoiceOf 5 = .ok (.invokevirtual 143, 3) := by decide +kernel
theorem dL_invoiceOf_8 : decode cL_invoiceOf 8 = .ok (.lastore, 1) := by decide +kernel
theorem dL_invoiceOf_9 : decode cL_invoiceOf 9 = .ok (.goto 11, 3) := by decide +kernel
theorem dL_invoiceOf_12 : decode cL_invoiceOf 12 = .ok (.astore 4, 2) := by decide +kernel
theorem dL_invoiceOf_14 : decode cL_invoiceOf 14 = .ok (.iconst 1, 1) := by decide +kernel
theorem dL_invoiceOf_15 : decode cL_invoiceOf 15 = .ok (.ireturn, 1) := by decide +kernel
theorem dL_invoiceOf_16 : decode cL_invoiceOf 16 = .ok (.astore 4, 2) := by decide +kernel
theorem dL_invoiceOf_18 : decode cL_invoiceOf 18 = .ok (.iconst 2, 1) := by decide +kernel
theorem dL_invoiceOf_19 : decode cL_invoiceOf 19 = .ok (.ireturn, 1) := by decide +kernel
theorem dL_invoiceOf_20 : decode cL_invoiceOf 20 = .ok (.iconst 0, 1) := by decide +kernel
theorem dL_invoiceOf_21 : decode cL_invoiceOf 21 = .ok (.ireturn, 1) := by decide +kernel
abbrev rmL_invoiceOf : Room := { frames := 9, cells := 1, slots := 6, locals := 155 }
set_option maxRecDepth 100000 in
set_option maxHeartbeats 4000000 in
theorem ch_invoiceOf {l : Launch} {k : KC} (hl : l.stackTraces = false) {w : Wd} {b : Nat} {fs : List Value} (hb : b ∈ w.1) (hbf : w.2 b = .inr (11, fs)) {ao : Nat} {f : Nat → Int64} (hd : DJ w (oW k ao f)) {p1 p2 : Int32} {P : Out → Wd → Prop} (hC : MC l k yX10_invoiceOf (.code yX10_invoiceOf cX10_invoiceOf 4 (some .long)) rmt_X10_invoiceOf [.ref b, .int p1, .int p2] w P) (hP : ∀ o w1, P o w1 → (∃ r, o = .inl (some (.long r))) ∨ ∃ E, o = .inr E ∧ (E = "java/lang/IndexOutOfBoundsException" ∨ E = "java/lang/IllegalArgumentException")) : MI l k yL_invoiceOf (.codeWith yL_invoiceOf cL_invoiceOf 5 (some .int) [(0, 9, 12, 13), (0, 9, 16, 15)]) rmL_invoiceOf [.ref b, .int p1, .int p2, .ref ao] (wu w (oW k ao f)) (fun o w2 => ∃ w1 f1, w2 = wu w1 (oW k ao f1) ∧ DJ w1 (oW k ao f1) ∧ ((∃ r, P (.inl (some (.long r))) w1 ∧ o = .inl (some (.int 0)) ∧ f1 0 = r) ∨ ∃ E, P (.inr E) w1 ∧ o = .inl (some (.int (xcIA E))))) := by
  refine ML.of 1 hl (by decide) (Nat.le_of_ble_eq_true rfl) ?_
  intro p e s m args below meth c A Q G B ht
  show Wx p l e rmL_invoiceOf s m args below meth c k A 5 Q 1 6 0 [some (.ref b), some (.int p1), some (.int p2), some (.ref ao), none] [] (wu w (oW k ao f))
  refine x_aload3 (pc := 0) G dL_invoiceOf_0 ?_
  refine x_iconst (pc := 1) (v := 0) G dL_invoiceOf_1 (by decide) ?_
  refine x_aload0 (pc := 2) G dL_invoiceOf_2 ?_
  refine x_iload1 (pc := 3) G dL_invoiceOf_3 ?_
  refine x_iload2 (pc := 4) G dL_invoiceOf_4 ?_
  refine x_callV (pc := 5) (bc1 := 0) (bs1 := 0) (n := 2) (As := [.int p1, .int p2]) G (hC.frame hd) (List.mem_append_left _ hb) ((if_pos hb).trans hbf) kb_11.2.2.2.1 q_ml_L_143 q_im_yX10_invoiceOf q_se_yX10_invoiceOf q_in_X10 q_co_yX10_invoiceOf ⟨by decide, by decide, by decide +kernel⟩ ⟨Nat.le_of_ble_eq_true rfl, Nat.le_of_ble_eq_true rfl⟩ (Nat.le_of_ble_eq_true rfl) (Nat.le_of_ble_eq_true rfl) (Nat.le_of_ble_eq_true rfl) rfl rfl dL_invoiceOf_5 (fun v w9 hp => ?_) (fun E w9 hp => ?_)
  · obtain ⟨w1, hp1, hd1, rfl⟩ := hp
    obtain ⟨r, hv⟩ : ∃ r, v = some (.long r) := by
      rcases hP _ _ hp1 with ⟨r, z⟩ | ⟨E, z, _⟩
      · exact ⟨r, Sum.inl.inj z⟩
      · cases z
    subst hv
    refine x_lald0 (pc := 8) G hd1 dL_invoiceOf_8 ?_
    refine x_goto (pc := 9) (tgt := 20) G dL_invoiceOf_9 rfl ?_
    refine x_iconst (pc := 20) (v := 0) G dL_invoiceOf_20 (by decide) ?_
    exact x_iret (pc := 21) G B rfl dL_invoiceOf_21 ⟨w1, _, rfl, hd1, Or.inl ⟨r, hp1, rfl, up0⟩⟩
  · obtain ⟨w1, hp1, hd1, rfl⟩ := hp
    have hE : E = "java/lang/IndexOutOfBoundsException" ∨ E = "java/lang/IllegalArgumentException" := by
      rcases hP _ _ hp1 with ⟨r, z⟩ | ⟨E9, z, hE⟩
      · cases z
      · cases z; exact hE
    rcases hE with rfl | rfl
    · refine x_catch (pc := 5) G (name := "java/lang/IndexOutOfBoundsException") [] ({ startPc := 0, endPc := 9, handlerPc := 12, catchType := 13 } : ExceptionTableEntry) [({ startPc := 0, endPc := 9, handlerPc := 16, catchType := 15 } : ExceptionTableEntry)] (ht.trans rfl) (fun z hz => (List.not_mem_nil hz).elim) (by decide) (by decide) q_cl_L_13 (by decide) (fun q => ?_)
      refine x_astore4 (pc := 12) G dL_invoiceOf_12 (by decide) rfl ?_
      refine x_iconst (pc := 14) (v := 1) G dL_invoiceOf_14 (by decide) ?_
      exact x_iret (pc := 15) G B rfl dL_invoiceOf_15 ⟨w1, _, rfl, hd1, Or.inr ⟨_, hp1, congrArg (fun z => Sum.inl (some (Value.int z))) xIA_I.symm⟩⟩
    · refine x_catch (pc := 5) G (name := "java/lang/IllegalArgumentException") [({ startPc := 0, endPc := 9, handlerPc := 12, catchType := 13 } : ExceptionTableEntry)] ({ startPc := 0, endPc := 9, handlerPc := 16, catchType := 15 } : ExceptionTableEntry) [] (ht.trans rfl) (fun z hz => by
        simp only [List.mem_cons, List.not_mem_nil, or_false] at hz
        rcases hz with rfl
        · exact ⟨by decide, _, q_cl_L_13, by decide⟩) (by decide) (by decide) q_cl_L_15 (by decide) (fun q => ?_)
      refine x_astore4 (pc := 16) G dL_invoiceOf_16 (by decide) rfl ?_
      refine x_iconst (pc := 18) (v := 2) G dL_invoiceOf_18 (by decide) ?_
      exact x_iret (pc := 19) G B rfl dL_invoiceOf_19 ⟨w1, _, rfl, hd1, Or.inr ⟨_, hp1, congrArg (fun z => Sum.inl (some (Value.int z))) xIA_A.symm⟩⟩
theorem q_cw_staff : Cond.codeWith yL_staff cL_staff 5 (some .int) [(0, 9, 12, 13), (0, 9, 16, 15)] ∈ TB := tb_i 1114 (by decide +kernel) (by decide +kernel)
theorem dL_staff_0 : decode cL_staff 0 = .ok (.aload_n 3, 1) := by decide +kernel
theorem dL_staff_1 : decode cL_staff 1 = .ok (.iconst 0, 1) := by decide +kernel
theorem dL_staff_2 : decode cL_staff 2 = .ok (.aload_n 0, 1) := by decide +kernel
theorem dL_staff_3 : decode cL_staff 3 = .ok (.iload_n 1, 1) := by decide +kernel
theorem dL_staff_4 : decode cL_staff 4 = .ok (.iload_n 2, 1) := by decide +kernel
theorem dL_staff_5 : decode cL_staff 5 = .ok (.invokevirtual 146, 3) := by decide +kernel
theorem dL_staff_8 : decode cL_staff 8 = .ok (.lastore, 1) := by decide +kernel
theorem dL_staff_9 : decode cL_staff 9 = .ok (.goto 11, 3) := by decide +kernel
theorem dL_staff_12 : decode cL_staff 12 = .ok (.astore 4, 2) := by decide +kernel
theorem dL_staff_14 : decode cL_staff 14 = .ok (.iconst 1, 1) := by decide +kernel
theorem dL_staff_15 : decode cL_staff 15 = .ok (.ireturn, 1) := by decide +kernel
theorem dL_staff_16 : decode cL_staff 16 = .ok (.astore 4, 2) := by decide +kernel
theorem dL_staff_18 : decode cL_staff 18 = .ok (.iconst 2, 1) := by decide +kernel
theorem dL_staff_19 : decode cL_staff 19 = .ok (.ireturn, 1) := by decide +kernel
theorem dL_staff_20 : decode cL_staff 20 = .ok (.iconst 0, 1) := by decide +kernel
theorem dL_staff_21 : decode cL_staff 21 = .ok (.ireturn, 1) := by decide +kernel
abbrev rmL_staff : Room := { frames := 9, cells := 1, slots := 6, locals := 155 }
set_option maxRecDepth 100000 in
set_option maxHeartbeats 4000000 in
theorem ch_staff {l : Launch} {k : KC} (hl : l.stackTraces = false) {w : Wd} {b : Nat} {fs : List Value} (hb : b ∈ w.1) (hbf : w.2 b = .inr (11, fs)) {ao : Nat} {f : Nat → Int64} (hd : DJ w (oW k ao f)) {p1 p2 : Int32} {P : Out → Wd → Prop} (hC : MC l k yX10_staff (.code yX10_staff cX10_staff 4 (some .long)) rmt_X10_staff [.ref b, .int p1, .int p2] w P) (hP : ∀ o w1, P o w1 → (∃ r, o = .inl (some (.long r))) ∨ ∃ E, o = .inr E ∧ (E = "java/lang/IndexOutOfBoundsException" ∨ E = "java/lang/IllegalArgumentException")) : MI l k yL_staff (.codeWith yL_staff cL_staff 5 (some .int) [(0, 9, 12, 13), (0, 9, 16, 15)]) rmL_staff [.ref b, .int p1, .int p2, .ref ao] (wu w (oW k ao f)) (fun o w2 => ∃ w1 f1, w2 = wu w1 (oW k ao f1) ∧ DJ w1 (oW k ao f1) ∧ ((∃ r, P (.inl (some (.long r))) w1 ∧ o = .inl (some (.int 0)) ∧ f1 0 = r) ∨ ∃ E, P (.inr E) w1 ∧ o = .inl (some (.int (xcIA E))))) := by
  refine ML.of 1 hl (by decide) (Nat.le_of_ble_eq_true rfl) ?_
  intro p e s m args below meth c A Q G B ht
  show Wx p l e rmL_staff s m args below meth c k A 5 Q 1 6 0 [some (.ref b), some (.int p1), some (.int p2), some (.ref ao), none] [] (wu w (oW k ao f))
  refine x_aload3 (pc := 0) G dL_staff_0 ?_
  refine x_iconst (pc := 1) (v := 0) G dL_staff_1 (by decide) ?_
  refine x_aload0 (pc := 2) G dL_staff_2 ?_
  refine x_iload1 (pc := 3) G dL_staff_3 ?_
  refine x_iload2 (pc := 4) G dL_staff_4 ?_
  refine x_callV (pc := 5) (bc1 := 0) (bs1 := 0) (n := 2) (As := [.int p1, .int p2]) G (hC.frame hd) (List.mem_append_left _ hb) ((if_pos hb).trans hbf) kb_11.2.2.2.1 q_ml_L_146 q_im_yX10_staff q_se_yX10_staff q_in_X10 q_co_yX10_staff ⟨by decide, by decide, by decide +kernel⟩ ⟨Nat.le_of_ble_eq_true rfl, Nat.le_of_ble_eq_true rfl⟩ (Nat.le_of_ble_eq_true rfl) (Nat.le_of_ble_eq_true rfl) (Nat.le_of_ble_eq_true rfl) rfl rfl dL_staff_5 (fun v w9 hp => ?_) (fun E w9 hp => ?_)
  · obtain ⟨w1, hp1, hd1, rfl⟩ := hp
    obtain ⟨r, hv⟩ : ∃ r, v = some (.long r) := by
      rcases hP _ _ hp1 with ⟨r, z⟩ | ⟨E, z, _⟩
      · exact ⟨r, Sum.inl.inj z⟩
      · cases z
    subst hv
    refine x_lald0 (pc := 8) G hd1 dL_staff_8 ?_
    refine x_goto (pc := 9) (tgt := 20) G dL_staff_9 rfl ?_
    refine x_iconst (pc := 20) (v := 0) G dL_staff_20 (by decide) ?_
    exact x_iret (pc := 21) G B rfl dL_staff_21 ⟨w1, _, rfl, hd1, Or.inl ⟨r, hp1, rfl, up0⟩⟩
  · obtain ⟨w1, hp1, hd1, rfl⟩ := hp
    have hE : E = "java/lang/IndexOutOfBoundsException" ∨ E = "java/lang/IllegalArgumentException" := by
      rcases hP _ _ hp1 with ⟨r, z⟩ | ⟨E9, z, hE⟩
      · cases z
      · cases z; exact hE
    rcases hE with rfl | rfl
    · refine x_catch (pc := 5) G (name := "java/lang/IndexOutOfBoundsException") [] ({ startPc := 0, endPc := 9, handlerPc := 12, catchType := 13 } : ExceptionTableEntry) [({ startPc := 0, endPc := 9, handlerPc := 16, catchType := 15 } : ExceptionTableEntry)] (ht.trans rfl) (fun z hz => (List.not_mem_nil hz).elim) (by decide) (by decide) q_cl_L_13 (by decide) (fun q => ?_)
      refine x_astore4 (pc := 12) G dL_staff_12 (by decide) rfl ?_
      refine x_iconst (pc := 14) (v := 1) G dL_staff_14 (by decide) ?_
      exact x_iret (pc := 15) G B rfl dL_staff_15 ⟨w1, _, rfl, hd1, Or.inr ⟨_, hp1, congrArg (fun z => Sum.inl (some (Value.int z))) xIA_I.symm⟩⟩
    · refine x_catch (pc := 5) G (name := "java/lang/IllegalArgumentException") [({ startPc := 0, endPc := 9, handlerPc := 12, catchType := 13 } : ExceptionTableEntry)] ({ startPc := 0, endPc := 9, handlerPc := 16, catchType := 15 } : ExceptionTableEntry) [] (ht.trans rfl) (fun z hz => by
        simp only [List.mem_cons, List.not_mem_nil, or_false] at hz
        rcases hz with rfl
        · exact ⟨by decide, _, q_cl_L_13, by decide⟩) (by decide) (by decide) q_cl_L_15 (by decide) (fun q => ?_)
      refine x_astore4 (pc := 16) G dL_staff_16 (by decide) rfl ?_
      refine x_iconst (pc := 18) (v := 2) G dL_staff_18 (by decide) ?_
      exact x_iret (pc := 19) G B rfl dL_staff_19 ⟨w1, _, rfl, hd1, Or.inr ⟨_, hp1, congrArg (fun z => Sum.inl (some (Value.int z))) xIA_A.symm⟩⟩
theorem q_cw_tripCost : Cond.codeWith yL_tripCost cL_tripCost 4 (some .int) [(0, 8, 11, 13)] ∈ TB := tb_i 1121 (by decide +kernel) (by decide +kernel)
theorem dL_tripCost_0 : decode cL_tripCost 0 = .ok (.aload_n 2, 1) := by decide +kernel
theorem dL_tripCost_1 : decode cL_tripCost 1 = .ok (.iconst 0, 1) := by decide +kernel
theorem dL_tripCost_2 : decode cL_tripCost 2 = .ok (.aload_n 0, 1) := by decide +kernel
theorem dL_tripCost_3 : decode cL_tripCost 3 = .ok (.iload_n 1, 1) := by decide +kernel
theorem dL_tripCost_4 : decode cL_tripCost 4 = .ok (.invokevirtual 149, 3) := by decide +kernel
theorem dL_tripCost_7 : decode cL_tripCost 7 = .ok (.lastore, 1) := by decide +kernel
theorem dL_tripCost_8 : decode cL_tripCost 8 = .ok (.goto 6, 3) := by decide +kernel
theorem dL_tripCost_11 : decode cL_tripCost 11 = .ok (.astore_n 3, 1) := by decide +kernel
theorem dL_tripCost_12 : decode cL_tripCost 12 = .ok (.iconst 1, 1) := by decide +kernel
theorem dL_tripCost_13 : decode cL_tripCost 13 = .ok (.ireturn, 1) := by decide +kernel
theorem dL_tripCost_14 : decode cL_tripCost 14 = .ok (.iconst 0, 1) := by decide +kernel
theorem dL_tripCost_15 : decode cL_tripCost 15 = .ok (.ireturn, 1) := by decide +kernel
abbrev rmL_tripCost : Room := { frames := 8, cells := 1, slots := 6, locals := 132 }
set_option maxRecDepth 100000 in
set_option maxHeartbeats 4000000 in
theorem ch_tripCost {l : Launch} {k : KC} (hl : l.stackTraces = false) {w : Wd} {b : Nat} {fs : List Value} (hb : b ∈ w.1) (hbf : w.2 b = .inr (11, fs)) {ao : Nat} {f : Nat → Int64} (hd : DJ w (oW k ao f)) {p1 : Int32} {P : Out → Wd → Prop} (hC : MC l k yX10_tripCost (.code yX10_tripCost cX10_tripCost 2 (some .long)) rmt_X10_tripCost [.ref b, .int p1] w P) (hP : ∀ o w1, P o w1 → (∃ r, o = .inl (some (.long r))) ∨ ∃ E, o = .inr E ∧ (E = "java/lang/IndexOutOfBoundsException")) : MI l k yL_tripCost (.codeWith yL_tripCost cL_tripCost 4 (some .int) [(0, 8, 11, 13)]) rmL_tripCost [.ref b, .int p1, .ref ao] (wu w (oW k ao f)) (fun o w2 => ∃ w1 f1, w2 = wu w1 (oW k ao f1) ∧ DJ w1 (oW k ao f1) ∧ ((∃ r, P (.inl (some (.long r))) w1 ∧ o = .inl (some (.int 0)) ∧ f1 0 = r) ∨ ∃ E, P (.inr E) w1 ∧ o = .inl (some (.int (xcI E))))) := by
  refine ML.of 1 hl (by decide) (Nat.le_of_ble_eq_true rfl) ?_
  intro p e s m args below meth c A Q G B ht
  show Wx p l e rmL_tripCost s m args below meth c k A 4 Q 1 6 0 [some (.ref b), some (.int p1), some (.ref ao), none] [] (wu w (oW k ao f))
  refine x_aload2 (pc := 0) G dL_tripCost_0 ?_
  refine x_iconst (pc := 1) (v := 0) G dL_tripCost_1 (by decide) ?_
  refine x_aload0 (pc := 2) G dL_tripCost_2 ?_
  refine x_iload1 (pc := 3) G dL_tripCost_3 ?_
  refine x_callV (pc := 4) (bc1 := 0) (bs1 := 0) (n := 1) (As := [.int p1]) G (hC.frame hd) (List.mem_append_left _ hb) ((if_pos hb).trans hbf) kb_11.2.2.2.1 q_ml_L_149 q_im_yX10_tripCost q_se_yX10_tripCost q_in_X10 q_co_yX10_tripCost ⟨by decide, by decide, by decide +kernel⟩ ⟨Nat.le_of_ble_eq_true rfl, Nat.le_of_ble_eq_true rfl⟩ (Nat.le_of_ble_eq_true rfl) (Nat.le_of_ble_eq_true rfl) (Nat.le_of_ble_eq_true rfl) rfl rfl dL_tripCost_4 (fun v w9 hp => ?_) (fun E w9 hp => ?_)
  · obtain ⟨w1, hp1, hd1, rfl⟩ := hp
    obtain ⟨r, hv⟩ : ∃ r, v = some (.long r) := by
      rcases hP _ _ hp1 with ⟨r, z⟩ | ⟨E, z, _⟩
      · exact ⟨r, Sum.inl.inj z⟩
      · cases z
    subst hv
    refine x_lald0 (pc := 7) G hd1 dL_tripCost_7 ?_
    refine x_goto (pc := 8) (tgt := 14) G dL_tripCost_8 rfl ?_
    refine x_iconst (pc := 14) (v := 0) G dL_tripCost_14 (by decide) ?_
    exact x_iret (pc := 15) G B rfl dL_tripCost_15 ⟨w1, _, rfl, hd1, Or.inl ⟨r, hp1, rfl, up0⟩⟩
  · obtain ⟨w1, hp1, hd1, rfl⟩ := hp
    have hE : E = "java/lang/IndexOutOfBoundsException" := by
      rcases hP _ _ hp1 with ⟨r, z⟩ | ⟨E9, z, hE⟩
      · cases z
      · cases z; exact hE
    rcases hE with rfl
    · refine x_catch (pc := 4) G (name := "java/lang/IndexOutOfBoundsException") [] ({ startPc := 0, endPc := 8, handlerPc := 11, catchType := 13 } : ExceptionTableEntry) [] (ht.trans rfl) (fun z hz => (List.not_mem_nil hz).elim) (by decide) (by decide) q_cl_L_13 (by decide) (fun q => ?_)
      refine x_astore3 (pc := 11) G dL_tripCost_11 (by decide) rfl ?_
      refine x_iconst (pc := 12) (v := 1) G dL_tripCost_12 (by decide) ?_
      exact x_iret (pc := 13) G B rfl dL_tripCost_13 ⟨w1, _, rfl, hd1, Or.inr ⟨_, hp1, congrArg (fun z => Sum.inl (some (Value.int z))) xI_I.symm⟩⟩
theorem q_cw_isTold : Cond.codeWith yL_isTold cL_isTold 4 (some .int) [(0, 16, 19, 13)] ∈ TB := tb_i 1128 (by decide +kernel) (by decide +kernel)
theorem dL_isTold_0 : decode cL_isTold 0 = .ok (.aload_n 2, 1) := by decide +kernel
theorem dL_isTold_1 : decode cL_isTold 1 = .ok (.iconst 0, 1) := by decide +kernel
theorem dL_isTold_2 : decode cL_isTold 2 = .ok (.aload_n 0, 1) := by decide +kernel
theorem dL_isTold_3 : decode cL_isTold 3 = .ok (.iload_n 1, 1) := by decide +kernel
theorem dL_isTold_4 : decode cL_isTold 4 = .ok (.invokevirtual 152, 3) := by decide +kernel
theorem dL_isTold_7 : decode cL_isTold 7 = .ok (.ifCond .eq 7, 3) := by decide +kernel
theorem dL_isTold_10 : decode cL_isTold 10 = .ok (.lconst 1, 1) := by decide +kernel
theorem dL_isTold_11 : decode cL_isTold 11 = .ok (.goto 4, 3) := by decide +kernel
theorem dL_isTold_14 : decode cL_isTold 14 = .ok (.lconst 0, 1) := by decide +kernel
theorem dL_isTold_15 : decode cL_isTold 15 = .ok (.lastore, 1) := by decide +kernel
theorem dL_isTold_16 : decode cL_isTold 16 = .ok (.goto 6, 3) := by decide +kernel
theorem dL_isTold_19 : decode cL_isTold 19 = .ok (.astore_n 3, 1) := by decide +kernel
theorem dL_isTold_20 : decode cL_isTold 20 = .ok (.iconst 1, 1) := by decide +kernel
theorem dL_isTold_21 : decode cL_isTold 21 = .ok (.ireturn, 1) := by decide +kernel
theorem dL_isTold_22 : decode cL_isTold 22 = .ok (.iconst 0, 1) := by decide +kernel
theorem dL_isTold_23 : decode cL_isTold 23 = .ok (.ireturn, 1) := by decide +kernel
abbrev rmL_isTold : Room := { frames := 9, cells := 1, slots := 6, locals := 153 }
set_option maxRecDepth 100000 in
set_option maxHeartbeats 4000000 in
theorem ch_isTold {l : Launch} {k : KC} (hl : l.stackTraces = false) {w : Wd} {b : Nat} {fs : List Value} (hb : b ∈ w.1) (hbf : w.2 b = .inr (11, fs)) {ao : Nat} {f : Nat → Int64} (hd : DJ w (oW k ao f)) {p1 : Int32} {P : Out → Wd → Prop} (hC : MC l k yX10_isTold (.code yX10_isTold cX10_isTold 2 (some .boolean)) rmt_X10_isTold [.ref b, .int p1] w P) (hP : ∀ o w1, P o w1 → (∃ r, o = .inl (some (.int r))) ∨ ∃ E, o = .inr E ∧ (E = "java/lang/IndexOutOfBoundsException")) : MI l k yL_isTold (.codeWith yL_isTold cL_isTold 4 (some .int) [(0, 16, 19, 13)]) rmL_isTold [.ref b, .int p1, .ref ao] (wu w (oW k ao f)) (fun o w2 => ∃ w1 f1, w2 = wu w1 (oW k ao f1) ∧ DJ w1 (oW k ao f1) ∧ ((∃ r, P (.inl (some (.int r))) w1 ∧ o = .inl (some (.int 0)) ∧ f1 0 = if r = 0 then 0 else 1) ∨ ∃ E, P (.inr E) w1 ∧ o = .inl (some (.int (xcI E))))) := by
  refine ML.of 1 hl (by decide) (Nat.le_of_ble_eq_true rfl) ?_
  intro p e s m args below meth c A Q G B ht
  show Wx p l e rmL_isTold s m args below meth c k A 4 Q 1 6 0 [some (.ref b), some (.int p1), some (.ref ao), none] [] (wu w (oW k ao f))
  refine x_aload2 (pc := 0) G dL_isTold_0 ?_
  refine x_iconst (pc := 1) (v := 0) G dL_isTold_1 (by decide) ?_
  refine x_aload0 (pc := 2) G dL_isTold_2 ?_
  refine x_iload1 (pc := 3) G dL_isTold_3 ?_
  refine x_callV (pc := 4) (bc1 := 0) (bs1 := 0) (n := 1) (As := [.int p1]) G (hC.frame hd) (List.mem_append_left _ hb) ((if_pos hb).trans hbf) kb_11.2.2.2.1 q_ml_L_152 q_im_yX10_isTold q_se_yX10_isTold q_in_X10 q_co_yX10_isTold ⟨by decide, by decide, by decide +kernel⟩ ⟨Nat.le_of_ble_eq_true rfl, Nat.le_of_ble_eq_true rfl⟩ (Nat.le_of_ble_eq_true rfl) (Nat.le_of_ble_eq_true rfl) (Nat.le_of_ble_eq_true rfl) rfl rfl dL_isTold_4 (fun v w9 hp => ?_) (fun E w9 hp => ?_)
  · obtain ⟨w1, hp1, hd1, rfl⟩ := hp
    obtain ⟨r, hv⟩ : ∃ r, v = some (.int r) := by
      rcases hP _ _ hp1 with ⟨r, z⟩ | ⟨E, z, _⟩
      · exact ⟨r, Sum.inl.inj z⟩
      · cases z
    subst hv
    refine x_if_eq (pc := 7) (tgt := 14) (y := 0) G dL_isTold_7 rfl (fun cz => ?_) (fun cz => ?_)
    · skip
      refine x_lconst (pc := 14) (v := 0) G dL_isTold_14 (by decide) ?_
      refine x_lald0 (pc := 15) G hd1 dL_isTold_15 ?_
      refine x_goto (pc := 16) (tgt := 22) G dL_isTold_16 rfl ?_
      refine x_iconst (pc := 22) (v := 0) G dL_isTold_22 (by decide) ?_
      exact x_iret (pc := 23) G B rfl dL_isTold_23 ⟨w1, _, rfl, hd1, Or.inl ⟨r, hp1, rfl, (up0.trans (if_pos cz).symm)⟩⟩
    · skip
      refine x_lconst (pc := 10) (v := 1) G dL_isTold_10 (by decide) ?_
      refine x_goto (pc := 11) (tgt := 15) G dL_isTold_11 rfl ?_
      refine x_lald0 (pc := 15) G hd1 dL_isTold_15 ?_
      refine x_goto (pc := 16) (tgt := 22) G dL_isTold_16 rfl ?_
      refine x_iconst (pc := 22) (v := 0) G dL_isTold_22 (by decide) ?_
      exact x_iret (pc := 23) G B rfl dL_isTold_23 ⟨w1, _, rfl, hd1, Or.inl ⟨r, hp1, rfl, (up0.trans (if_neg cz).symm)⟩⟩
  · obtain ⟨w1, hp1, hd1, rfl⟩ := hp
    have hE : E = "java/lang/IndexOutOfBoundsException" := by
      rcases hP _ _ hp1 with ⟨r, z⟩ | ⟨E9, z, hE⟩
      · cases z
      · cases z; exact hE
    rcases hE with rfl
    · refine x_catch (pc := 4) G (name := "java/lang/IndexOutOfBoundsException") [] ({ startPc := 0, endPc := 16, handlerPc := 19, catchType := 13 } : ExceptionTableEntry) [] (ht.trans rfl) (fun z hz => (List.not_mem_nil hz).elim) (by decide) (by decide) q_cl_L_13 (by decide) (fun q => ?_)
      refine x_astore3 (pc := 19) G dL_isTold_19 (by decide) rfl ?_
      refine x_iconst (pc := 20) (v := 1) G dL_isTold_20 (by decide) ?_
      exact x_iret (pc := 21) G B rfl dL_isTold_21 ⟨w1, _, rfl, hd1, Or.inr ⟨_, hp1, congrArg (fun z => Sum.inl (some (Value.int z))) xI_I.symm⟩⟩
theorem q_cw_account : Cond.codeWith yL_account cL_account 4 (some .int) [(0, 8, 11, 13)] ∈ TB := tb_i 1135 (by decide +kernel) (by decide +kernel)
theorem dL_account_0 : decode cL_account 0 = .ok (.aload_n 2, 1) := by decide +kernel
theorem dL_account_1 : decode cL_account 1 = .ok (.iconst 0, 1) := by decide +kernel
theorem dL_account_2 : decode cL_account 2 = .ok (.aload_n 0, 1) := by decide +kernel
theorem dL_account_3 : decode cL_account 3 = .ok (.iload_n 1, 1) := by decide +kernel
theorem dL_account_4 : decode cL_account 4 = .ok (.invokevirtual 156, 3) := by decide +kernel
theorem dL_account_7 : decode cL_account 7 = .ok (.lastore, 1) := by decide +kernel
theorem dL_account_8 : decode cL_account 8 = .ok (.goto 6, 3) := by decide +kernel
theorem dL_account_11 : decode cL_account 11 = .ok (.astore_n 3, 1) := by decide +kernel
theorem dL_account_12 : decode cL_account 12 = .ok (.iconst 1, 1) := by decide +kernel
theorem dL_account_13 : decode cL_account 13 = .ok (.ireturn, 1) := by decide +kernel
theorem dL_account_14 : decode cL_account 14 = .ok (.iconst 0, 1) := by decide +kernel
theorem dL_account_15 : decode cL_account 15 = .ok (.ireturn, 1) := by decide +kernel
abbrev rmL_account : Room := { frames := 7, cells := 1, slots := 6, locals := 111 }
set_option maxRecDepth 100000 in
set_option maxHeartbeats 4000000 in
theorem ch_account {l : Launch} {k : KC} (hl : l.stackTraces = false) {w : Wd} {b : Nat} {fs : List Value} (hb : b ∈ w.1) (hbf : w.2 b = .inr (11, fs)) {ao : Nat} {f : Nat → Int64} (hd : DJ w (oW k ao f)) {p1 : Int32} {P : Out → Wd → Prop} (hC : MC l k yX10_account (.code yX10_account cX10_account 2 (some .long)) rmt_X10_account [.ref b, .int p1] w P) (hP : ∀ o w1, P o w1 → (∃ r, o = .inl (some (.long r))) ∨ ∃ E, o = .inr E ∧ (E = "java/lang/IndexOutOfBoundsException")) : MI l k yL_account (.codeWith yL_account cL_account 4 (some .int) [(0, 8, 11, 13)]) rmL_account [.ref b, .int p1, .ref ao] (wu w (oW k ao f)) (fun o w2 => ∃ w1 f1, w2 = wu w1 (oW k ao f1) ∧ DJ w1 (oW k ao f1) ∧ ((∃ r, P (.inl (some (.long r))) w1 ∧ o = .inl (some (.int 0)) ∧ f1 0 = r) ∨ ∃ E, P (.inr E) w1 ∧ o = .inl (some (.int (xcI E))))) := by
  refine ML.of 1 hl (by decide) (Nat.le_of_ble_eq_true rfl) ?_
  intro p e s m args below meth c A Q G B ht
  show Wx p l e rmL_account s m args below meth c k A 4 Q 1 6 0 [some (.ref b), some (.int p1), some (.ref ao), none] [] (wu w (oW k ao f))
  refine x_aload2 (pc := 0) G dL_account_0 ?_
  refine x_iconst (pc := 1) (v := 0) G dL_account_1 (by decide) ?_
  refine x_aload0 (pc := 2) G dL_account_2 ?_
  refine x_iload1 (pc := 3) G dL_account_3 ?_
  refine x_callV (pc := 4) (bc1 := 0) (bs1 := 0) (n := 1) (As := [.int p1]) G (hC.frame hd) (List.mem_append_left _ hb) ((if_pos hb).trans hbf) kb_11.2.2.2.1 q_ml_L_156 q_im_yX10_account q_se_yX10_account q_in_X10 q_co_yX10_account ⟨by decide, by decide, by decide +kernel⟩ ⟨Nat.le_of_ble_eq_true rfl, Nat.le_of_ble_eq_true rfl⟩ (Nat.le_of_ble_eq_true rfl) (Nat.le_of_ble_eq_true rfl) (Nat.le_of_ble_eq_true rfl) rfl rfl dL_account_4 (fun v w9 hp => ?_) (fun E w9 hp => ?_)
  · obtain ⟨w1, hp1, hd1, rfl⟩ := hp
    obtain ⟨r, hv⟩ : ∃ r, v = some (.long r) := by
      rcases hP _ _ hp1 with ⟨r, z⟩ | ⟨E, z, _⟩
      · exact ⟨r, Sum.inl.inj z⟩
      · cases z
    subst hv
    refine x_lald0 (pc := 7) G hd1 dL_account_7 ?_
    refine x_goto (pc := 8) (tgt := 14) G dL_account_8 rfl ?_
    refine x_iconst (pc := 14) (v := 0) G dL_account_14 (by decide) ?_
    exact x_iret (pc := 15) G B rfl dL_account_15 ⟨w1, _, rfl, hd1, Or.inl ⟨r, hp1, rfl, up0⟩⟩
  · obtain ⟨w1, hp1, hd1, rfl⟩ := hp
    have hE : E = "java/lang/IndexOutOfBoundsException" := by
      rcases hP _ _ hp1 with ⟨r, z⟩ | ⟨E9, z, hE⟩
      · cases z
      · cases z; exact hE
    rcases hE with rfl
    · refine x_catch (pc := 4) G (name := "java/lang/IndexOutOfBoundsException") [] ({ startPc := 0, endPc := 8, handlerPc := 11, catchType := 13 } : ExceptionTableEntry) [] (ht.trans rfl) (fun z hz => (List.not_mem_nil hz).elim) (by decide) (by decide) q_cl_L_13 (by decide) (fun q => ?_)
      refine x_astore3 (pc := 11) G dL_account_11 (by decide) rfl ?_
      refine x_iconst (pc := 12) (v := 1) G dL_account_12 (by decide) ?_
      exact x_iret (pc := 13) G B rfl dL_account_13 ⟨w1, _, rfl, hd1, Or.inr ⟨_, hp1, congrArg (fun z => Sum.inl (some (Value.int z))) xI_I.symm⟩⟩
theorem q_cw_isSampled : Cond.codeWith yL_isSampled cL_isSampled 5 (some .int) [(0, 17, 20, 15), (0, 17, 24, 13)] ∈ TB := tb_i 1143 (by decide +kernel) (by decide +kernel)
theorem dL_isSampled_0 : decode cL_isSampled 0 = .ok (.aload_n 3, 1) := by decide +kernel
theorem dL_isSampled_1 : decode cL_isSampled 1 = .ok (.iconst 0, 1) := by decide +kernel
theorem dL_isSampled_2 : decode cL_isSampled 2 = .ok (.aload_n 0, 1) := by decide +kernel
theorem dL_isSampled_3 : decode cL_isSampled 3 = .ok (.iload_n 1, 1) := by decide +kernel
theorem dL_isSampled_4 : decode cL_isSampled 4 = .ok (.iload_n 2, 1) := by decide +kernel
theorem dL_isSampled_5 : decode cL_isSampled 5 = .ok (.invokevirtual 159, 3) := by decide +kernel
theorem dL_isSampled_8 : decode cL_isSampled 8 = .ok (.ifCond .eq 7, 3) := by decide +kernel
theorem dL_isSampled_11 : decode cL_isSampled 11 = .ok (.lconst 1, 1) := by decide +kernel
theorem dL_isSampled_12 : decode cL_isSampled 12 = .ok (.goto 4, 3) := by decide +kernel
theorem dL_isSampled_15 : decode cL_isSampled 15 = .ok (.lconst 0, 1) := by decide +kernel
theorem dL_isSampled_16 : decode cL_isSampled 16 = .ok (.lastore, 1) := by decide +kernel
theorem dL_isSampled_17 : decode cL_isSampled 17 = .ok (.goto 11, 3) := by decide +kernel
theorem dL_isSampled_20 : decode cL_isSampled 20 = .ok (.astore 4, 2) := by decide +kernel
theorem dL_isSampled_22 : decode cL_isSampled 22 = .ok (.iconst 1, 1) := by decide +kernel
theorem dL_isSampled_23 : decode cL_isSampled 23 = .ok (.ireturn, 1) := by decide +kernel
theorem dL_isSampled_24 : decode cL_isSampled 24 = .ok (.astore 4, 2) := by decide +kernel
theorem dL_isSampled_26 : decode cL_isSampled 26 = .ok (.iconst 2, 1) := by decide +kernel
theorem dL_isSampled_27 : decode cL_isSampled 27 = .ok (.ireturn, 1) := by decide +kernel
theorem dL_isSampled_28 : decode cL_isSampled 28 = .ok (.iconst 0, 1) := by decide +kernel
theorem dL_isSampled_29 : decode cL_isSampled 29 = .ok (.ireturn, 1) := by decide +kernel
abbrev rmL_isSampled : Room := { frames := 8, cells := 1, slots := 6, locals := 135 }
set_option maxRecDepth 100000 in
set_option maxHeartbeats 4000000 in
theorem ch_isSampled {l : Launch} {k : KC} (hl : l.stackTraces = false) {w : Wd} {b : Nat} {fs : List Value} (hb : b ∈ w.1) (hbf : w.2 b = .inr (11, fs)) {ao : Nat} {f : Nat → Int64} (hd : DJ w (oW k ao f)) {p1 p2 : Int32} {P : Out → Wd → Prop} (hC : MC l k yX10_isSampled (.code yX10_isSampled cX10_isSampled 4 (some .boolean)) rmt_X10_isSampled [.ref b, .int p1, .int p2] w P) (hP : ∀ o w1, P o w1 → (∃ r, o = .inl (some (.int r))) ∨ ∃ E, o = .inr E ∧ (E = "java/lang/IllegalArgumentException" ∨ E = "java/lang/IndexOutOfBoundsException")) : MI l k yL_isSampled (.codeWith yL_isSampled cL_isSampled 5 (some .int) [(0, 17, 20, 15), (0, 17, 24, 13)]) rmL_isSampled [.ref b, .int p1, .int p2, .ref ao] (wu w (oW k ao f)) (fun o w2 => ∃ w1 f1, w2 = wu w1 (oW k ao f1) ∧ DJ w1 (oW k ao f1) ∧ ((∃ r, P (.inl (some (.int r))) w1 ∧ o = .inl (some (.int 0)) ∧ f1 0 = if r = 0 then 0 else 1) ∨ ∃ E, P (.inr E) w1 ∧ o = .inl (some (.int (xcAI E))))) := by
  refine ML.of 1 hl (by decide) (Nat.le_of_ble_eq_true rfl) ?_
  intro p e s m args below meth c A Q G B ht
  show Wx p l e rmL_isSampled s m args below meth c k A 5 Q 1 6 0 [some (.ref b), some (.int p1), some (.int p2), some (.ref ao), none] [] (wu w (oW k ao f))
  refine x_aload3 (pc := 0) G dL_isSampled_0 ?_
  refine x_iconst (pc := 1) (v := 0) G dL_isSampled_1 (by decide) ?_
  refine x_aload0 (pc := 2) G dL_isSampled_2 ?_
  refine x_iload1 (pc := 3) G dL_isSampled_3 ?_
  refine x_iload2 (pc := 4) G dL_isSampled_4 ?_
  refine x_callV (pc := 5) (bc1 := 0) (bs1 := 0) (n := 2) (As := [.int p1, .int p2]) G (hC.frame hd) (List.mem_append_left _ hb) ((if_pos hb).trans hbf) kb_11.2.2.2.1 q_ml_L_159 q_im_yX10_isSampled q_se_yX10_isSampled q_in_X10 q_co_yX10_isSampled ⟨by decide, by decide, by decide +kernel⟩ ⟨Nat.le_of_ble_eq_true rfl, Nat.le_of_ble_eq_true rfl⟩ (Nat.le_of_ble_eq_true rfl) (Nat.le_of_ble_eq_true rfl) (Nat.le_of_ble_eq_true rfl) rfl rfl dL_isSampled_5 (fun v w9 hp => ?_) (fun E w9 hp => ?_)
  · obtain ⟨w1, hp1, hd1, rfl⟩ := hp
    obtain ⟨r, hv⟩ : ∃ r, v = some (.int r) := by
      rcases hP _ _ hp1 with ⟨r, z⟩ | ⟨E, z, _⟩
      · exact ⟨r, Sum.inl.inj z⟩
      · cases z
    subst hv
    refine x_if_eq (pc := 8) (tgt := 15) (y := 0) G dL_isSampled_8 rfl (fun cz => ?_) (fun cz => ?_)
    · skip
      refine x_lconst (pc := 15) (v := 0) G dL_isSampled_15 (by decide) ?_
      refine x_lald0 (pc := 16) G hd1 dL_isSampled_16 ?_
      refine x_goto (pc := 17) (tgt := 28) G dL_isSampled_17 rfl ?_
      refine x_iconst (pc := 28) (v := 0) G dL_isSampled_28 (by decide) ?_
      exact x_iret (pc := 29) G B rfl dL_isSampled_29 ⟨w1, _, rfl, hd1, Or.inl ⟨r, hp1, rfl, (up0.trans (if_pos cz).symm)⟩⟩
    · skip
      refine x_lconst (pc := 11) (v := 1) G dL_isSampled_11 (by decide) ?_
      refine x_goto (pc := 12) (tgt := 16) G dL_isSampled_12 rfl ?_
      refine x_lald0 (pc := 16) G hd1 dL_isSampled_16 ?_
      refine x_goto (pc := 17) (tgt := 28) G dL_isSampled_17 rfl ?_
      refine x_iconst (pc := 28) (v := 0) G dL_isSampled_28 (by decide) ?_
      exact x_iret (pc := 29) G B rfl dL_isSampled_29 ⟨w1, _, rfl, hd1, Or.inl ⟨r, hp1, rfl, (up0.trans (if_neg cz).symm)⟩⟩
  · obtain ⟨w1, hp1, hd1, rfl⟩ := hp
    have hE : E = "java/lang/IllegalArgumentException" ∨ E = "java/lang/IndexOutOfBoundsException" := by
      rcases hP _ _ hp1 with ⟨r, z⟩ | ⟨E9, z, hE⟩
      · cases z
      · cases z; exact hE
    rcases hE with rfl | rfl
    · refine x_catch (pc := 5) G (name := "java/lang/IllegalArgumentException") [] ({ startPc := 0, endPc := 17, handlerPc := 20, catchType := 15 } : ExceptionTableEntry) [({ startPc := 0, endPc := 17, handlerPc := 24, catchType := 13 } : ExceptionTableEntry)] (ht.trans rfl) (fun z hz => (List.not_mem_nil hz).elim) (by decide) (by decide) q_cl_L_15 (by decide) (fun q => ?_)
      refine x_astore4 (pc := 20) G dL_isSampled_20 (by decide) rfl ?_
      refine x_iconst (pc := 22) (v := 1) G dL_isSampled_22 (by decide) ?_
      exact x_iret (pc := 23) G B rfl dL_isSampled_23 ⟨w1, _, rfl, hd1, Or.inr ⟨_, hp1, congrArg (fun z => Sum.inl (some (Value.int z))) xAI_A.symm⟩⟩
    · refine x_catch (pc := 5) G (name := "java/lang/IndexOutOfBoundsException") [({ startPc := 0, endPc := 17, handlerPc := 20, catchType := 15 } : ExceptionTableEntry)] ({ startPc := 0, endPc := 17, handlerPc := 24, catchType := 13 } : ExceptionTableEntry) [] (ht.trans rfl) (fun z hz => by
        simp only [List.mem_cons, List.not_mem_nil, or_false] at hz
        rcases hz with rfl
        · exact ⟨by decide, _, q_cl_L_15, by decide⟩) (by decide) (by decide) q_cl_L_13 (by decide) (fun q => ?_)
      refine x_astore4 (pc := 24) G dL_isSampled_24 (by decide) rfl ?_
      refine x_iconst (pc := 26) (v := 2) G dL_isSampled_26 (by decide) ?_
      exact x_iret (pc := 27) G B rfl dL_isSampled_27 ⟨w1, _, rfl, hd1, Or.inr ⟨_, hp1, congrArg (fun z => Sum.inl (some (Value.int z))) xAI_I.symm⟩⟩
