theorem dl_2584 : decode cL_law 2584 = .ok (.aload_n 1, 1) := by decide +kernel
theorem dl_2585 : decode cL_law 2585 = .ok (.aload_n 0, 1) := by decide +kernel
theorem dl_2586 : decode cL_law 2586 = .ok (.iload 4, 2) := by decide +kernel
theorem dl_2588 : decode cL_law 2588 = .ok (.iconst 1, 1) := by decide +kernel
theorem dl_2589 : decode cL_law 2589 = .ok (.iadd, 1) := by decide +kernel
theorem dl_2590 : decode cL_law 2590 = .ok (.iaload, 1) := by decide +kernel
theorem dl_2591 : decode cL_law 2591 = .ok (.aload_n 0, 1) := by decide +kernel
theorem dl_2592 : decode cL_law 2592 = .ok (.iload 4, 2) := by decide +kernel
theorem dl_2594 : decode cL_law 2594 = .ok (.iconst 2, 1) := by decide +kernel
theorem dl_2595 : decode cL_law 2595 = .ok (.iadd, 1) := by decide +kernel
theorem dl_2596 : decode cL_law 2596 = .ok (.iaload, 1) := by decide +kernel
theorem dl_2597 : decode cL_law 2597 = .ok (.aload_n 0, 1) := by decide +kernel
theorem dl_2598 : decode cL_law 2598 = .ok (.iload 4, 2) := by decide +kernel
theorem dl_2600 : decode cL_law 2600 = .ok (.iconst 3, 1) := by decide +kernel
theorem dl_2601 : decode cL_law 2601 = .ok (.iadd, 1) := by decide +kernel
theorem dl_2602 : decode cL_law 2602 = .ok (.iaload, 1) := by decide +kernel
theorem dl_2603 : decode cL_law 2603 = .ok (.aload_n 3, 1) := by decide +kernel
theorem dl_2604 : decode cL_law 2604 = .ok (.invokestatic 291, 3) := by decide +kernel
theorem dl_2607 : decode cL_law 2607 = .ok (.istore 5, 2) := by decide +kernel
theorem dl_2609 : decode cL_law 2609 = .ok (.aload_n 2, 1) := by decide +kernel
theorem dl_2610 : decode cL_law 2610 = .ok (.aload_n 0, 1) := by decide +kernel
theorem dl_2611 : decode cL_law 2611 = .ok (.iload 4, 2) := by decide +kernel
theorem dl_2613 : decode cL_law 2613 = .ok (.iconst 1, 1) := by decide +kernel
theorem dl_2614 : decode cL_law 2614 = .ok (.iadd, 1) := by decide +kernel
theorem dl_2615 : decode cL_law 2615 = .ok (.iaload, 1) := by decide +kernel
theorem dl_2616 : decode cL_law 2616 = .ok (.aload_n 0, 1) := by decide +kernel
theorem dl_2617 : decode cL_law 2617 = .ok (.iload 4, 2) := by decide +kernel
theorem dl_2619 : decode cL_law 2619 = .ok (.iconst 2, 1) := by decide +kernel
theorem dl_2620 : decode cL_law 2620 = .ok (.iadd, 1) := by decide +kernel
theorem dl_2621 : decode cL_law 2621 = .ok (.iaload, 1) := by decide +kernel
theorem dl_2622 : decode cL_law 2622 = .ok (.aload_n 0, 1) := by decide +kernel
theorem dl_2623 : decode cL_law 2623 = .ok (.iload 4, 2) := by decide +kernel
theorem dl_2625 : decode cL_law 2625 = .ok (.iconst 3, 1) := by decide +kernel
theorem dl_2626 : decode cL_law 2626 = .ok (.iadd, 1) := by decide +kernel
theorem dl_2627 : decode cL_law 2627 = .ok (.iaload, 1) := by decide +kernel
theorem dl_2628 : decode cL_law 2628 = .ok (.invokevirtual 293, 3) := by decide +kernel
theorem dl_2631 : decode cL_law 2631 = .ok (.lstore 6, 2) := by decide +kernel
theorem dl_2633 : decode cL_law 2633 = .ok (.aload_n 2, 1) := by decide +kernel
theorem dl_2634 : decode cL_law 2634 = .ok (.invokevirtual 172, 3) := by decide +kernel
theorem dl_2637 : decode cL_law 2637 = .ok (.iload 5, 2) := by decide +kernel
theorem dl_2639 : decode cL_law 2639 = .ok (.if_icmp .eq 5, 3) := by decide +kernel
theorem dl_2642 : decode cL_law 2642 = .ok (.iconst 0, 1) := by decide +kernel
theorem dl_2643 : decode cL_law 2643 = .ok (.ireturn, 1) := by decide +kernel
theorem dl_2644 : decode cL_law 2644 = .ok (.iload 5, 2) := by decide +kernel
theorem dl_2646 : decode cL_law 2646 = .ok (.ifCond .ne 14, 3) := by decide +kernel
theorem dl_2649 : decode cL_law 2649 = .ok (.aload_n 3, 1) := by decide +kernel
theorem dl_2650 : decode cL_law 2650 = .ok (.iconst 0, 1) := by decide +kernel
theorem dl_2651 : decode cL_law 2651 = .ok (.laload, 1) := by decide +kernel
theorem dl_2652 : decode cL_law 2652 = .ok (.lload 6, 2) := by decide +kernel
theorem dl_2654 : decode cL_law 2654 = .ok (.lcmp, 1) := by decide +kernel
theorem dl_2655 : decode cL_law 2655 = .ok (.ifCond .eq 5, 3) := by decide +kernel
theorem dl_2658 : decode cL_law 2658 = .ok (.iconst 0, 1) := by decide +kernel
theorem dl_2659 : decode cL_law 2659 = .ok (.ireturn, 1) := by decide +kernel
theorem dl_2660 : decode cL_law 2660 = .ok (.goto 588, 3) := by decide +kernel
set_option maxRecDepth 100000 in
set_option maxHeartbeats 4000000 in
theorem lk_centre {p : Program} {l : Launch} {e : Env} {s : State} {m : MethodId} {args : Array Value} {below : List Frame} {meth : Method} {c : Code} {k : KC} {A : Nat → Prop} {Q : State → Prop} {bc1 bs1 b0 Ln b ao mo i : Nat} {xs : Nat → Int32} {ad : Nat → Nat} {f : Nat → Int64} {X : CX} {S : CT} {M : MS} {rt9 : Option FieldType} (hl : l.stackTraces = false) (G : GX p l room_1 s m args meth c k A RL cL_law 8 rt9) (hX : va_X b0 Ln xs s s.heap) (hbl : b0 < s.heap.size) (hbA : ¬ A b0) (hH : HM mo ad) (hi : i + 8 ≤ Ln) (hL : Ln ≤ 4096) (h : LV9 k b X S ao f mo ad M) (hend : ∀ X2 S2 M2 f2, LV9 k b X2 S2 ao f2 mo ad M2 → Wx p l e room_1 s m args below meth c k A 8 Q bc1 bs1 3248 [some (.ref b0), some (.ref b), some (.ref mo), some (.ref ao), some (.int (nI i)), none, none, none] [] (WL k X2 S2 ao f2 mo ad M2)) : Wx p l e room_1 s m args below meth c k A 8 Q (bc1 + 1) (bs1 + 6) 2584 [some (.ref b0), some (.ref b), some (.ref mo), some (.ref ao), some (.int (nI i)), none, none, none] [] (WL k X S ao f mo ad M) := by
  obtain ⟨hI, hb, hd1, hd2⟩ := h
  obtain ⟨hbm, fs, hbf⟩ := cw11 (k := k) (S := S) hI.1 hb
  have hvr := vr11 hb
  have hx1 : vp_in (nI i + 1) Ln := ix_in (j := 1) rfl (by omega) hL
  have hx2 : vp_in (nI i + 2) Ln := ix_in (j := 2) rfl (by omega) hL
  have hx3 : vp_in (nI i + 3) Ln := ix_in (j := 3) rfl (by omega) hL
  unfold WL
  refine x_aload1 (pc := 2584) G dl_2584 ?_
  refine x_aload0 (pc := 2585) G dl_2585 ?_
  refine x_iload4 (pc := 2586) G dl_2586 ?_
  refine x_iconst (pc := 2588) (v := 1) G dl_2588 (by decide) ?_
  refine x_iadd (pc := 2589) G dl_2589 ?_
  refine x_sld (pc := 2590) G hX hbl hbA hx1 dl_2590 ?_
  refine x_aload0 (pc := 2591) G dl_2591 ?_
  refine x_iload4 (pc := 2592) G dl_2592 ?_
  refine x_iconst (pc := 2594) (v := 2) G dl_2594 (by decide) ?_
  refine x_iadd (pc := 2595) G dl_2595 ?_
  refine x_sld (pc := 2596) G hX hbl hbA hx2 dl_2596 ?_
  refine x_aload0 (pc := 2597) G dl_2597 ?_
  refine x_iload4 (pc := 2598) G dl_2598 ?_
  refine x_iconst (pc := 2600) (v := 3) G dl_2600 (by decide) ?_
  refine x_iadd (pc := 2601) G dl_2601 ?_
  refine x_sld (pc := 2602) G hX hbl hbA hx3 dl_2602 ?_
  refine x_aload3 (pc := 2603) G dl_2603 ?_
  have hC := kc_centre (k := k) hl hI (p1 := (xs (nI i + 1).toNatClampNeg)) (p2 := (xs (nI i + 2).toNatClampNeg)) (p3 := (xs (nI i + 3).toNatClampNeg))
  rw [hvr] at hC
  have hst := fun {o : Out} {w : Wd} => so_centre (k := k) (o := o) (w := w) (p1 := (xs (nI i + 1).toNatClampNeg)) (p2 := (xs (nI i + 2).toNatClampNeg)) (p3 := (xs (nI i + 3).toNatClampNeg)) hI
  have hh := ch_centre hl hbm hbf hd1 hC (fun o w hp => by
    obtain ⟨_, _, _, _, _, ⟨ho, _⟩ | ⟨E, he, _, hc⟩⟩ := hst hp
    · exact Or.inl ⟨_, ho⟩
    · exact Or.inr ⟨E, he, hc⟩)
  have hh := MI.frame hh hd2
  refine x_callSW (pc := 2604) (bc1 := bc1) (bs1 := bs1) (n := 5) (As := [.ref b, .int (xs (nI i + 1).toNatClampNeg), .int (xs (nI i + 2).toNatClampNeg), .int (xs (nI i + 3).toNatClampNeg), .ref ao]) G hh q_ml_L_291 q_st_yL_centre q_in_L q_cw_centre ⟨by decide, by decide, by decide +kernel⟩ ⟨Nat.le_of_ble_eq_true rfl, Nat.le_of_ble_eq_true rfl⟩ (Nat.zero_le _) (Nat.le_refl _) (Nat.le_refl _) rfl rfl dl_2604 (fun v w9 hp => ?_)
  obtain ⟨X2, S2, f2, kc, rfl, hL2, hv, hk, hz⟩ : ∃ X2 S2 f2 kc, w9 = wu (wu (cW k X2 S2) (oW k ao f2)) (mW k mo ad M) ∧ LV9 k b X2 S2 ao f2 mo ad (f_centre (xs (nI i + 1).toNatClampNeg) (xs (nI i + 2).toNatClampNeg) (xs (nI i + 3).toNatClampNeg) M).2 ∧ v = some (.int kc) ∧ mI (f_centre (xs (nI i + 1).toNatClampNeg) (xs (nI i + 2).toNatClampNeg) (xs (nI i + 3).toNatClampNeg) M).2 0 = kc ∧ (kc = 0 → f2 0 = (f_centre (xs (nI i + 1).toNatClampNeg) (xs (nI i + 2).toNatClampNeg) (xs (nI i + 3).toNatClampNeg) M).1) := by
    obtain ⟨h9, ⟨w1, f1, rfl, hd1', hpp⟩, hd2', rfl⟩ := hp
    rcases hpp with ⟨r, hp1, hv, hf⟩ | ⟨E, hp1, hv⟩
    · obtain ⟨X2, S2, rfl, hI2, hb2, ⟨ho, h0⟩ | ⟨E, he, _, _⟩⟩ := hst hp1
      · have e9 := Sum.inl.inj ho
        cases e9
        exact ⟨X2, S2, _, 0, rfl, ⟨hI2, hb2.trans hb, hd1', hd2'⟩, Sum.inl.inj hv, h0, fun _ => hf⟩
      · cases he
    · obtain ⟨X2, S2, rfl, hI2, hb2, ⟨ho, h0⟩ | ⟨E2, he, h0, hc⟩⟩ := hst hp1
      · cases ho
      · cases he
        refine ⟨X2, S2, _, _, rfl, ⟨hI2, hb2.trans hb, hd1', hd2'⟩, Sum.inl.inj hv, h0, fun z => ?_⟩
        rcases hc with rfl | rfl <;> exact absurd z (by decide)
  subst hv
  obtain ⟨hI2, hb2, hd1', hd2'⟩ := id hL2
  refine x_istore5 (pc := 2607) G dl_2607 (by decide) rfl ?_
  refine x_aload2 (pc := 2609) G dl_2609 ?_
  refine x_aload0 (pc := 2610) G dl_2610 ?_
  refine x_iload4 (pc := 2611) G dl_2611 ?_
  refine x_iconst (pc := 2613) (v := 1) G dl_2613 (by decide) ?_
  refine x_iadd (pc := 2614) G dl_2614 ?_
  refine x_sld (pc := 2615) G hX hbl hbA hx1 dl_2615 ?_
  refine x_aload0 (pc := 2616) G dl_2616 ?_
  refine x_iload4 (pc := 2617) G dl_2617 ?_
  refine x_iconst (pc := 2619) (v := 2) G dl_2619 (by decide) ?_
  refine x_iadd (pc := 2620) G dl_2620 ?_
  refine x_sld (pc := 2621) G hX hbl hbA hx2 dl_2621 ?_
  refine x_aload0 (pc := 2622) G dl_2622 ?_
  refine x_iload4 (pc := 2623) G dl_2623 ?_
  refine x_iconst (pc := 2625) (v := 3) G dl_2625 (by decide) ?_
  refine x_iadd (pc := 2626) G dl_2626 ?_
  refine x_sld (pc := 2627) G hX hbl hbA hx3 dl_2627 ?_
  have hr := rc_centre (k := k) hl hH hI.2.2.2 (p1 := (xs (nI i + 1).toNatClampNeg)) (p2 := (xs (nI i + 2).toNatClampNeg)) (p3 := (xs (nI i + 3).toNatClampNeg))
  refine Wx_perm hd2' ?_
  refine x_callV (pc := 2628) (bc1 := bc1) (bs1 := bs1) (n := 3) (As := [.int (xs (nI i + 1).toNatClampNeg), .int (xs (nI i + 2).toNatClampNeg), .int (xs (nI i + 3).toNatClampNeg)]) G (hr.frame (fun a ha z => hd2' a z ha)) (List.mem_append_left _ mW_mo.1) ((if_pos mW_mo.1).trans mW_mo.2) (show vwCl[12]? = some (_, _, _) from rfl) q_ml_L_293 q_im_yX11_centre q_se_yX11_centre q_in_X11 q_co_yX11_centre ⟨by decide, by decide, by decide +kernel⟩ ⟨Nat.le_of_ble_eq_true rfl, Nat.le_of_ble_eq_true rfl⟩ (Nat.zero_le _) (Nat.le_refl _) (Nat.le_refl _) rfl rfl dl_2628 (fun v w9 hp => ?_) (fun E w9 hp => by obtain ⟨_, hq, _⟩ := hp; cases hq.1)
  obtain ⟨h9, ⟨hv, rfl⟩, _, rfl⟩ := hp
  have hv := Sum.inl.inj hv
  subst hv
  refine Wx_perm (fun a ha z => hd2' a z ha) ?_
  refine x_lstore6 (pc := 2631) G dl_2631 (by decide) rfl ?_
  refine x_aload2 (pc := 2633) G dl_2633 ?_
  refine Wx_perm hd2' ?_
  refine x_callV (pc := 2634) (bc1 := bc1) (bs1 := bs1) (n := 0) (As := []) G ((c_thrown (k := k) (M := (f_centre (xs (nI i + 1).toNatClampNeg) (xs (nI i + 2).toNatClampNeg) (xs (nI i + 3).toNatClampNeg) M).2) hl hH).frame (fun a ha z => hd2' a z ha)) (List.mem_append_left _ mW_mo.1) ((if_pos mW_mo.1).trans mW_mo.2) (show vwCl[12]? = some (_, _, _) from rfl) q_ml_L_172 q_im_yX11_thrown q_se_yX11_thrown q_in_X11 q_co_yX11_thrown ⟨by decide, by decide, by decide +kernel⟩ ⟨Nat.le_of_ble_eq_true rfl, Nat.le_of_ble_eq_true rfl⟩ (Nat.zero_le _) (Nat.le_refl _) (Nat.le_refl _) rfl rfl dl_2634 (fun v w9 hp => ?_) (fun E w9 hp => by obtain ⟨_, hq, _⟩ := hp; cases hq.1)
  obtain ⟨h9, ⟨hv, rfl⟩, _, rfl⟩ := hp
  have hv := Sum.inl.inj hv
  subst hv
  refine Wx_perm (fun a ha z => hd2' a z ha) ?_
  refine x_iload5 (pc := 2637) G dl_2637 ?_
  refine x_icmp_eq (pc := 2639) (tgt := 2644) G dl_2639 rfl (fun _ => ?_) (fun z9 => absurd hk z9)
  refine x_iload5 (pc := 2644) G dl_2644 ?_
  refine x_if_ne (pc := 2646) (tgt := 2660) (y := 0) G dl_2646 rfl (fun _ => ?_) (fun z9 => ?_)
  · skip
    refine x_goto (pc := 2660) (tgt := 3248) G dl_2660 rfl ?_
    exact Wx_l8 (hend X2 S2 _ f2 hL2)
  · have hf := hz z9
    refine x_aload3 (pc := 2649) G dl_2649 ?_
    refine x_iconst (pc := 2650) (v := 0) G dl_2650 (by decide) ?_
    refine x_old (pc := 2651) G hd1' dl_2651 ?_
    refine x_lload6 (pc := 2652) G dl_2652 ?_
    refine x_lcmp (pc := 2654) G dl_2654 ?_
    refine x_if_eq (pc := 2655) (tgt := 2660) (y := 0) G dl_2655 rfl (fun _ => ?_) (fun z8 => absurd (lg_same hf) z8)
    refine x_goto (pc := 2660) (tgt := 3248) G dl_2660 rfl ?_
    exact Wx_l8 (hend X2 S2 _ f2 hL2)
theorem dl_2663 : decode cL_law 2663 = .ok (.aload_n 1, 1) := by decide +kernel
theorem dl_2664 : decode cL_law 2664 = .ok (.aload_n 0, 1) := by decide +kernel
theorem dl_2665 : decode cL_law 2665 = .ok (.iload 4, 2) := by decide +kernel
theorem dl_2667 : decode cL_law 2667 = .ok (.iconst 1, 1) := by decide +kernel
theorem dl_2668 : decode cL_law 2668 = .ok (.iadd, 1) := by decide +kernel
theorem dl_2669 : decode cL_law 2669 = .ok (.iaload, 1) := by decide +kernel
theorem dl_2670 : decode cL_law 2670 = .ok (.aload_n 0, 1) := by decide +kernel
theorem dl_2671 : decode cL_law 2671 = .ok (.iload 4, 2) := by decide +kernel
theorem dl_2673 : decode cL_law 2673 = .ok (.iconst 2, 1) := by decide +kernel
theorem dl_2674 : decode cL_law 2674 = .ok (.iadd, 1) := by decide +kernel
theorem dl_2675 : decode cL_law 2675 = .ok (.iaload, 1) := by decide +kernel
theorem dl_2676 : decode cL_law 2676 = .ok (.aload_n 3, 1) := by decide +kernel
theorem dl_2677 : decode cL_law 2677 = .ok (.invokestatic 294, 3) := by decide +kernel
theorem dl_2680 : decode cL_law 2680 = .ok (.istore 5, 2) := by decide +kernel
theorem dl_2682 : decode cL_law 2682 = .ok (.aload_n 2, 1) := by decide +kernel
theorem dl_2683 : decode cL_law 2683 = .ok (.aload_n 0, 1) := by decide +kernel
theorem dl_2684 : decode cL_law 2684 = .ok (.iload 4, 2) := by decide +kernel
theorem dl_2686 : decode cL_law 2686 = .ok (.iconst 1, 1) := by decide +kernel
theorem dl_2687 : decode cL_law 2687 = .ok (.iadd, 1) := by decide +kernel
theorem dl_2688 : decode cL_law 2688 = .ok (.iaload, 1) := by decide +kernel
theorem dl_2689 : decode cL_law 2689 = .ok (.aload_n 0, 1) := by decide +kernel
theorem dl_2690 : decode cL_law 2690 = .ok (.iload 4, 2) := by decide +kernel
theorem dl_2692 : decode cL_law 2692 = .ok (.iconst 2, 1) := by decide +kernel
theorem dl_2693 : decode cL_law 2693 = .ok (.iadd, 1) := by decide +kernel
theorem dl_2694 : decode cL_law 2694 = .ok (.iaload, 1) := by decide +kernel
theorem dl_2695 : decode cL_law 2695 = .ok (.invokevirtual 296, 3) := by decide +kernel
theorem dl_2698 : decode cL_law 2698 = .ok (.lstore 6, 2) := by decide +kernel
theorem dl_2700 : decode cL_law 2700 = .ok (.aload_n 2, 1) := by decide +kernel
theorem dl_2701 : decode cL_law 2701 = .ok (.invokevirtual 172, 3) := by decide +kernel
theorem dl_2704 : decode cL_law 2704 = .ok (.iload 5, 2) := by decide +kernel
theorem dl_2706 : decode cL_law 2706 = .ok (.if_icmp .eq 5, 3) := by decide +kernel
theorem dl_2709 : decode cL_law 2709 = .ok (.iconst 0, 1) := by decide +kernel
theorem dl_2710 : decode cL_law 2710 = .ok (.ireturn, 1) := by decide +kernel
theorem dl_2711 : decode cL_law 2711 = .ok (.iload 5, 2) := by decide +kernel
theorem dl_2713 : decode cL_law 2713 = .ok (.ifCond .ne 14, 3) := by decide +kernel
theorem dl_2716 : decode cL_law 2716 = .ok (.aload_n 3, 1) := by decide +kernel
theorem dl_2717 : decode cL_law 2717 = .ok (.iconst 0, 1) := by decide +kernel
theorem dl_2718 : decode cL_law 2718 = .ok (.laload, 1) := by decide +kernel
theorem dl_2719 : decode cL_law 2719 = .ok (.lload 6, 2) := by decide +kernel
theorem dl_2721 : decode cL_law 2721 = .ok (.lcmp, 1) := by decide +kernel
theorem dl_2722 : decode cL_law 2722 = .ok (.ifCond .eq 5, 3) := by decide +kernel
theorem dl_2725 : decode cL_law 2725 = .ok (.iconst 0, 1) := by decide +kernel
theorem dl_2726 : decode cL_law 2726 = .ok (.ireturn, 1) := by decide +kernel
theorem dl_2727 : decode cL_law 2727 = .ok (.goto 521, 3) := by decide +kernel
set_option maxRecDepth 100000 in
set_option maxHeartbeats 4000000 in
theorem lk_requestOf {p : Program} {l : Launch} {e : Env} {s : State} {m : MethodId} {args : Array Value} {below : List Frame} {meth : Method} {c : Code} {k : KC} {A : Nat → Prop} {Q : State → Prop} {bc1 bs1 b0 Ln b ao mo i : Nat} {xs : Nat → Int32} {ad : Nat → Nat} {f : Nat → Int64} {X : CX} {S : CT} {M : MS} {rt9 : Option FieldType} (hl : l.stackTraces = false) (G : GX p l room_1 s m args meth c k A RL cL_law 8 rt9) (hX : va_X b0 Ln xs s s.heap) (hbl : b0 < s.heap.size) (hbA : ¬ A b0) (hH : HM mo ad) (hi : i + 8 ≤ Ln) (hL : Ln ≤ 4096) (h : LV9 k b X S ao f mo ad M) (hend : ∀ X2 S2 M2 f2, LV9 k b X2 S2 ao f2 mo ad M2 → Wx p l e room_1 s m args below meth c k A 8 Q bc1 bs1 3248 [some (.ref b0), some (.ref b), some (.ref mo), some (.ref ao), some (.int (nI i)), none, none, none] [] (WL k X2 S2 ao f2 mo ad M2)) : Wx p l e room_1 s m args below meth c k A 8 Q (bc1 + 1) (bs1 + 6) 2663 [some (.ref b0), some (.ref b), some (.ref mo), some (.ref ao), some (.int (nI i)), none, none, none] [] (WL k X S ao f mo ad M) := by
  obtain ⟨hI, hb, hd1, hd2⟩ := h
  obtain ⟨hbm, fs, hbf⟩ := cw11 (k := k) (S := S) hI.1 hb
  have hvr := vr11 hb
  have hx1 : vp_in (nI i + 1) Ln := ix_in (j := 1) rfl (by omega) hL
  have hx2 : vp_in (nI i + 2) Ln := ix_in (j := 2) rfl (by omega) hL
  unfold WL
  refine x_aload1 (pc := 2663) G dl_2663 ?_
  refine x_aload0 (pc := 2664) G dl_2664 ?_
  refine x_iload4 (pc := 2665) G dl_2665 ?_
  refine x_iconst (pc := 2667) (v := 1) G dl_2667 (by decide) ?_
  refine x_iadd (pc := 2668) G dl_2668 ?_
  refine x_sld (pc := 2669) G hX hbl hbA hx1 dl_2669 ?_
  refine x_aload0 (pc := 2670) G dl_2670 ?_
  refine x_iload4 (pc := 2671) G dl_2671 ?_
  refine x_iconst (pc := 2673) (v := 2) G dl_2673 (by decide) ?_
  refine x_iadd (pc := 2674) G dl_2674 ?_
  refine x_sld (pc := 2675) G hX hbl hbA hx2 dl_2675 ?_
  refine x_aload3 (pc := 2676) G dl_2676 ?_
  have hC := kc_requestOf (k := k) hl hI (p1 := (xs (nI i + 1).toNatClampNeg)) (p2 := (xs (nI i + 2).toNatClampNeg))
  rw [hvr] at hC
  have hst := fun {o : Out} {w : Wd} => so_requestOf (k := k) (o := o) (w := w) (p1 := (xs (nI i + 1).toNatClampNeg)) (p2 := (xs (nI i + 2).toNatClampNeg)) hI
  have hh := ch_requestOf hl hbm hbf hd1 hC (fun o w hp => by
    obtain ⟨_, _, _, _, _, ⟨ho, _⟩ | ⟨E, he, _, hc⟩⟩ := hst hp
    · exact Or.inl ⟨_, ho⟩
    · exact Or.inr ⟨E, he, hc⟩)
  have hh := MI.frame hh hd2
  refine x_callSW (pc := 2677) (bc1 := bc1) (bs1 := bs1) (n := 4) (As := [.ref b, .int (xs (nI i + 1).toNatClampNeg), .int (xs (nI i + 2).toNatClampNeg), .ref ao]) G hh q_ml_L_294 q_st_yL_requestOf q_in_L q_cw_requestOf ⟨by decide, by decide, by decide +kernel⟩ ⟨Nat.le_of_ble_eq_true rfl, Nat.le_of_ble_eq_true rfl⟩ (Nat.zero_le _) (Nat.le_refl _) (Nat.le_refl _) rfl rfl dl_2677 (fun v w9 hp => ?_)
  obtain ⟨X2, S2, f2, kc, rfl, hL2, hv, hk, hz⟩ : ∃ X2 S2 f2 kc, w9 = wu (wu (cW k X2 S2) (oW k ao f2)) (mW k mo ad M) ∧ LV9 k b X2 S2 ao f2 mo ad (f_requestOf (xs (nI i + 1).toNatClampNeg) (xs (nI i + 2).toNatClampNeg) M).2 ∧ v = some (.int kc) ∧ mI (f_requestOf (xs (nI i + 1).toNatClampNeg) (xs (nI i + 2).toNatClampNeg) M).2 0 = kc ∧ (kc = 0 → f2 0 = (f_requestOf (xs (nI i + 1).toNatClampNeg) (xs (nI i + 2).toNatClampNeg) M).1) := by
    obtain ⟨h9, ⟨w1, f1, rfl, hd1', hpp⟩, hd2', rfl⟩ := hp
    rcases hpp with ⟨r, hp1, hv, hf⟩ | ⟨E, hp1, hv⟩
    · obtain ⟨X2, S2, rfl, hI2, hb2, ⟨ho, h0⟩ | ⟨E, he, _, _⟩⟩ := hst hp1
      · have e9 := Sum.inl.inj ho
        cases e9
        exact ⟨X2, S2, _, 0, rfl, ⟨hI2, hb2.trans hb, hd1', hd2'⟩, Sum.inl.inj hv, h0, fun _ => hf⟩
      · cases he
    · obtain ⟨X2, S2, rfl, hI2, hb2, ⟨ho, h0⟩ | ⟨E2, he, h0, hc⟩⟩ := hst hp1
      · cases ho
      · cases he
        refine ⟨X2, S2, _, _, rfl, ⟨hI2, hb2.trans hb, hd1', hd2'⟩, Sum.inl.inj hv, h0, fun z => ?_⟩
        rcases hc with rfl | rfl <;> exact absurd z (by decide)
  subst hv
  obtain ⟨hI2, hb2, hd1', hd2'⟩ := id hL2
  refine x_istore5 (pc := 2680) G dl_2680 (by decide) rfl ?_
  refine x_aload2 (pc := 2682) G dl_2682 ?_
  refine x_aload0 (pc := 2683) G dl_2683 ?_
  refine x_iload4 (pc := 2684) G dl_2684 ?_
  refine x_iconst (pc := 2686) (v := 1) G dl_2686 (by decide) ?_
  refine x_iadd (pc := 2687) G dl_2687 ?_
  refine x_sld (pc := 2688) G hX hbl hbA hx1 dl_2688 ?_
  refine x_aload0 (pc := 2689) G dl_2689 ?_
  refine x_iload4 (pc := 2690) G dl_2690 ?_
  refine x_iconst (pc := 2692) (v := 2) G dl_2692 (by decide) ?_
  refine x_iadd (pc := 2693) G dl_2693 ?_
  refine x_sld (pc := 2694) G hX hbl hbA hx2 dl_2694 ?_
  have hr := rc_requestOf (k := k) hl hH hI.2.2.2 (p1 := (xs (nI i + 1).toNatClampNeg)) (p2 := (xs (nI i + 2).toNatClampNeg))
  refine Wx_perm hd2' ?_
  refine x_callV (pc := 2695) (bc1 := bc1) (bs1 := bs1) (n := 2) (As := [.int (xs (nI i + 1).toNatClampNeg), .int (xs (nI i + 2).toNatClampNeg)]) G (hr.frame (fun a ha z => hd2' a z ha)) (List.mem_append_left _ mW_mo.1) ((if_pos mW_mo.1).trans mW_mo.2) (show vwCl[12]? = some (_, _, _) from rfl) q_ml_L_296 q_im_yX11_requestOf q_se_yX11_requestOf q_in_X11 q_co_yX11_requestOf ⟨by decide, by decide, by decide +kernel⟩ ⟨Nat.le_of_ble_eq_true rfl, Nat.le_of_ble_eq_true rfl⟩ (Nat.zero_le _) (Nat.le_refl _) (Nat.le_refl _) rfl rfl dl_2695 (fun v w9 hp => ?_) (fun E w9 hp => by obtain ⟨_, hq, _⟩ := hp; cases hq.1)
  obtain ⟨h9, ⟨hv, rfl⟩, _, rfl⟩ := hp
  have hv := Sum.inl.inj hv
  subst hv
  refine Wx_perm (fun a ha z => hd2' a z ha) ?_
  refine x_lstore6 (pc := 2698) G dl_2698 (by decide) rfl ?_
  refine x_aload2 (pc := 2700) G dl_2700 ?_
  refine Wx_perm hd2' ?_
  refine x_callV (pc := 2701) (bc1 := bc1) (bs1 := bs1) (n := 0) (As := []) G ((c_thrown (k := k) (M := (f_requestOf (xs (nI i + 1).toNatClampNeg) (xs (nI i + 2).toNatClampNeg) M).2) hl hH).frame (fun a ha z => hd2' a z ha)) (List.mem_append_left _ mW_mo.1) ((if_pos mW_mo.1).trans mW_mo.2) (show vwCl[12]? = some (_, _, _) from rfl) q_ml_L_172 q_im_yX11_thrown q_se_yX11_thrown q_in_X11 q_co_yX11_thrown ⟨by decide, by decide, by decide +kernel⟩ ⟨Nat.le_of_ble_eq_true rfl, Nat.le_of_ble_eq_true rfl⟩ (Nat.zero_le _) (Nat.le_refl _) (Nat.le_refl _) rfl rfl dl_2701 (fun v w9 hp => ?_) (fun E w9 hp => by obtain ⟨_, hq, _⟩ := hp; cases hq.1)
  obtain ⟨h9, ⟨hv, rfl⟩, _, rfl⟩ := hp
  have hv := Sum.inl.inj hv
  subst hv
  refine Wx_perm (fun a ha z => hd2' a z ha) ?_
  refine x_iload5 (pc := 2704) G dl_2704 ?_
  refine x_icmp_eq (pc := 2706) (tgt := 2711) G dl_2706 rfl (fun _ => ?_) (fun z9 => absurd hk z9)
  refine x_iload5 (pc := 2711) G dl_2711 ?_
  refine x_if_ne (pc := 2713) (tgt := 2727) (y := 0) G dl_2713 rfl (fun _ => ?_) (fun z9 => ?_)
  · skip
    refine x_goto (pc := 2727) (tgt := 3248) G dl_2727 rfl ?_
    exact Wx_l8 (hend X2 S2 _ f2 hL2)
  · have hf := hz z9
    refine x_aload3 (pc := 2716) G dl_2716 ?_
    refine x_iconst (pc := 2717) (v := 0) G dl_2717 (by decide) ?_
    refine x_old (pc := 2718) G hd1' dl_2718 ?_
    refine x_lload6 (pc := 2719) G dl_2719 ?_
    refine x_lcmp (pc := 2721) G dl_2721 ?_
    refine x_if_eq (pc := 2722) (tgt := 2727) (y := 0) G dl_2722 rfl (fun _ => ?_) (fun z8 => absurd (lg_same hf) z8)
    refine x_goto (pc := 2727) (tgt := 3248) G dl_2727 rfl ?_
    exact Wx_l8 (hend X2 S2 _ f2 hL2)
theorem dl_2730 : decode cL_law 2730 = .ok (.aload_n 1, 1) := by decide +kernel
theorem dl_2731 : decode cL_law 2731 = .ok (.aload_n 0, 1) := by decide +kernel
theorem dl_2732 : decode cL_law 2732 = .ok (.iload 4, 2) := by decide +kernel
theorem dl_2734 : decode cL_law 2734 = .ok (.iconst 1, 1) := by decide +kernel
theorem dl_2735 : decode cL_law 2735 = .ok (.iadd, 1) := by decide +kernel
theorem dl_2736 : decode cL_law 2736 = .ok (.iaload, 1) := by decide +kernel
theorem dl_2737 : decode cL_law 2737 = .ok (.aload_n 3, 1) := by decide +kernel
theorem dl_2738 : decode cL_law 2738 = .ok (.invokestatic 297, 3) := by decide +kernel
theorem dl_2741 : decode cL_law 2741 = .ok (.istore 5, 2) := by decide +kernel
theorem dl_2743 : decode cL_law 2743 = .ok (.aload_n 2, 1) := by decide +kernel
theorem dl_2744 : decode cL_law 2744 = .ok (.aload_n 0, 1) := by decide +kernel
theorem dl_2745 : decode cL_law 2745 = .ok (.iload 4, 2) := by decide +kernel
theorem dl_2747 : decode cL_law 2747 = .ok (.iconst 1, 1) := by decide +kernel
theorem dl_2748 : decode cL_law 2748 = .ok (.iadd, 1) := by decide +kernel
theorem dl_2749 : decode cL_law 2749 = .ok (.iaload, 1) := by decide +kernel
theorem dl_2750 : decode cL_law 2750 = .ok (.invokevirtual 299, 3) := by decide +kernel
theorem dl_2753 : decode cL_law 2753 = .ok (.istore 6, 2) := by decide +kernel
theorem dl_2755 : decode cL_law 2755 = .ok (.aload_n 2, 1) := by decide +kernel
theorem dl_2756 : decode cL_law 2756 = .ok (.invokevirtual 172, 3) := by decide +kernel
theorem dl_2759 : decode cL_law 2759 = .ok (.iload 5, 2) := by decide +kernel
theorem dl_2761 : decode cL_law 2761 = .ok (.if_icmp .eq 5, 3) := by decide +kernel
theorem dl_2764 : decode cL_law 2764 = .ok (.iconst 0, 1) := by decide +kernel
theorem dl_2765 : decode cL_law 2765 = .ok (.ireturn, 1) := by decide +kernel
theorem dl_2766 : decode cL_law 2766 = .ok (.iload 5, 2) := by decide +kernel
theorem dl_2768 : decode cL_law 2768 = .ok (.ifCond .ne 15, 3) := by decide +kernel
theorem dl_2771 : decode cL_law 2771 = .ok (.aload_n 3, 1) := by decide +kernel
theorem dl_2772 : decode cL_law 2772 = .ok (.iconst 0, 1) := by decide +kernel
theorem dl_2773 : decode cL_law 2773 = .ok (.laload, 1) := by decide +kernel
theorem dl_2774 : decode cL_law 2774 = .ok (.iload 6, 2) := by decide +kernel
theorem dl_2776 : decode cL_law 2776 = .ok (.i2l, 1) := by decide +kernel
theorem dl_2777 : decode cL_law 2777 = .ok (.lcmp, 1) := by decide +kernel
theorem dl_2778 : decode cL_law 2778 = .ok (.ifCond .eq 5, 3) := by decide +kernel
theorem dl_2781 : decode cL_law 2781 = .ok (.iconst 0, 1) := by decide +kernel
theorem dl_2782 : decode cL_law 2782 = .ok (.ireturn, 1) := by decide +kernel
theorem dl_2783 : decode cL_law 2783 = .ok (.goto 465, 3) := by decide +kernel
set_option maxRecDepth 100000 in
set_option maxHeartbeats 4000000 in
theorem lk_next {p : Program} {l : Launch} {e : Env} {s : State} {m : MethodId} {args : Array Value} {below : List Frame} {meth : Method} {c : Code} {k : KC} {A : Nat → Prop} {Q : State → Prop} {bc1 bs1 b0 Ln b ao mo i : Nat} {xs : Nat → Int32} {ad : Nat → Nat} {f : Nat → Int64} {X : CX} {S : CT} {M : MS} {rt9 : Option FieldType} (hl : l.stackTraces = false) (G : GX p l room_1 s m args meth c k A RL cL_law 8 rt9) (hX : va_X b0 Ln xs s s.heap) (hbl : b0 < s.heap.size) (hbA : ¬ A b0) (hH : HM mo ad) (hi : i + 8 ≤ Ln) (hL : Ln ≤ 4096) (h : LV9 k b X S ao f mo ad M) (hend : ∀ X2 S2 M2 f2, LV9 k b X2 S2 ao f2 mo ad M2 → Wx p l e room_1 s m args below meth c k A 8 Q bc1 bs1 3248 [some (.ref b0), some (.ref b), some (.ref mo), some (.ref ao), some (.int (nI i)), none, none, none] [] (WL k X2 S2 ao f2 mo ad M2)) : Wx p l e room_1 s m args below meth c k A 8 Q (bc1 + 1) (bs1 + 6) 2730 [some (.ref b0), some (.ref b), some (.ref mo), some (.ref ao), some (.int (nI i)), none, none, none] [] (WL k X S ao f mo ad M) := by
  obtain ⟨hI, hb, hd1, hd2⟩ := h
  obtain ⟨hbm, fs, hbf⟩ := cw11 (k := k) (S := S) hI.1 hb
  have hvr := vr11 hb
  have hx1 : vp_in (nI i + 1) Ln := ix_in (j := 1) rfl (by omega) hL
  unfold WL
  refine x_aload1 (pc := 2730) G dl_2730 ?_
  refine x_aload0 (pc := 2731) G dl_2731 ?_
  refine x_iload4 (pc := 2732) G dl_2732 ?_
  refine x_iconst (pc := 2734) (v := 1) G dl_2734 (by decide) ?_
  refine x_iadd (pc := 2735) G dl_2735 ?_
  refine x_sld (pc := 2736) G hX hbl hbA hx1 dl_2736 ?_
  refine x_aload3 (pc := 2737) G dl_2737 ?_
  have hC := kc_next (k := k) hl hI (p1 := (xs (nI i + 1).toNatClampNeg))
  rw [hvr] at hC
  have hst := fun {o : Out} {w : Wd} => so_next (k := k) (o := o) (w := w) (p1 := (xs (nI i + 1).toNatClampNeg)) hI
  have hh := ch_next hl hbm hbf hd1 hC (fun o w hp => by
    obtain ⟨_, _, _, _, _, ⟨ho, _⟩ | ⟨E, he, _, hc⟩⟩ := hst hp
    · exact Or.inl ⟨_, ho⟩
    · exact Or.inr ⟨E, he, hc⟩)
  have hh := MI.frame hh hd2
  refine x_callSW (pc := 2738) (bc1 := bc1) (bs1 := bs1) (n := 3) (As := [.ref b, .int (xs (nI i + 1).toNatClampNeg), .ref ao]) G hh q_ml_L_297 q_st_yL_next q_in_L q_cw_next ⟨by decide, by decide, by decide +kernel⟩ ⟨Nat.le_of_ble_eq_true rfl, Nat.le_of_ble_eq_true rfl⟩ (Nat.zero_le _) (Nat.le_refl _) (Nat.le_refl _) rfl rfl dl_2738 (fun v w9 hp => ?_)
  obtain ⟨X2, S2, f2, kc, rfl, hL2, hv, hk, hz⟩ : ∃ X2 S2 f2 kc, w9 = wu (wu (cW k X2 S2) (oW k ao f2)) (mW k mo ad M) ∧ LV9 k b X2 S2 ao f2 mo ad (f_next (xs (nI i + 1).toNatClampNeg) M).2 ∧ v = some (.int kc) ∧ mI (f_next (xs (nI i + 1).toNatClampNeg) M).2 0 = kc ∧ (kc = 0 → f2 0 = (f_next (xs (nI i + 1).toNatClampNeg) M).1.toInt64) := by
    obtain ⟨h9, ⟨w1, f1, rfl, hd1', hpp⟩, hd2', rfl⟩ := hp
    rcases hpp with ⟨r, hp1, hv, hf⟩ | ⟨E, hp1, hv⟩
    · obtain ⟨X2, S2, rfl, hI2, hb2, ⟨ho, h0⟩ | ⟨E, he, _, _⟩⟩ := hst hp1
      · have e9 := Sum.inl.inj ho
        cases e9
        exact ⟨X2, S2, _, 0, rfl, ⟨hI2, hb2.trans hb, hd1', hd2'⟩, Sum.inl.inj hv, h0, fun _ => hf⟩
      · cases he
    · obtain ⟨X2, S2, rfl, hI2, hb2, ⟨ho, h0⟩ | ⟨E2, he, h0, hc⟩⟩ := hst hp1
      · cases ho
      · cases he
        refine ⟨X2, S2, _, _, rfl, ⟨hI2, hb2.trans hb, hd1', hd2'⟩, Sum.inl.inj hv, h0, fun z => ?_⟩
        rcases hc with rfl <;> exact absurd z (by decide)
  subst hv
  obtain ⟨hI2, hb2, hd1', hd2'⟩ := id hL2
  refine x_istore5 (pc := 2741) G dl_2741 (by decide) rfl ?_
  refine x_aload2 (pc := 2743) G dl_2743 ?_
  refine x_aload0 (pc := 2744) G dl_2744 ?_
  refine x_iload4 (pc := 2745) G dl_2745 ?_
  refine x_iconst (pc := 2747) (v := 1) G dl_2747 (by decide) ?_
  refine x_iadd (pc := 2748) G dl_2748 ?_
  refine x_sld (pc := 2749) G hX hbl hbA hx1 dl_2749 ?_
  have hr := rc_next (k := k) hl hH hI.2.2.2 (p1 := (xs (nI i + 1).toNatClampNeg))
  refine Wx_perm hd2' ?_
  refine x_callV (pc := 2750) (bc1 := bc1) (bs1 := bs1) (n := 1) (As := [.int (xs (nI i + 1).toNatClampNeg)]) G (hr.frame (fun a ha z => hd2' a z ha)) (List.mem_append_left _ mW_mo.1) ((if_pos mW_mo.1).trans mW_mo.2) (show vwCl[12]? = some (_, _, _) from rfl) q_ml_L_299 q_im_yX11_next q_se_yX11_next q_in_X11 q_co_yX11_next ⟨by decide, by decide, by decide +kernel⟩ ⟨Nat.le_of_ble_eq_true rfl, Nat.le_of_ble_eq_true rfl⟩ (Nat.zero_le _) (Nat.le_refl _) (Nat.le_refl _) rfl rfl dl_2750 (fun v w9 hp => ?_) (fun E w9 hp => by obtain ⟨_, hq, _⟩ := hp; cases hq.1)
  obtain ⟨h9, ⟨hv, rfl⟩, _, rfl⟩ := hp
  have hv := Sum.inl.inj hv
  subst hv
  refine Wx_perm (fun a ha z => hd2' a z ha) ?_
  refine x_istore6 (pc := 2753) G dl_2753 (by decide) rfl ?_
  refine x_aload2 (pc := 2755) G dl_2755 ?_
  refine Wx_perm hd2' ?_
  refine x_callV (pc := 2756) (bc1 := bc1) (bs1 := bs1) (n := 0) (As := []) G ((c_thrown (k := k) (M := (f_next (xs (nI i + 1).toNatClampNeg) M).2) hl hH).frame (fun a ha z => hd2' a z ha)) (List.mem_append_left _ mW_mo.1) ((if_pos mW_mo.1).trans mW_mo.2) (show vwCl[12]? = some (_, _, _) from rfl) q_ml_L_172 q_im_yX11_thrown q_se_yX11_thrown q_in_X11 q_co_yX11_thrown ⟨by decide, by decide, by decide +kernel⟩ ⟨Nat.le_of_ble_eq_true rfl, Nat.le_of_ble_eq_true rfl⟩ (Nat.zero_le _) (Nat.le_refl _) (Nat.le_refl _) rfl rfl dl_2756 (fun v w9 hp => ?_) (fun E w9 hp => by obtain ⟨_, hq, _⟩ := hp; cases hq.1)
  obtain ⟨h9, ⟨hv, rfl⟩, _, rfl⟩ := hp
  have hv := Sum.inl.inj hv
  subst hv
  refine Wx_perm (fun a ha z => hd2' a z ha) ?_
  refine x_iload5 (pc := 2759) G dl_2759 ?_
  refine x_icmp_eq (pc := 2761) (tgt := 2766) G dl_2761 rfl (fun _ => ?_) (fun z9 => absurd hk z9)
  refine x_iload5 (pc := 2766) G dl_2766 ?_
  refine x_if_ne (pc := 2768) (tgt := 2783) (y := 0) G dl_2768 rfl (fun _ => ?_) (fun z9 => ?_)
  · skip
    refine x_goto (pc := 2783) (tgt := 3248) G dl_2783 rfl ?_
    exact Wx_l8 (hend X2 S2 _ f2 hL2)
  · have hf := hz z9
    refine x_aload3 (pc := 2771) G dl_2771 ?_
    refine x_iconst (pc := 2772) (v := 0) G dl_2772 (by decide) ?_
    refine x_old (pc := 2773) G hd1' dl_2773 ?_
    refine x_iload6 (pc := 2774) G dl_2774 ?_
    refine x_i2l (pc := 2776) G dl_2776 ?_
    refine x_lcmp (pc := 2777) G dl_2777 ?_
    refine x_if_eq (pc := 2778) (tgt := 2783) (y := 0) G dl_2778 rfl (fun _ => ?_) (fun z8 => absurd (lg_same hf) z8)
    refine x_goto (pc := 2783) (tgt := 3248) G dl_2783 rfl ?_
    exact Wx_l8 (hend X2 S2 _ f2 hL2)
theorem dl_2786 : decode cL_law 2786 = .ok (.aload_n 1, 1) := by decide +kernel
theorem dl_2787 : decode cL_law 2787 = .ok (.aload_n 0, 1) := by decide +kernel
theorem dl_2788 : decode cL_law 2788 = .ok (.iload 4, 2) := by decide +kernel
theorem dl_2790 : decode cL_law 2790 = .ok (.iconst 1, 1) := by decide +kernel
theorem dl_2791 : decode cL_law 2791 = .ok (.iadd, 1) := by decide +kernel
theorem dl_2792 : decode cL_law 2792 = .ok (.iaload, 1) := by decide +kernel
theorem dl_2793 : decode cL_law 2793 = .ok (.aload_n 0, 1) := by decide +kernel
theorem dl_2794 : decode cL_law 2794 = .ok (.iload 4, 2) := by decide +kernel
theorem dl_2796 : decode cL_law 2796 = .ok (.iconst 2, 1) := by decide +kernel
theorem dl_2797 : decode cL_law 2797 = .ok (.iadd, 1) := by decide +kernel
theorem dl_2798 : decode cL_law 2798 = .ok (.iaload, 1) := by decide +kernel
theorem dl_2799 : decode cL_law 2799 = .ok (.aload_n 0, 1) := by decide +kernel
theorem dl_2800 : decode cL_law 2800 = .ok (.iload 4, 2) := by decide +kernel
theorem dl_2802 : decode cL_law 2802 = .ok (.iconst 3, 1) := by decide +kernel
theorem dl_2803 : decode cL_law 2803 = .ok (.iadd, 1) := by decide +kernel
theorem dl_2804 : decode cL_law 2804 = .ok (.iaload, 1) := by decide +kernel
theorem dl_2805 : decode cL_law 2805 = .ok (.aload_n 3, 1) := by decide +kernel
theorem dl_2806 : decode cL_law 2806 = .ok (.invokestatic 300, 3) := by decide +kernel
theorem dl_2809 : decode cL_law 2809 = .ok (.istore 5, 2) := by decide +kernel
theorem dl_2811 : decode cL_law 2811 = .ok (.aload_n 2, 1) := by decide +kernel
theorem dl_2812 : decode cL_law 2812 = .ok (.aload_n 0, 1) := by decide +kernel
theorem dl_2813 : decode cL_law 2813 = .ok (.iload 4, 2) := by decide +kernel
theorem dl_2815 : decode cL_law 2815 = .ok (.iconst 1, 1) := by decide +kernel
theorem dl_2816 : decode cL_law 2816 = .ok (.iadd, 1) := by decide +kernel
theorem dl_2817 : decode cL_law 2817 = .ok (.iaload, 1) := by decide +kernel
theorem dl_2818 : decode cL_law 2818 = .ok (.aload_n 0, 1) := by decide +kernel
theorem dl_2819 : decode cL_law 2819 = .ok (.iload 4, 2) := by decide +kernel
theorem dl_2821 : decode cL_law 2821 = .ok (.iconst 2, 1) := by decide +kernel
theorem dl_2822 : decode cL_law 2822 = .ok (.iadd, 1) := by decide +kernel
theorem dl_2823 : decode cL_law 2823 = .ok (.iaload, 1) := by decide +kernel
theorem dl_2824 : decode cL_law 2824 = .ok (.aload_n 0, 1) := by decide +kernel
theorem dl_2825 : decode cL_law 2825 = .ok (.iload 4, 2) := by decide +kernel
theorem dl_2827 : decode cL_law 2827 = .ok (.iconst 3, 1) := by decide +kernel
theorem dl_2828 : decode cL_law 2828 = .ok (.iadd, 1) := by decide +kernel
theorem dl_2829 : decode cL_law 2829 = .ok (.iaload, 1) := by decide +kernel
theorem dl_2830 : decode cL_law 2830 = .ok (.invokevirtual 302, 3) := by decide +kernel
theorem dl_2833 : decode cL_law 2833 = .ok (.istore 6, 2) := by decide +kernel
theorem dl_2835 : decode cL_law 2835 = .ok (.aload_n 2, 1) := by decide +kernel
theorem dl_2836 : decode cL_law 2836 = .ok (.invokevirtual 172, 3) := by decide +kernel
theorem dl_2839 : decode cL_law 2839 = .ok (.iload 5, 2) := by decide +kernel
theorem dl_2841 : decode cL_law 2841 = .ok (.if_icmp .eq 5, 3) := by decide +kernel
theorem dl_2844 : decode cL_law 2844 = .ok (.iconst 0, 1) := by decide +kernel
theorem dl_2845 : decode cL_law 2845 = .ok (.ireturn, 1) := by decide +kernel
theorem dl_2846 : decode cL_law 2846 = .ok (.iload 5, 2) := by decide +kernel
theorem dl_2848 : decode cL_law 2848 = .ok (.ifCond .ne 15, 3) := by decide +kernel
theorem dl_2851 : decode cL_law 2851 = .ok (.aload_n 3, 1) := by decide +kernel
theorem dl_2852 : decode cL_law 2852 = .ok (.iconst 0, 1) := by decide +kernel
theorem dl_2853 : decode cL_law 2853 = .ok (.laload, 1) := by decide +kernel
theorem dl_2854 : decode cL_law 2854 = .ok (.iload 6, 2) := by decide +kernel
theorem dl_2856 : decode cL_law 2856 = .ok (.i2l, 1) := by decide +kernel
theorem dl_2857 : decode cL_law 2857 = .ok (.lcmp, 1) := by decide +kernel
theorem dl_2858 : decode cL_law 2858 = .ok (.ifCond .eq 5, 3) := by decide +kernel
theorem dl_2861 : decode cL_law 2861 = .ok (.iconst 0, 1) := by decide +kernel
theorem dl_2862 : decode cL_law 2862 = .ok (.ireturn, 1) := by decide +kernel
theorem dl_2863 : decode cL_law 2863 = .ok (.goto 385, 3) := by decide +kernel
set_option maxRecDepth 100000 in
set_option maxHeartbeats 4000000 in
theorem lk_lineOf {p : Program} {l : Launch} {e : Env} {s : State} {m : MethodId} {args : Array Value} {below : List Frame} {meth : Method} {c : Code} {k : KC} {A : Nat → Prop} {Q : State → Prop} {bc1 bs1 b0 Ln b ao mo i : Nat} {xs : Nat → Int32} {ad : Nat → Nat} {f : Nat → Int64} {X : CX} {S : CT} {M : MS} {rt9 : Option FieldType} (hl : l.stackTraces = false) (G : GX p l room_1 s m args meth c k A RL cL_law 8 rt9) (hX : va_X b0 Ln xs s s.heap) (hbl : b0 < s.heap.size) (hbA : ¬ A b0) (hH : HM mo ad) (hi : i + 8 ≤ Ln) (hL : Ln ≤ 4096) (h : LV9 k b X S ao f mo ad M) (hend : ∀ X2 S2 M2 f2, LV9 k b X2 S2 ao f2 mo ad M2 → Wx p l e room_1 s m args below meth c k A 8 Q bc1 bs1 3248 [some (.ref b0), some (.ref b), some (.ref mo), some (.ref ao), some (.int (nI i)), none, none, none] [] (WL k X2 S2 ao f2 mo ad M2)) : Wx p l e room_1 s m args below meth c k A 8 Q (bc1 + 1) (bs1 + 6) 2786 [some (.ref b0), some (.ref b), some (.ref mo), some (.ref ao), some (.int (nI i)), none, none, none] [] (WL k X S ao f mo ad M) := by
  obtain ⟨hI, hb, hd1, hd2⟩ := h
  obtain ⟨hbm, fs, hbf⟩ := cw11 (k := k) (S := S) hI.1 hb
  have hvr := vr11 hb
  have hx1 : vp_in (nI i + 1) Ln := ix_in (j := 1) rfl (by omega) hL
  have hx2 : vp_in (nI i + 2) Ln := ix_in (j := 2) rfl (by omega) hL
  have hx3 : vp_in (nI i + 3) Ln := ix_in (j := 3) rfl (by omega) hL
  unfold WL
  refine x_aload1 (pc := 2786) G dl_2786 ?_
  refine x_aload0 (pc := 2787) G dl_2787 ?_
  refine x_iload4 (pc := 2788) G dl_2788 ?_
  refine x_iconst (pc := 2790) (v := 1) G dl_2790 (by decide) ?_
  refine x_iadd (pc := 2791) G dl_2791 ?_
  refine x_sld (pc := 2792) G hX hbl hbA hx1 dl_2792 ?_
  refine x_aload0 (pc := 2793) G dl_2793 ?_
  refine x_iload4 (pc := 2794) G dl_2794 ?_
  refine x_iconst (pc := 2796) (v := 2) G dl_2796 (by decide) ?_
  refine x_iadd (pc := 2797) G dl_2797 ?_
  refine x_sld (pc := 2798) G hX hbl hbA hx2 dl_2798 ?_
  refine x_aload0 (pc := 2799) G dl_2799 ?_
  refine x_iload4 (pc := 2800) G dl_2800 ?_
  refine x_iconst (pc := 2802) (v := 3) G dl_2802 (by decide) ?_
  refine x_iadd (pc := 2803) G dl_2803 ?_
  refine x_sld (pc := 2804) G hX hbl hbA hx3 dl_2804 ?_
  refine x_aload3 (pc := 2805) G dl_2805 ?_
  have hC := kc_lineOf (k := k) hl hI (p1 := (xs (nI i + 1).toNatClampNeg)) (p2 := (xs (nI i + 2).toNatClampNeg)) (p3 := (xs (nI i + 3).toNatClampNeg))
  rw [hvr] at hC
  have hst := fun {o : Out} {w : Wd} => so_lineOf (k := k) (o := o) (w := w) (p1 := (xs (nI i + 1).toNatClampNeg)) (p2 := (xs (nI i + 2).toNatClampNeg)) (p3 := (xs (nI i + 3).toNatClampNeg)) hI
  have hh := ch_lineOf hl hbm hbf hd1 hC (fun o w hp => by
    obtain ⟨_, _, _, _, _, ⟨ho, _⟩ | ⟨E, he, _, hc⟩⟩ := hst hp
    · exact Or.inl ⟨_, ho⟩
    · exact Or.inr ⟨E, he, hc⟩)
  have hh := MI.frame hh hd2
  refine x_callSW (pc := 2806) (bc1 := bc1) (bs1 := bs1) (n := 5) (As := [.ref b, .int (xs (nI i + 1).toNatClampNeg), .int (xs (nI i + 2).toNatClampNeg), .int (xs (nI i + 3).toNatClampNeg), .ref ao]) G hh q_ml_L_300 q_st_yL_lineOf q_in_L q_cw_lineOf ⟨by decide, by decide, by decide +kernel⟩ ⟨Nat.le_of_ble_eq_true rfl, Nat.le_of_ble_eq_true rfl⟩ (Nat.zero_le _) (Nat.le_refl _) (Nat.le_refl _) rfl rfl dl_2806 (fun v w9 hp => ?_)
  obtain ⟨X2, S2, f2, kc, rfl, hL2, hv, hk, hz⟩ : ∃ X2 S2 f2 kc, w9 = wu (wu (cW k X2 S2) (oW k ao f2)) (mW k mo ad M) ∧ LV9 k b X2 S2 ao f2 mo ad (f_lineOf (xs (nI i + 1).toNatClampNeg) (xs (nI i + 2).toNatClampNeg) (xs (nI i + 3).toNatClampNeg) M).2 ∧ v = some (.int kc) ∧ mI (f_lineOf (xs (nI i + 1).toNatClampNeg) (xs (nI i + 2).toNatClampNeg) (xs (nI i + 3).toNatClampNeg) M).2 0 = kc ∧ (kc = 0 → f2 0 = (f_lineOf (xs (nI i + 1).toNatClampNeg) (xs (nI i + 2).toNatClampNeg) (xs (nI i + 3).toNatClampNeg) M).1.toInt64) := by
    obtain ⟨h9, ⟨w1, f1, rfl, hd1', hpp⟩, hd2', rfl⟩ := hp
    rcases hpp with ⟨r, hp1, hv, hf⟩ | ⟨E, hp1, hv⟩
    · obtain ⟨X2, S2, rfl, hI2, hb2, ⟨ho, h0⟩ | ⟨E, he, _, _⟩⟩ := hst hp1
      · have e9 := Sum.inl.inj ho
        cases e9
        exact ⟨X2, S2, _, 0, rfl, ⟨hI2, hb2.trans hb, hd1', hd2'⟩, Sum.inl.inj hv, h0, fun _ => hf⟩
      · cases he
    · obtain ⟨X2, S2, rfl, hI2, hb2, ⟨ho, h0⟩ | ⟨E2, he, h0, hc⟩⟩ := hst hp1
      · cases ho
      · cases he
        refine ⟨X2, S2, _, _, rfl, ⟨hI2, hb2.trans hb, hd1', hd2'⟩, Sum.inl.inj hv, h0, fun z => ?_⟩
        rcases hc with rfl | rfl <;> exact absurd z (by decide)
  subst hv
  obtain ⟨hI2, hb2, hd1', hd2'⟩ := id hL2
  refine x_istore5 (pc := 2809) G dl_2809 (by decide) rfl ?_
  refine x_aload2 (pc := 2811) G dl_2811 ?_
  refine x_aload0 (pc := 2812) G dl_2812 ?_
  refine x_iload4 (pc := 2813) G dl_2813 ?_
  refine x_iconst (pc := 2815) (v := 1) G dl_2815 (by decide) ?_
  refine x_iadd (pc := 2816) G dl_2816 ?_
  refine x_sld (pc := 2817) G hX hbl hbA hx1 dl_2817 ?_
  refine x_aload0 (pc := 2818) G dl_2818 ?_
  refine x_iload4 (pc := 2819) G dl_2819 ?_
  refine x_iconst (pc := 2821) (v := 2) G dl_2821 (by decide) ?_
  refine x_iadd (pc := 2822) G dl_2822 ?_
  refine x_sld (pc := 2823) G hX hbl hbA hx2 dl_2823 ?_
  refine x_aload0 (pc := 2824) G dl_2824 ?_
  refine x_iload4 (pc := 2825) G dl_2825 ?_
  refine x_iconst (pc := 2827) (v := 3) G dl_2827 (by decide) ?_
  refine x_iadd (pc := 2828) G dl_2828 ?_
  refine x_sld (pc := 2829) G hX hbl hbA hx3 dl_2829 ?_
  have hr := rc_lineOf (k := k) hl hH hI.2.2.2 (p1 := (xs (nI i + 1).toNatClampNeg)) (p2 := (xs (nI i + 2).toNatClampNeg)) (p3 := (xs (nI i + 3).toNatClampNeg))
  refine Wx_perm hd2' ?_
  refine x_callV (pc := 2830) (bc1 := bc1) (bs1 := bs1) (n := 3) (As := [.int (xs (nI i + 1).toNatClampNeg), .int (xs (nI i + 2).toNatClampNeg), .int (xs (nI i + 3).toNatClampNeg)]) G (hr.frame (fun a ha z => hd2' a z ha)) (List.mem_append_left _ mW_mo.1) ((if_pos mW_mo.1).trans mW_mo.2) (show vwCl[12]? = some (_, _, _) from rfl) q_ml_L_302 q_im_yX11_lineOf q_se_yX11_lineOf q_in_X11 q_co_yX11_lineOf ⟨by decide, by decide, by decide +kernel⟩ ⟨Nat.le_of_ble_eq_true rfl, Nat.le_of_ble_eq_true rfl⟩ (Nat.zero_le _) (Nat.le_refl _) (Nat.le_refl _) rfl rfl dl_2830 (fun v w9 hp => ?_) (fun E w9 hp => by obtain ⟨_, hq, _⟩ := hp; cases hq.1)
  obtain ⟨h9, ⟨hv, rfl⟩, _, rfl⟩ := hp
  have hv := Sum.inl.inj hv
  subst hv
  refine Wx_perm (fun a ha z => hd2' a z ha) ?_
  refine x_istore6 (pc := 2833) G dl_2833 (by decide) rfl ?_
  refine x_aload2 (pc := 2835) G dl_2835 ?_
  refine Wx_perm hd2' ?_
  refine x_callV (pc := 2836) (bc1 := bc1) (bs1 := bs1) (n := 0) (As := []) G ((c_thrown (k := k) (M := (f_lineOf (xs (nI i + 1).toNatClampNeg) (xs (nI i + 2).toNatClampNeg) (xs (nI i + 3).toNatClampNeg) M).2) hl hH).frame (fun a ha z => hd2' a z ha)) (List.mem_append_left _ mW_mo.1) ((if_pos mW_mo.1).trans mW_mo.2) (show vwCl[12]? = some (_, _, _) from rfl) q_ml_L_172 q_im_yX11_thrown q_se_yX11_thrown q_in_X11 q_co_yX11_thrown ⟨by decide, by decide, by decide +kernel⟩ ⟨Nat.le_of_ble_eq_true rfl, Nat.le_of_ble_eq_true rfl⟩ (Nat.zero_le _) (Nat.le_refl _) (Nat.le_refl _) rfl rfl dl_2836 (fun v w9 hp => ?_) (fun E w9 hp => by obtain ⟨_, hq, _⟩ := hp; cases hq.1)
  obtain ⟨h9, ⟨hv, rfl⟩, _, rfl⟩ := hp
  have hv := Sum.inl.inj hv
  subst hv
  refine Wx_perm (fun a ha z => hd2' a z ha) ?_
  refine x_iload5 (pc := 2839) G dl_2839 ?_
  refine x_icmp_eq (pc := 2841) (tgt := 2846) G dl_2841 rfl (fun _ => ?_) (fun z9 => absurd hk z9)
  refine x_iload5 (pc := 2846) G dl_2846 ?_
  refine x_if_ne (pc := 2848) (tgt := 2863) (y := 0) G dl_2848 rfl (fun _ => ?_) (fun z9 => ?_)
  · skip
    refine x_goto (pc := 2863) (tgt := 3248) G dl_2863 rfl ?_
    exact Wx_l8 (hend X2 S2 _ f2 hL2)
  · have hf := hz z9
    refine x_aload3 (pc := 2851) G dl_2851 ?_
    refine x_iconst (pc := 2852) (v := 0) G dl_2852 (by decide) ?_
    refine x_old (pc := 2853) G hd1' dl_2853 ?_
    refine x_iload6 (pc := 2854) G dl_2854 ?_
    refine x_i2l (pc := 2856) G dl_2856 ?_
    refine x_lcmp (pc := 2857) G dl_2857 ?_
    refine x_if_eq (pc := 2858) (tgt := 2863) (y := 0) G dl_2858 rfl (fun _ => ?_) (fun z8 => absurd (lg_same hf) z8)
    refine x_goto (pc := 2863) (tgt := 3248) G dl_2863 rfl ?_
    exact Wx_l8 (hend X2 S2 _ f2 hL2)
theorem dl_2866 : decode cL_law 2866 = .ok (.aload_n 1, 1) := by decide +kernel
theorem dl_2867 : decode cL_law 2867 = .ok (.aload_n 0, 1) := by decide +kernel
theorem dl_2868 : decode cL_law 2868 = .ok (.iload 4, 2) := by decide +kernel
theorem dl_2870 : decode cL_law 2870 = .ok (.iconst 1, 1) := by decide +kernel
theorem dl_2871 : decode cL_law 2871 = .ok (.iadd, 1) := by decide +kernel
theorem dl_2872 : decode cL_law 2872 = .ok (.iaload, 1) := by decide +kernel
theorem dl_2873 : decode cL_law 2873 = .ok (.aload_n 0, 1) := by decide +kernel
theorem dl_2874 : decode cL_law 2874 = .ok (.iload 4, 2) := by decide +kernel
theorem dl_2876 : decode cL_law 2876 = .ok (.iconst 2, 1) := by decide +kernel
theorem dl_2877 : decode cL_law 2877 = .ok (.iadd, 1) := by decide +kernel
theorem dl_2878 : decode cL_law 2878 = .ok (.iaload, 1) := by decide +kernel
theorem dl_2879 : decode cL_law 2879 = .ok (.aload_n 3, 1) := by decide +kernel
theorem dl_2880 : decode cL_law 2880 = .ok (.invokestatic 303, 3) := by decide +kernel
theorem dl_2883 : decode cL_law 2883 = .ok (.istore 5, 2) := by decide +kernel
theorem dl_2885 : decode cL_law 2885 = .ok (.aload_n 2, 1) := by decide +kernel
theorem dl_2886 : decode cL_law 2886 = .ok (.aload_n 0, 1) := by decide +kernel
theorem dl_2887 : decode cL_law 2887 = .ok (.iload 4, 2) := by decide +kernel
theorem dl_2889 : decode cL_law 2889 = .ok (.iconst 1, 1) := by decide +kernel
theorem dl_2890 : decode cL_law 2890 = .ok (.iadd, 1) := by decide +kernel
theorem dl_2891 : decode cL_law 2891 = .ok (.iaload, 1) := by decide +kernel
theorem dl_2892 : decode cL_law 2892 = .ok (.aload_n 0, 1) := by decide +kernel
theorem dl_2893 : decode cL_law 2893 = .ok (.iload 4, 2) := by decide +kernel
theorem dl_2895 : decode cL_law 2895 = .ok (.iconst 2, 1) := by decide +kernel
theorem dl_2896 : decode cL_law 2896 = .ok (.iadd, 1) := by decide +kernel
theorem dl_2897 : decode cL_law 2897 = .ok (.iaload, 1) := by decide +kernel
theorem dl_2898 : decode cL_law 2898 = .ok (.invokevirtual 305, 3) := by decide +kernel
theorem dl_2901 : decode cL_law 2901 = .ok (.lstore 6, 2) := by decide +kernel
theorem dl_2903 : decode cL_law 2903 = .ok (.aload_n 2, 1) := by decide +kernel
theorem dl_2904 : decode cL_law 2904 = .ok (.invokevirtual 172, 3) := by decide +kernel
theorem dl_2907 : decode cL_law 2907 = .ok (.iload 5, 2) := by decide +kernel
theorem dl_2909 : decode cL_law 2909 = .ok (.if_icmp .eq 5, 3) := by decide +kernel
theorem dl_2912 : decode cL_law 2912 = .ok (.iconst 0, 1) := by decide +kernel
theorem dl_2913 : decode cL_law 2913 = .ok (.ireturn, 1) := by decide +kernel
theorem dl_2914 : decode cL_law 2914 = .ok (.iload 5, 2) := by decide +kernel
theorem dl_2916 : decode cL_law 2916 = .ok (.ifCond .ne 14, 3) := by decide +kernel
theorem dl_2919 : decode cL_law 2919 = .ok (.aload_n 3, 1) := by decide +kernel
theorem dl_2920 : decode cL_law 2920 = .ok (.iconst 0, 1) := by decide +kernel
theorem dl_2921 : decode cL_law 2921 = .ok (.laload, 1) := by decide +kernel
theorem dl_2922 : decode cL_law 2922 = .ok (.lload 6, 2) := by decide +kernel
theorem dl_2924 : decode cL_law 2924 = .ok (.lcmp, 1) := by decide +kernel
theorem dl_2925 : decode cL_law 2925 = .ok (.ifCond .eq 5, 3) := by decide +kernel
theorem dl_2928 : decode cL_law 2928 = .ok (.iconst 0, 1) := by decide +kernel
theorem dl_2929 : decode cL_law 2929 = .ok (.ireturn, 1) := by decide +kernel
theorem dl_2930 : decode cL_law 2930 = .ok (.goto 318, 3) := by decide +kernel
set_option maxRecDepth 100000 in
set_option maxHeartbeats 4000000 in
theorem lk_invoiceOf {p : Program} {l : Launch} {e : Env} {s : State} {m : MethodId} {args : Array Value} {below : List Frame} {meth : Method} {c : Code} {k : KC} {A : Nat → Prop} {Q : State → Prop} {bc1 bs1 b0 Ln b ao mo i : Nat} {xs : Nat → Int32} {ad : Nat → Nat} {f : Nat → Int64} {X : CX} {S : CT} {M : MS} {rt9 : Option FieldType} (hl : l.stackTraces = false) (G : GX p l room_1 s m args meth c k A RL cL_law 8 rt9) (hX : va_X b0 Ln xs s s.heap) (hbl : b0 < s.heap.size) (hbA : ¬ A b0) (hH : HM mo ad) (hi : i + 8 ≤ Ln) (hL : Ln ≤ 4096) (h : LV9 k b X S ao f mo ad M) (hend : ∀ X2 S2 M2 f2, LV9 k b X2 S2 ao f2 mo ad M2 → Wx p l e room_1 s m args below meth c k A 8 Q bc1 bs1 3248 [some (.ref b0), some (.ref b), some (.ref mo), some (.ref ao), some (.int (nI i)), none, none, none] [] (WL k X2 S2 ao f2 mo ad M2)) : Wx p l e room_1 s m args below meth c k A 8 Q (bc1 + 1) (bs1 + 6) 2866 [some (.ref b0), some (.ref b), some (.ref mo), some (.ref ao), some (.int (nI i)), none, none, none] [] (WL k X S ao f mo ad M) := by
  obtain ⟨hI, hb, hd1, hd2⟩ := h
  obtain ⟨hbm, fs, hbf⟩ := cw11 (k := k) (S := S) hI.1 hb
  have hvr := vr11 hb
  have hx1 : vp_in (nI i + 1) Ln := ix_in (j := 1) rfl (by omega) hL
  have hx2 : vp_in (nI i + 2) Ln := ix_in (j := 2) rfl (by omega) hL
  unfold WL
  refine x_aload1 (pc := 2866) G dl_2866 ?_
  refine x_aload0 (pc := 2867) G dl_2867 ?_
  refine x_iload4 (pc := 2868) G dl_2868 ?_
  refine x_iconst (pc := 2870) (v := 1) G dl_2870 (by decide) ?_
  refine x_iadd (pc := 2871) G dl_2871 ?_
  refine x_sld (pc := 2872) G hX hbl hbA hx1 dl_2872 ?_
  refine x_aload0 (pc := 2873) G dl_2873 ?_
  refine x_iload4 (pc := 2874) G dl_2874 ?_
  refine x_iconst (pc := 2876) (v := 2) G dl_2876 (by decide) ?_
  refine x_iadd (pc := 2877) G dl_2877 ?_
  refine x_sld (pc := 2878) G hX hbl hbA hx2 dl_2878 ?_
  refine x_aload3 (pc := 2879) G dl_2879 ?_
  have hC := kc_invoiceOf (k := k) hl hI (p1 := (xs (nI i + 1).toNatClampNeg)) (p2 := (xs (nI i + 2).toNatClampNeg))
  rw [hvr] at hC
  have hst := fun {o : Out} {w : Wd} => so_invoiceOf (k := k) (o := o) (w := w) (p1 := (xs (nI i + 1).toNatClampNeg)) (p2 := (xs (nI i + 2).toNatClampNeg)) hI
  have hh := ch_invoiceOf hl hbm hbf hd1 hC (fun o w hp => by
    obtain ⟨_, _, _, _, _, ⟨ho, _⟩ | ⟨E, he, _, hc⟩⟩ := hst hp
    · exact Or.inl ⟨_, ho⟩
    · exact Or.inr ⟨E, he, hc⟩)
  have hh := MI.frame hh hd2
  refine x_callSW (pc := 2880) (bc1 := bc1) (bs1 := bs1) (n := 4) (As := [.ref b, .int (xs (nI i + 1).toNatClampNeg), .int (xs (nI i + 2).toNatClampNeg), .ref ao]) G hh q_ml_L_303 q_st_yL_invoiceOf q_in_L q_cw_invoiceOf ⟨by decide, by decide, by decide +kernel⟩ ⟨Nat.le_of_ble_eq_true rfl, Nat.le_of_ble_eq_true rfl⟩ (Nat.zero_le _) (Nat.le_refl _) (Nat.le_refl _) rfl rfl dl_2880 (fun v w9 hp => ?_)
  obtain ⟨X2, S2, f2, kc, rfl, hL2, hv, hk, hz⟩ : ∃ X2 S2 f2 kc, w9 = wu (wu (cW k X2 S2) (oW k ao f2)) (mW k mo ad M) ∧ LV9 k b X2 S2 ao f2 mo ad (f_invoiceOf (xs (nI i + 1).toNatClampNeg) (xs (nI i + 2).toNatClampNeg) M).2 ∧ v = some (.int kc) ∧ mI (f_invoiceOf (xs (nI i + 1).toNatClampNeg) (xs (nI i + 2).toNatClampNeg) M).2 0 = kc ∧ (kc = 0 → f2 0 = (f_invoiceOf (xs (nI i + 1).toNatClampNeg) (xs (nI i + 2).toNatClampNeg) M).1) := by
    obtain ⟨h9, ⟨w1, f1, rfl, hd1', hpp⟩, hd2', rfl⟩ := hp
    rcases hpp with ⟨r, hp1, hv, hf⟩ | ⟨E, hp1, hv⟩
    · obtain ⟨X2, S2, rfl, hI2, hb2, ⟨ho, h0⟩ | ⟨E, he, _, _⟩⟩ := hst hp1
      · have e9 := Sum.inl.inj ho
        cases e9
        exact ⟨X2, S2, _, 0, rfl, ⟨hI2, hb2.trans hb, hd1', hd2'⟩, Sum.inl.inj hv, h0, fun _ => hf⟩
      · cases he
    · obtain ⟨X2, S2, rfl, hI2, hb2, ⟨ho, h0⟩ | ⟨E2, he, h0, hc⟩⟩ := hst hp1
      · cases ho
      · cases he
        refine ⟨X2, S2, _, _, rfl, ⟨hI2, hb2.trans hb, hd1', hd2'⟩, Sum.inl.inj hv, h0, fun z => ?_⟩
        rcases hc with rfl | rfl <;> exact absurd z (by decide)
  subst hv
  obtain ⟨hI2, hb2, hd1', hd2'⟩ := id hL2
  refine x_istore5 (pc := 2883) G dl_2883 (by decide) rfl ?_
  refine x_aload2 (pc := 2885) G dl_2885 ?_
  refine x_aload0 (pc := 2886) G dl_2886 ?_
  refine x_iload4 (pc := 2887) G dl_2887 ?_
  refine x_iconst (pc := 2889) (v := 1) G dl_2889 (by decide) ?_
  refine x_iadd (pc := 2890) G dl_2890 ?_
  refine x_sld (pc := 2891) G hX hbl hbA hx1 dl_2891 ?_
  refine x_aload0 (pc := 2892) G dl_2892 ?_
  refine x_iload4 (pc := 2893) G dl_2893 ?_
  refine x_iconst (pc := 2895) (v := 2) G dl_2895 (by decide) ?_
  refine x_iadd (pc := 2896) G dl_2896 ?_
  refine x_sld (pc := 2897) G hX hbl hbA hx2 dl_2897 ?_
  have hr := rc_invoiceOf (k := k) hl hH hI.2.2.2 (p1 := (xs (nI i + 1).toNatClampNeg)) (p2 := (xs (nI i + 2).toNatClampNeg))
  refine Wx_perm hd2' ?_
  refine x_callV (pc := 2898) (bc1 := bc1) (bs1 := bs1) (n := 2) (As := [.int (xs (nI i + 1).toNatClampNeg), .int (xs (nI i + 2).toNatClampNeg)]) G (hr.frame (fun a ha z => hd2' a z ha)) (List.mem_append_left _ mW_mo.1) ((if_pos mW_mo.1).trans mW_mo.2) (show vwCl[12]? = some (_, _, _) from rfl) q_ml_L_305 q_im_yX11_invoiceOf q_se_yX11_invoiceOf q_in_X11 q_co_yX11_invoiceOf ⟨by decide, by decide, by decide +kernel⟩ ⟨Nat.le_of_ble_eq_true rfl, Nat.le_of_ble_eq_true rfl⟩ (Nat.zero_le _) (Nat.le_refl _) (Nat.le_refl _) rfl rfl dl_2898 (fun v w9 hp => ?_) (fun E w9 hp => by obtain ⟨_, hq, _⟩ := hp; cases hq.1)
  obtain ⟨h9, ⟨hv, rfl⟩, _, rfl⟩ := hp
  have hv := Sum.inl.inj hv
  subst hv
  refine Wx_perm (fun a ha z => hd2' a z ha) ?_
  refine x_lstore6 (pc := 2901) G dl_2901 (by decide) rfl ?_
  refine x_aload2 (pc := 2903) G dl_2903 ?_
  refine Wx_perm hd2' ?_
  refine x_callV (pc := 2904) (bc1 := bc1) (bs1 := bs1) (n := 0) (As := []) G ((c_thrown (k := k) (M := (f_invoiceOf (xs (nI i + 1).toNatClampNeg) (xs (nI i + 2).toNatClampNeg) M).2) hl hH).frame (fun a ha z => hd2' a z ha)) (List.mem_append_left _ mW_mo.1) ((if_pos mW_mo.1).trans mW_mo.2) (show vwCl[12]? = some (_, _, _) from rfl) q_ml_L_172 q_im_yX11_thrown q_se_yX11_thrown q_in_X11 q_co_yX11_thrown ⟨by decide, by decide, by decide +kernel⟩ ⟨Nat.le_of_ble_eq_true rfl, Nat.le_of_ble_eq_true rfl⟩ (Nat.zero_le _) (Nat.le_refl _) (Nat.le_refl _) rfl rfl dl_2904 (fun v w9 hp => ?_) (fun E w9 hp => by obtain ⟨_, hq, _⟩ := hp; cases hq.1)
  obtain ⟨h9, ⟨hv, rfl⟩, _, rfl⟩ := hp
  have hv := Sum.inl.inj hv
  subst hv
  refine Wx_perm (fun a ha z => hd2' a z ha) ?_
  refine x_iload5 (pc := 2907) G dl_2907 ?_
  refine x_icmp_eq (pc := 2909) (tgt := 2914) G dl_2909 rfl (fun _ => ?_) (fun z9 => absurd hk z9)
  refine x_iload5 (pc := 2914) G dl_2914 ?_
  refine x_if_ne (pc := 2916) (tgt := 2930) (y := 0) G dl_2916 rfl (fun _ => ?_) (fun z9 => ?_)
  · skip
    refine x_goto (pc := 2930) (tgt := 3248) G dl_2930 rfl ?_
    exact Wx_l8 (hend X2 S2 _ f2 hL2)
  · have hf := hz z9
    refine x_aload3 (pc := 2919) G dl_2919 ?_
    refine x_iconst (pc := 2920) (v := 0) G dl_2920 (by decide) ?_
    refine x_old (pc := 2921) G hd1' dl_2921 ?_
    refine x_lload6 (pc := 2922) G dl_2922 ?_
    refine x_lcmp (pc := 2924) G dl_2924 ?_
    refine x_if_eq (pc := 2925) (tgt := 2930) (y := 0) G dl_2925 rfl (fun _ => ?_) (fun z8 => absurd (lg_same hf) z8)
    refine x_goto (pc := 2930) (tgt := 3248) G dl_2930 rfl ?_
    exact Wx_l8 (hend X2 S2 _ f2 hL2)
theorem dl_2933 : decode cL_law 2933 = .ok (.aload_n 1, 1) := by decide +kernel
theorem dl_2934 : decode cL_law 2934 = .ok (.aload_n 0, 1) := by decide +kernel
theorem dl_2935 : decode cL_law 2935 = .ok (.iload 4, 2) := by decide +kernel
theorem dl_2937 : decode cL_law 2937 = .ok (.iconst 1, 1) := by decide +kernel
theorem dl_2938 : decode cL_law 2938 = .ok (.iadd, 1) := by decide +kernel
theorem dl_2939 : decode cL_law 2939 = .ok (.iaload, 1) := by decide +kernel
theorem dl_2940 : decode cL_law 2940 = .ok (.aload_n 0, 1) := by decide +kernel
theorem dl_2941 : decode cL_law 2941 = .ok (.iload 4, 2) := by decide +kernel
theorem dl_2943 : decode cL_law 2943 = .ok (.iconst 2, 1) := by decide +kernel
theorem dl_2944 : decode cL_law 2944 = .ok (.iadd, 1) := by decide +kernel
theorem dl_2945 : decode cL_law 2945 = .ok (.iaload, 1) := by decide +kernel
theorem dl_2946 : decode cL_law 2946 = .ok (.aload_n 3, 1) := by decide +kernel
theorem dl_2947 : decode cL_law 2947 = .ok (.invokestatic 306, 3) := by decide +kernel
theorem dl_2950 : decode cL_law 2950 = .ok (.istore 5, 2) := by decide +kernel
theorem dl_2952 : decode cL_law 2952 = .ok (.aload_n 2, 1) := by decide +kernel
theorem dl_2953 : decode cL_law 2953 = .ok (.aload_n 0, 1) := by decide +kernel
theorem dl_2954 : decode cL_law 2954 = .ok (.iload 4, 2) := by decide +kernel
theorem dl_2956 : decode cL_law 2956 = .ok (.iconst 1, 1) := by decide +kernel
theorem dl_2957 : decode cL_law 2957 = .ok (.iadd, 1) := by decide +kernel
theorem dl_2958 : decode cL_law 2958 = .ok (.iaload, 1) := by decide +kernel
theorem dl_2959 : decode cL_law 2959 = .ok (.aload_n 0, 1) := by decide +kernel
theorem dl_2960 : decode cL_law 2960 = .ok (.iload 4, 2) := by decide +kernel
theorem dl_2962 : decode cL_law 2962 = .ok (.iconst 2, 1) := by decide +kernel
theorem dl_2963 : decode cL_law 2963 = .ok (.iadd, 1) := by decide +kernel
theorem dl_2964 : decode cL_law 2964 = .ok (.iaload, 1) := by decide +kernel
theorem dl_2965 : decode cL_law 2965 = .ok (.invokevirtual 308, 3) := by decide +kernel
theorem dl_2968 : decode cL_law 2968 = .ok (.lstore 6, 2) := by decide +kernel
theorem dl_2970 : decode cL_law 2970 = .ok (.aload_n 2, 1) := by decide +kernel
theorem dl_2971 : decode cL_law 2971 = .ok (.invokevirtual 172, 3) := by decide +kernel
theorem dl_2974 : decode cL_law 2974 = .ok (.iload 5, 2) := by decide +kernel
theorem dl_2976 : decode cL_law 2976 = .ok (.if_icmp .eq 5, 3) := by decide +kernel
theorem dl_2979 : decode cL_law 2979 = .ok (.iconst 0, 1) := by decide +kernel
theorem dl_2980 : decode cL_law 2980 = .ok (.ireturn, 1) := by decide +kernel
theorem dl_2981 : decode cL_law 2981 = .ok (.iload 5, 2) := by decide +kernel
theorem dl_2983 : decode cL_law 2983 = .ok (.ifCond .ne 14, 3) := by decide +kernel
theorem dl_2986 : decode cL_law 2986 = .ok (.aload_n 3, 1) := by decide +kernel
theorem dl_2987 : decode cL_law 2987 = .ok (.iconst 0, 1) := by decide +kernel
theorem dl_2988 : decode cL_law 2988 = .ok (.laload, 1) := by decide +kernel
theorem dl_2989 : decode cL_law 2989 = .ok (.lload 6, 2) := by decide +kernel
theorem dl_2991 : decode cL_law 2991 = .ok (.lcmp, 1) := by decide +kernel
theorem dl_2992 : decode cL_law 2992 = .ok (.ifCond .eq 5, 3) := by decide +kernel
theorem dl_2995 : decode cL_law 2995 = .ok (.iconst 0, 1) := by decide +kernel
theorem dl_2996 : decode cL_law 2996 = .ok (.ireturn, 1) := by decide +kernel
theorem dl_2997 : decode cL_law 2997 = .ok (.goto 251, 3) := by decide +kernel
set_option maxRecDepth 100000 in
set_option maxHeartbeats 4000000 in
theorem lk_staff {p : Program} {l : Launch} {e : Env} {s : State} {m : MethodId} {args : Array Value} {below : List Frame} {meth : Method} {c : Code} {k : KC} {A : Nat → Prop} {Q : State → Prop} {bc1 bs1 b0 Ln b ao mo i : Nat} {xs : Nat → Int32} {ad : Nat → Nat} {f : Nat → Int64} {X : CX} {S : CT} {M : MS} {rt9 : Option FieldType} (hl : l.stackTraces = false) (G : GX p l room_1 s m args meth c k A RL cL_law 8 rt9) (hX : va_X b0 Ln xs s s.heap) (hbl : b0 < s.heap.size) (hbA : ¬ A b0) (hH : HM mo ad) (hi : i + 8 ≤ Ln) (hL : Ln ≤ 4096) (h : LV9 k b X S ao f mo ad M) (hend : ∀ X2 S2 M2 f2, LV9 k b X2 S2 ao f2 mo ad M2 → Wx p l e room_1 s m args below meth c k A 8 Q bc1 bs1 3248 [some (.ref b0), some (.ref b), some (.ref mo), some (.ref ao), some (.int (nI i)), none, none, none] [] (WL k X2 S2 ao f2 mo ad M2)) : Wx p l e room_1 s m args below meth c k A 8 Q (bc1 + 1) (bs1 + 6) 2933 [some (.ref b0), some (.ref b), some (.ref mo), some (.ref ao), some (.int (nI i)), none, none, none] [] (WL k X S ao f mo ad M) := by
  obtain ⟨hI, hb, hd1, hd2⟩ := h
  obtain ⟨hbm, fs, hbf⟩ := cw11 (k := k) (S := S) hI.1 hb
  have hvr := vr11 hb
  have hx1 : vp_in (nI i + 1) Ln := ix_in (j := 1) rfl (by omega) hL
  have hx2 : vp_in (nI i + 2) Ln := ix_in (j := 2) rfl (by omega) hL
  unfold WL
  refine x_aload1 (pc := 2933) G dl_2933 ?_
  refine x_aload0 (pc := 2934) G dl_2934 ?_
  refine x_iload4 (pc := 2935) G dl_2935 ?_
  refine x_iconst (pc := 2937) (v := 1) G dl_2937 (by decide) ?_
  refine x_iadd (pc := 2938) G dl_2938 ?_
  refine x_sld (pc := 2939) G hX hbl hbA hx1 dl_2939 ?_
  refine x_aload0 (pc := 2940) G dl_2940 ?_
  refine x_iload4 (pc := 2941) G dl_2941 ?_
  refine x_iconst (pc := 2943) (v := 2) G dl_2943 (by decide) ?_
  refine x_iadd (pc := 2944) G dl_2944 ?_
  refine x_sld (pc := 2945) G hX hbl hbA hx2 dl_2945 ?_
  refine x_aload3 (pc := 2946) G dl_2946 ?_
  have hC := kc_staff (k := k) hl hI (p1 := (xs (nI i + 1).toNatClampNeg)) (p2 := (xs (nI i + 2).toNatClampNeg))
  rw [hvr] at hC
  have hst := fun {o : Out} {w : Wd} => so_staff (k := k) (o := o) (w := w) (p1 := (xs (nI i + 1).toNatClampNeg)) (p2 := (xs (nI i + 2).toNatClampNeg)) hI
  have hh := ch_staff hl hbm hbf hd1 hC (fun o w hp => by
    obtain ⟨_, _, _, _, _, ⟨ho, _⟩ | ⟨E, he, _, hc⟩⟩ := hst hp
    · exact Or.inl ⟨_, ho⟩
    · exact Or.inr ⟨E, he, hc⟩)
  have hh := MI.frame hh hd2
  refine x_callSW (pc := 2947) (bc1 := bc1) (bs1 := bs1) (n := 4) (As := [.ref b, .int (xs (nI i + 1).toNatClampNeg), .int (xs (nI i + 2).toNatClampNeg), .ref ao]) G hh q_ml_L_306 q_st_yL_staff q_in_L q_cw_staff ⟨by decide, by decide, by decide +kernel⟩ ⟨Nat.le_of_ble_eq_true rfl, Nat.le_of_ble_eq_true rfl⟩ (Nat.zero_le _) (Nat.le_refl _) (Nat.le_refl _) rfl rfl dl_2947 (fun v w9 hp => ?_)
  obtain ⟨X2, S2, f2, kc, rfl, hL2, hv, hk, hz⟩ : ∃ X2 S2 f2 kc, w9 = wu (wu (cW k X2 S2) (oW k ao f2)) (mW k mo ad M) ∧ LV9 k b X2 S2 ao f2 mo ad (f_staff (xs (nI i + 1).toNatClampNeg) (xs (nI i + 2).toNatClampNeg) M).2 ∧ v = some (.int kc) ∧ mI (f_staff (xs (nI i + 1).toNatClampNeg) (xs (nI i + 2).toNatClampNeg) M).2 0 = kc ∧ (kc = 0 → f2 0 = (f_staff (xs (nI i + 1).toNatClampNeg) (xs (nI i + 2).toNatClampNeg) M).1) := by
    obtain ⟨h9, ⟨w1, f1, rfl, hd1', hpp⟩, hd2', rfl⟩ := hp
    rcases hpp with ⟨r, hp1, hv, hf⟩ | ⟨E, hp1, hv⟩
    · obtain ⟨X2, S2, rfl, hI2, hb2, ⟨ho, h0⟩ | ⟨E, he, _, _⟩⟩ := hst hp1
      · have e9 := Sum.inl.inj ho
        cases e9
        exact ⟨X2, S2, _, 0, rfl, ⟨hI2, hb2.trans hb, hd1', hd2'⟩, Sum.inl.inj hv, h0, fun _ => hf⟩
      · cases he
    · obtain ⟨X2, S2, rfl, hI2, hb2, ⟨ho, h0⟩ | ⟨E2, he, h0, hc⟩⟩ := hst hp1
      · cases ho
      · cases he
        refine ⟨X2, S2, _, _, rfl, ⟨hI2, hb2.trans hb, hd1', hd2'⟩, Sum.inl.inj hv, h0, fun z => ?_⟩
        rcases hc with rfl | rfl <;> exact absurd z (by decide)
  subst hv
  obtain ⟨hI2, hb2, hd1', hd2'⟩ := id hL2
  refine x_istore5 (pc := 2950) G dl_2950 (by decide) rfl ?_
  refine x_aload2 (pc := 2952) G dl_2952 ?_
  refine x_aload0 (pc := 2953) G dl_2953 ?_
  refine x_iload4 (pc := 2954) G dl_2954 ?_
  refine x_iconst (pc := 2956) (v := 1) G dl_2956 (by decide) ?_
  refine x_iadd (pc := 2957) G dl_2957 ?_
  refine x_sld (pc := 2958) G hX hbl hbA hx1 dl_2958 ?_
  refine x_aload0 (pc := 2959) G dl_2959 ?_
  refine x_iload4 (pc := 2960) G dl_2960 ?_
  refine x_iconst (pc := 2962) (v := 2) G dl_2962 (by decide) ?_
  refine x_iadd (pc := 2963) G dl_2963 ?_
  refine x_sld (pc := 2964) G hX hbl hbA hx2 dl_2964 ?_
  have hr := rc_staff (k := k) hl hH hI.2.2.2 (p1 := (xs (nI i + 1).toNatClampNeg)) (p2 := (xs (nI i + 2).toNatClampNeg))
  refine Wx_perm hd2' ?_
  refine x_callV (pc := 2965) (bc1 := bc1) (bs1 := bs1) (n := 2) (As := [.int (xs (nI i + 1).toNatClampNeg), .int (xs (nI i + 2).toNatClampNeg)]) G (hr.frame (fun a ha z => hd2' a z ha)) (List.mem_append_left _ mW_mo.1) ((if_pos mW_mo.1).trans mW_mo.2) (show vwCl[12]? = some (_, _, _) from rfl) q_ml_L_308 q_im_yX11_staff q_se_yX11_staff q_in_X11 q_co_yX11_staff ⟨by decide, by decide, by decide +kernel⟩ ⟨Nat.le_of_ble_eq_true rfl, Nat.le_of_ble_eq_true rfl⟩ (Nat.zero_le _) (Nat.le_refl _) (Nat.le_refl _) rfl rfl dl_2965 (fun v w9 hp => ?_) (fun E w9 hp => by obtain ⟨_, hq, _⟩ := hp; cases hq.1)
  obtain ⟨h9, ⟨hv, rfl⟩, _, rfl⟩ := hp
  have hv := Sum.inl.inj hv
  subst hv
  refine Wx_perm (fun a ha z => hd2' a z ha) ?_
  refine x_lstore6 (pc := 2968) G dl_2968 (by decide) rfl ?_
  refine x_aload2 (pc := 2970) G dl_2970 ?_
  refine Wx_perm hd2' ?_
  refine x_callV (pc := 2971) (bc1 := bc1) (bs1 := bs1) (n := 0) (As := []) G ((c_thrown (k := k) (M := (f_staff (xs (nI i + 1).toNatClampNeg) (xs (nI i + 2).toNatClampNeg) M).2) hl hH).frame (fun a ha z => hd2' a z ha)) (List.mem_append_left _ mW_mo.1) ((if_pos mW_mo.1).trans mW_mo.2) (show vwCl[12]? = some (_, _, _) from rfl) q_ml_L_172 q_im_yX11_thrown q_se_yX11_thrown q_in_X11 q_co_yX11_thrown ⟨by decide, by decide, by decide +kernel⟩ ⟨Nat.le_of_ble_eq_true rfl, Nat.le_of_ble_eq_true rfl⟩ (Nat.zero_le _) (Nat.le_refl _) (Nat.le_refl _) rfl rfl dl_2971 (fun v w9 hp => ?_) (fun E w9 hp => by obtain ⟨_, hq, _⟩ := hp; cases hq.1)
  obtain ⟨h9, ⟨hv, rfl⟩, _, rfl⟩ := hp
  have hv := Sum.inl.inj hv
  subst hv
  refine Wx_perm (fun a ha z => hd2' a z ha) ?_
  refine x_iload5 (pc := 2974) G dl_2974 ?_
  refine x_icmp_eq (pc := 2976) (tgt := 2981) G dl_2976 rfl (fun _ => ?_) (fun z9 => absurd hk z9)
  refine x_iload5 (pc := 2981) G dl_2981 ?_
  refine x_if_ne (pc := 2983) (tgt := 2997) (y := 0) G dl_2983 rfl (fun _ => ?_) (fun z9 => ?_)
  · skip
    refine x_goto (pc := 2997) (tgt := 3248) G dl_2997 rfl ?_
    exact Wx_l8 (hend X2 S2 _ f2 hL2)
  · have hf := hz z9
    refine x_aload3 (pc := 2986) G dl_2986 ?_
    refine x_iconst (pc := 2987) (v := 0) G dl_2987 (by decide) ?_
    refine x_old (pc := 2988) G hd1' dl_2988 ?_
    refine x_lload6 (pc := 2989) G dl_2989 ?_
    refine x_lcmp (pc := 2991) G dl_2991 ?_
    refine x_if_eq (pc := 2992) (tgt := 2997) (y := 0) G dl_2992 rfl (fun _ => ?_) (fun z8 => absurd (lg_same hf) z8)
    refine x_goto (pc := 2997) (tgt := 3248) G dl_2997 rfl ?_
    exact Wx_l8 (hend X2 S2 _ f2 hL2)
theorem dl_3000 : decode cL_law 3000 = .ok (.aload_n 1, 1) := by decide +kernel
theorem dl_3001 : decode cL_law 3001 = .ok (.aload_n 0, 1) := by decide +kernel
theorem dl_3002 : decode cL_law 3002 = .ok (.iload 4, 2) := by decide +kernel
theorem dl_3004 : decode cL_law 3004 = .ok (.iconst 1, 1) := by decide +kernel
theorem dl_3005 : decode cL_law 3005 = .ok (.iadd, 1) := by decide +kernel
theorem dl_3006 : decode cL_law 3006 = .ok (.iaload, 1) := by decide +kernel
theorem dl_3007 : decode cL_law 3007 = .ok (.aload_n 3, 1) := by decide +kernel
theorem dl_3008 : decode cL_law 3008 = .ok (.invokestatic 309, 3) := by decide +kernel
theorem dl_3011 : decode cL_law 3011 = .ok (.istore 5, 2) := by decide +kernel
theorem dl_3013 : decode cL_law 3013 = .ok (.aload_n 2, 1) := by decide +kernel
theorem dl_3014 : decode cL_law 3014 = .ok (.aload_n 0, 1) := by decide +kernel
theorem dl_3015 : decode cL_law 3015 = .ok (.iload 4, 2) := by decide +kernel
theorem dl_3017 : decode cL_law 3017 = .ok (.iconst 1, 1) := by decide +kernel
theorem dl_3018 : decode cL_law 3018 = .ok (.iadd, 1) := by decide +kernel
theorem dl_3019 : decode cL_law 3019 = .ok (.iaload, 1) := by decide +kernel
theorem dl_3020 : decode cL_law 3020 = .ok (.invokevirtual 311, 3) := by decide +kernel
theorem dl_3023 : decode cL_law 3023 = .ok (.lstore 6, 2) := by decide +kernel
theorem dl_3025 : decode cL_law 3025 = .ok (.aload_n 2, 1) := by decide +kernel
theorem dl_3026 : decode cL_law 3026 = .ok (.invokevirtual 172, 3) := by decide +kernel
theorem dl_3029 : decode cL_law 3029 = .ok (.iload 5, 2) := by decide +kernel
theorem dl_3031 : decode cL_law 3031 = .ok (.if_icmp .eq 5, 3) := by decide +kernel
theorem dl_3034 : decode cL_law 3034 = .ok (.iconst 0, 1) := by decide +kernel
theorem dl_3035 : decode cL_law 3035 = .ok (.ireturn, 1) := by decide +kernel
theorem dl_3036 : decode cL_law 3036 = .ok (.iload 5, 2) := by decide +kernel
theorem dl_3038 : decode cL_law 3038 = .ok (.ifCond .ne 14, 3) := by decide +kernel
theorem dl_3041 : decode cL_law 3041 = .ok (.aload_n 3, 1) := by decide +kernel
theorem dl_3042 : decode cL_law 3042 = .ok (.iconst 0, 1) := by decide +kernel
theorem dl_3043 : decode cL_law 3043 = .ok (.laload, 1) := by decide +kernel
theorem dl_3044 : decode cL_law 3044 = .ok (.lload 6, 2) := by decide +kernel
theorem dl_3046 : decode cL_law 3046 = .ok (.lcmp, 1) := by decide +kernel
theorem dl_3047 : decode cL_law 3047 = .ok (.ifCond .eq 5, 3) := by decide +kernel
theorem dl_3050 : decode cL_law 3050 = .ok (.iconst 0, 1) := by decide +kernel
theorem dl_3051 : decode cL_law 3051 = .ok (.ireturn, 1) := by decide +kernel
theorem dl_3052 : decode cL_law 3052 = .ok (.goto 196, 3) := by decide +kernel
set_option maxRecDepth 100000 in
set_option maxHeartbeats 4000000 in
theorem lk_tripCost {p : Program} {l : Launch} {e : Env} {s : State} {m : MethodId} {args : Array Value} {below : List Frame} {meth : Method} {c : Code} {k : KC} {A : Nat → Prop} {Q : State → Prop} {bc1 bs1 b0 Ln b ao mo i : Nat} {xs : Nat → Int32} {ad : Nat → Nat} {f : Nat → Int64} {X : CX} {S : CT} {M : MS} {rt9 : Option FieldType} (hl : l.stackTraces = false) (G : GX p l room_1 s m args meth c k A RL cL_law 8 rt9) (hX : va_X b0 Ln xs s s.heap) (hbl : b0 < s.heap.size) (hbA : ¬ A b0) (hH : HM mo ad) (hi : i + 8 ≤ Ln) (hL : Ln ≤ 4096) (h : LV9 k b X S ao f mo ad M) (hend : ∀ X2 S2 M2 f2, LV9 k b X2 S2 ao f2 mo ad M2 → Wx p l e room_1 s m args below meth c k A 8 Q bc1 bs1 3248 [some (.ref b0), some (.ref b), some (.ref mo), some (.ref ao), some (.int (nI i)), none, none, none] [] (WL k X2 S2 ao f2 mo ad M2)) : Wx p l e room_1 s m args below meth c k A 8 Q (bc1 + 1) (bs1 + 6) 3000 [some (.ref b0), some (.ref b), some (.ref mo), some (.ref ao), some (.int (nI i)), none, none, none] [] (WL k X S ao f mo ad M) := by
  obtain ⟨hI, hb, hd1, hd2⟩ := h
  obtain ⟨hbm, fs, hbf⟩ := cw11 (k := k) (S := S) hI.1 hb
  have hvr := vr11 hb
  have hx1 : vp_in (nI i + 1) Ln := ix_in (j := 1) rfl (by omega) hL
  unfold WL
  refine x_aload1 (pc := 3000) G dl_3000 ?_
  refine x_aload0 (pc := 3001) G dl_3001 ?_
  refine x_iload4 (pc := 3002) G dl_3002 ?_
  refine x_iconst (pc := 3004) (v := 1) G dl_3004 (by decide) ?_
  refine x_iadd (pc := 3005) G dl_3005 ?_
  refine x_sld (pc := 3006) G hX hbl hbA hx1 dl_3006 ?_
  refine x_aload3 (pc := 3007) G dl_3007 ?_
  have hC := kc_tripCost (k := k) hl hI (p1 := (xs (nI i + 1).toNatClampNeg))
  rw [hvr] at hC
  have hst := fun {o : Out} {w : Wd} => so_tripCost (k := k) (o := o) (w := w) (p1 := (xs (nI i + 1).toNatClampNeg)) hI
  have hh := ch_tripCost hl hbm hbf hd1 hC (fun o w hp => by
    obtain ⟨_, _, _, _, _, ⟨ho, _⟩ | ⟨E, he, _, hc⟩⟩ := hst hp
    · exact Or.inl ⟨_, ho⟩
    · exact Or.inr ⟨E, he, hc⟩)
  have hh := MI.frame hh hd2
  refine x_callSW (pc := 3008) (bc1 := bc1) (bs1 := bs1) (n := 3) (As := [.ref b, .int (xs (nI i + 1).toNatClampNeg), .ref ao]) G hh q_ml_L_309 q_st_yL_tripCost q_in_L q_cw_tripCost ⟨by decide, by decide, by decide +kernel⟩ ⟨Nat.le_of_ble_eq_true rfl, Nat.le_of_ble_eq_true rfl⟩ (Nat.zero_le _) (Nat.le_refl _) (Nat.le_refl _) rfl rfl dl_3008 (fun v w9 hp => ?_)
  obtain ⟨X2, S2, f2, kc, rfl, hL2, hv, hk, hz⟩ : ∃ X2 S2 f2 kc, w9 = wu (wu (cW k X2 S2) (oW k ao f2)) (mW k mo ad M) ∧ LV9 k b X2 S2 ao f2 mo ad (f_tripCost (xs (nI i + 1).toNatClampNeg) M).2 ∧ v = some (.int kc) ∧ mI (f_tripCost (xs (nI i + 1).toNatClampNeg) M).2 0 = kc ∧ (kc = 0 → f2 0 = (f_tripCost (xs (nI i + 1).toNatClampNeg) M).1) := by
    obtain ⟨h9, ⟨w1, f1, rfl, hd1', hpp⟩, hd2', rfl⟩ := hp
    rcases hpp with ⟨r, hp1, hv, hf⟩ | ⟨E, hp1, hv⟩
    · obtain ⟨X2, S2, rfl, hI2, hb2, ⟨ho, h0⟩ | ⟨E, he, _, _⟩⟩ := hst hp1
      · have e9 := Sum.inl.inj ho
        cases e9
        exact ⟨X2, S2, _, 0, rfl, ⟨hI2, hb2.trans hb, hd1', hd2'⟩, Sum.inl.inj hv, h0, fun _ => hf⟩
      · cases he
    · obtain ⟨X2, S2, rfl, hI2, hb2, ⟨ho, h0⟩ | ⟨E2, he, h0, hc⟩⟩ := hst hp1
      · cases ho
      · cases he
        refine ⟨X2, S2, _, _, rfl, ⟨hI2, hb2.trans hb, hd1', hd2'⟩, Sum.inl.inj hv, h0, fun z => ?_⟩
        rcases hc with rfl <;> exact absurd z (by decide)
  subst hv
  obtain ⟨hI2, hb2, hd1', hd2'⟩ := id hL2
  refine x_istore5 (pc := 3011) G dl_3011 (by decide) rfl ?_
  refine x_aload2 (pc := 3013) G dl_3013 ?_
  refine x_aload0 (pc := 3014) G dl_3014 ?_
  refine x_iload4 (pc := 3015) G dl_3015 ?_
  refine x_iconst (pc := 3017) (v := 1) G dl_3017 (by decide) ?_
  refine x_iadd (pc := 3018) G dl_3018 ?_
  refine x_sld (pc := 3019) G hX hbl hbA hx1 dl_3019 ?_
  have hr := rc_tripCost (k := k) hl hH hI.2.2.2 (p1 := (xs (nI i + 1).toNatClampNeg))
  refine Wx_perm hd2' ?_
  refine x_callV (pc := 3020) (bc1 := bc1) (bs1 := bs1) (n := 1) (As := [.int (xs (nI i + 1).toNatClampNeg)]) G (hr.frame (fun a ha z => hd2' a z ha)) (List.mem_append_left _ mW_mo.1) ((if_pos mW_mo.1).trans mW_mo.2) (show vwCl[12]? = some (_, _, _) from rfl) q_ml_L_311 q_im_yX11_tripCost q_se_yX11_tripCost q_in_X11 q_co_yX11_tripCost ⟨by decide, by decide, by decide +kernel⟩ ⟨Nat.le_of_ble_eq_true rfl, Nat.le_of_ble_eq_true rfl⟩ (Nat.zero_le _) (Nat.le_refl _) (Nat.le_refl _) rfl rfl dl_3020 (fun v w9 hp => ?_) (fun E w9 hp => by obtain ⟨_, hq, _⟩ := hp; cases hq.1)
  obtain ⟨h9, ⟨hv, rfl⟩, _, rfl⟩ := hp
  have hv := Sum.inl.inj hv
  subst hv
  refine Wx_perm (fun a ha z => hd2' a z ha) ?_
  refine x_lstore6 (pc := 3023) G dl_3023 (by decide) rfl ?_
  refine x_aload2 (pc := 3025) G dl_3025 ?_
  refine Wx_perm hd2' ?_
  refine x_callV (pc := 3026) (bc1 := bc1) (bs1 := bs1) (n := 0) (As := []) G ((c_thrown (k := k) (M := (f_tripCost (xs (nI i + 1).toNatClampNeg) M).2) hl hH).frame (fun a ha z => hd2' a z ha)) (List.mem_append_left _ mW_mo.1) ((if_pos mW_mo.1).trans mW_mo.2) (show vwCl[12]? = some (_, _, _) from rfl) q_ml_L_172 q_im_yX11_thrown q_se_yX11_thrown q_in_X11 q_co_yX11_thrown ⟨by decide, by decide, by decide +kernel⟩ ⟨Nat.le_of_ble_eq_true rfl, Nat.le_of_ble_eq_true rfl⟩ (Nat.zero_le _) (Nat.le_refl _) (Nat.le_refl _) rfl rfl dl_3026 (fun v w9 hp => ?_) (fun E w9 hp => by obtain ⟨_, hq, _⟩ := hp; cases hq.1)
  obtain ⟨h9, ⟨hv, rfl⟩, _, rfl⟩ := hp
  have hv := Sum.inl.inj hv
  subst hv
  refine Wx_perm (fun a ha z => hd2' a z ha) ?_
  refine x_iload5 (pc := 3029) G dl_3029 ?_
  refine x_icmp_eq (pc := 3031) (tgt := 3036) G dl_3031 rfl (fun _ => ?_) (fun z9 => absurd hk z9)
  refine x_iload5 (pc := 3036) G dl_3036 ?_
  refine x_if_ne (pc := 3038) (tgt := 3052) (y := 0) G dl_3038 rfl (fun _ => ?_) (fun z9 => ?_)
  · skip
    refine x_goto (pc := 3052) (tgt := 3248) G dl_3052 rfl ?_
    exact Wx_l8 (hend X2 S2 _ f2 hL2)
  · have hf := hz z9
    refine x_aload3 (pc := 3041) G dl_3041 ?_
    refine x_iconst (pc := 3042) (v := 0) G dl_3042 (by decide) ?_
    refine x_old (pc := 3043) G hd1' dl_3043 ?_
    refine x_lload6 (pc := 3044) G dl_3044 ?_
    refine x_lcmp (pc := 3046) G dl_3046 ?_
    refine x_if_eq (pc := 3047) (tgt := 3052) (y := 0) G dl_3047 rfl (fun _ => ?_) (fun z8 => absurd (lg_same hf) z8)
    refine x_goto (pc := 3052) (tgt := 3248) G dl_3052 rfl ?_
    exact Wx_l8 (hend X2 S2 _ f2 hL2)
theorem dl_3055 : decode cL_law 3055 = .ok (.aload_n 1, 1) := by decide +kernel
theorem dl_3056 : decode cL_law 3056 = .ok (.aload_n 0, 1) := by decide +kernel
theorem dl_3057 : decode cL_law 3057 = .ok (.iload 4, 2) := by decide +kernel
theorem dl_3059 : decode cL_law 3059 = .ok (.iconst 1, 1) := by decide +kernel
theorem dl_3060 : decode cL_law 3060 = .ok (.iadd, 1) := by decide +kernel
theorem dl_3061 : decode cL_law 3061 = .ok (.iaload, 1) := by decide +kernel
theorem dl_3062 : decode cL_law 3062 = .ok (.aload_n 3, 1) := by decide +kernel
theorem dl_3063 : decode cL_law 3063 = .ok (.invokestatic 312, 3) := by decide +kernel
theorem dl_3066 : decode cL_law 3066 = .ok (.istore 5, 2) := by decide +kernel
theorem dl_3068 : decode cL_law 3068 = .ok (.aload_n 2, 1) := by decide +kernel
theorem dl_3069 : decode cL_law 3069 = .ok (.aload_n 0, 1) := by decide +kernel
theorem dl_3070 : decode cL_law 3070 = .ok (.iload 4, 2) := by decide +kernel
theorem dl_3072 : decode cL_law 3072 = .ok (.iconst 1, 1) := by decide +kernel
theorem dl_3073 : decode cL_law 3073 = .ok (.iadd, 1) := by decide +kernel
theorem dl_3074 : decode cL_law 3074 = .ok (.iaload, 1) := by decide +kernel
theorem dl_3075 : decode cL_law 3075 = .ok (.invokevirtual 314, 3) := by decide +kernel
theorem dl_3078 : decode cL_law 3078 = .ok (.istore 6, 2) := by decide +kernel
theorem dl_3080 : decode cL_law 3080 = .ok (.aload_n 2, 1) := by decide +kernel
theorem dl_3081 : decode cL_law 3081 = .ok (.invokevirtual 172, 3) := by decide +kernel
theorem dl_3084 : decode cL_law 3084 = .ok (.iload 5, 2) := by decide +kernel
theorem dl_3086 : decode cL_law 3086 = .ok (.if_icmp .eq 5, 3) := by decide +kernel
theorem dl_3089 : decode cL_law 3089 = .ok (.iconst 0, 1) := by decide +kernel
theorem dl_3090 : decode cL_law 3090 = .ok (.ireturn, 1) := by decide +kernel
theorem dl_3091 : decode cL_law 3091 = .ok (.iload 5, 2) := by decide +kernel
theorem dl_3093 : decode cL_law 3093 = .ok (.ifCond .ne 22, 3) := by decide +kernel
theorem dl_3096 : decode cL_law 3096 = .ok (.aload_n 3, 1) := by decide +kernel
theorem dl_3097 : decode cL_law 3097 = .ok (.iconst 0, 1) := by decide +kernel
theorem dl_3098 : decode cL_law 3098 = .ok (.laload, 1) := by decide +kernel
theorem dl_3099 : decode cL_law 3099 = .ok (.iload 6, 2) := by decide +kernel
theorem dl_3101 : decode cL_law 3101 = .ok (.ifCond .eq 7, 3) := by decide +kernel
theorem dl_3104 : decode cL_law 3104 = .ok (.lconst 1, 1) := by decide +kernel
theorem dl_3105 : decode cL_law 3105 = .ok (.goto 4, 3) := by decide +kernel
theorem dl_3108 : decode cL_law 3108 = .ok (.lconst 0, 1) := by decide +kernel
theorem dl_3109 : decode cL_law 3109 = .ok (.lcmp, 1) := by decide +kernel
theorem dl_3110 : decode cL_law 3110 = .ok (.ifCond .eq 5, 3) := by decide +kernel
theorem dl_3113 : decode cL_law 3113 = .ok (.iconst 0, 1) := by decide +kernel
theorem dl_3114 : decode cL_law 3114 = .ok (.ireturn, 1) := by decide +kernel
theorem dl_3115 : decode cL_law 3115 = .ok (.goto 133, 3) := by decide +kernel
set_option maxRecDepth 100000 in
set_option maxHeartbeats 4000000 in
theorem lk_isTold {p : Program} {l : Launch} {e : Env} {s : State} {m : MethodId} {args : Array Value} {below : List Frame} {meth : Method} {c : Code} {k : KC} {A : Nat → Prop} {Q : State → Prop} {bc1 bs1 b0 Ln b ao mo i : Nat} {xs : Nat → Int32} {ad : Nat → Nat} {f : Nat → Int64} {X : CX} {S : CT} {M : MS} {rt9 : Option FieldType} (hl : l.stackTraces = false) (G : GX p l room_1 s m args meth c k A RL cL_law 8 rt9) (hX : va_X b0 Ln xs s s.heap) (hbl : b0 < s.heap.size) (hbA : ¬ A b0) (hH : HM mo ad) (hi : i + 8 ≤ Ln) (hL : Ln ≤ 4096) (h : LV9 k b X S ao f mo ad M) (hend : ∀ X2 S2 M2 f2, LV9 k b X2 S2 ao f2 mo ad M2 → Wx p l e room_1 s m args below meth c k A 8 Q bc1 bs1 3248 [some (.ref b0), some (.ref b), some (.ref mo), some (.ref ao), some (.int (nI i)), none, none, none] [] (WL k X2 S2 ao f2 mo ad M2)) : Wx p l e room_1 s m args below meth c k A 8 Q (bc1 + 1) (bs1 + 6) 3055 [some (.ref b0), some (.ref b), some (.ref mo), some (.ref ao), some (.int (nI i)), none, none, none] [] (WL k X S ao f mo ad M) := by
  obtain ⟨hI, hb, hd1, hd2⟩ := h
  obtain ⟨hbm, fs, hbf⟩ := cw11 (k := k) (S := S) hI.1 hb
  have hvr := vr11 hb
  have hx1 : vp_in (nI i + 1) Ln := ix_in (j := 1) rfl (by omega) hL
  unfold WL
  refine x_aload1 (pc := 3055) G dl_3055 ?_
  refine x_aload0 (pc := 3056) G dl_3056 ?_
  refine x_iload4 (pc := 3057) G dl_3057 ?_
  refine x_iconst (pc := 3059) (v := 1) G dl_3059 (by decide) ?_
  refine x_iadd (pc := 3060) G dl_3060 ?_
  refine x_sld (pc := 3061) G hX hbl hbA hx1 dl_3061 ?_
  refine x_aload3 (pc := 3062) G dl_3062 ?_
  have hC := kc_isTold (k := k) hl hI (p1 := (xs (nI i + 1).toNatClampNeg))
  rw [hvr] at hC
  have hst := fun {o : Out} {w : Wd} => so_isTold (k := k) (o := o) (w := w) (p1 := (xs (nI i + 1).toNatClampNeg)) hI
  have hh := ch_isTold hl hbm hbf hd1 hC (fun o w hp => by
    obtain ⟨_, _, _, _, _, ⟨ho, _⟩ | ⟨E, he, _, hc⟩⟩ := hst hp
    · exact Or.inl ⟨_, ho⟩
    · exact Or.inr ⟨E, he, hc⟩)
  have hh := MI.frame hh hd2
  refine x_callSW (pc := 3063) (bc1 := bc1) (bs1 := bs1) (n := 3) (As := [.ref b, .int (xs (nI i + 1).toNatClampNeg), .ref ao]) G hh q_ml_L_312 q_st_yL_isTold q_in_L q_cw_isTold ⟨by decide, by decide, by decide +kernel⟩ ⟨Nat.le_of_ble_eq_true rfl, Nat.le_of_ble_eq_true rfl⟩ (Nat.zero_le _) (Nat.le_refl _) (Nat.le_refl _) rfl rfl dl_3063 (fun v w9 hp => ?_)
  obtain ⟨X2, S2, f2, kc, rfl, hL2, hv, hk, hz⟩ : ∃ X2 S2 f2 kc, w9 = wu (wu (cW k X2 S2) (oW k ao f2)) (mW k mo ad M) ∧ LV9 k b X2 S2 ao f2 mo ad (f_isTold (xs (nI i + 1).toNatClampNeg) M).2 ∧ v = some (.int kc) ∧ mI (f_isTold (xs (nI i + 1).toNatClampNeg) M).2 0 = kc ∧ (kc = 0 → f2 0 = if (f_isTold (xs (nI i + 1).toNatClampNeg) M).1 = 0 then 0 else 1) := by
    obtain ⟨h9, ⟨w1, f1, rfl, hd1', hpp⟩, hd2', rfl⟩ := hp
    rcases hpp with ⟨r, hp1, hv, hf⟩ | ⟨E, hp1, hv⟩
    · obtain ⟨X2, S2, rfl, hI2, hb2, ⟨ho, h0⟩ | ⟨E, he, _, _⟩⟩ := hst hp1
      · have e9 := Sum.inl.inj ho
        cases e9
        exact ⟨X2, S2, _, 0, rfl, ⟨hI2, hb2.trans hb, hd1', hd2'⟩, Sum.inl.inj hv, h0, fun _ => hf⟩
      · cases he
    · obtain ⟨X2, S2, rfl, hI2, hb2, ⟨ho, h0⟩ | ⟨E2, he, h0, hc⟩⟩ := hst hp1
      · cases ho
      · cases he
        refine ⟨X2, S2, _, _, rfl, ⟨hI2, hb2.trans hb, hd1', hd2'⟩, Sum.inl.inj hv, h0, fun z => ?_⟩
        rcases hc with rfl <;> exact absurd z (by decide)
  subst hv
  obtain ⟨hI2, hb2, hd1', hd2'⟩ := id hL2
  refine x_istore5 (pc := 3066) G dl_3066 (by decide) rfl ?_
  refine x_aload2 (pc := 3068) G dl_3068 ?_
  refine x_aload0 (pc := 3069) G dl_3069 ?_
  refine x_iload4 (pc := 3070) G dl_3070 ?_
  refine x_iconst (pc := 3072) (v := 1) G dl_3072 (by decide) ?_
  refine x_iadd (pc := 3073) G dl_3073 ?_
  refine x_sld (pc := 3074) G hX hbl hbA hx1 dl_3074 ?_
  have hr := rc_isTold (k := k) hl hH hI.2.2.2 (p1 := (xs (nI i + 1).toNatClampNeg))
  refine Wx_perm hd2' ?_
  refine x_callV (pc := 3075) (bc1 := bc1) (bs1 := bs1) (n := 1) (As := [.int (xs (nI i + 1).toNatClampNeg)]) G (hr.frame (fun a ha z => hd2' a z ha)) (List.mem_append_left _ mW_mo.1) ((if_pos mW_mo.1).trans mW_mo.2) (show vwCl[12]? = some (_, _, _) from rfl) q_ml_L_314 q_im_yX11_isTold q_se_yX11_isTold q_in_X11 q_co_yX11_isTold ⟨by decide, by decide, by decide +kernel⟩ ⟨Nat.le_of_ble_eq_true rfl, Nat.le_of_ble_eq_true rfl⟩ (Nat.zero_le _) (Nat.le_refl _) (Nat.le_refl _) rfl rfl dl_3075 (fun v w9 hp => ?_) (fun E w9 hp => by obtain ⟨_, hq, _⟩ := hp; cases hq.1)
  obtain ⟨h9, ⟨hv, rfl⟩, _, rfl⟩ := hp
  have hv := Sum.inl.inj hv
  subst hv
  refine Wx_perm (fun a ha z => hd2' a z ha) ?_
  refine x_istore6 (pc := 3078) G dl_3078 (by decide) rfl ?_
  refine x_aload2 (pc := 3080) G dl_3080 ?_
  refine Wx_perm hd2' ?_
  refine x_callV (pc := 3081) (bc1 := bc1) (bs1 := bs1) (n := 0) (As := []) G ((c_thrown (k := k) (M := (f_isTold (xs (nI i + 1).toNatClampNeg) M).2) hl hH).frame (fun a ha z => hd2' a z ha)) (List.mem_append_left _ mW_mo.1) ((if_pos mW_mo.1).trans mW_mo.2) (show vwCl[12]? = some (_, _, _) from rfl) q_ml_L_172 q_im_yX11_thrown q_se_yX11_thrown q_in_X11 q_co_yX11_thrown ⟨by decide, by decide, by decide +kernel⟩ ⟨Nat.le_of_ble_eq_true rfl, Nat.le_of_ble_eq_true rfl⟩ (Nat.zero_le _) (Nat.le_refl _) (Nat.le_refl _) rfl rfl dl_3081 (fun v w9 hp => ?_) (fun E w9 hp => by obtain ⟨_, hq, _⟩ := hp; cases hq.1)
  obtain ⟨h9, ⟨hv, rfl⟩, _, rfl⟩ := hp
  have hv := Sum.inl.inj hv
  subst hv
  refine Wx_perm (fun a ha z => hd2' a z ha) ?_
  refine x_iload5 (pc := 3084) G dl_3084 ?_
  refine x_icmp_eq (pc := 3086) (tgt := 3091) G dl_3086 rfl (fun _ => ?_) (fun z9 => absurd hk z9)
  refine x_iload5 (pc := 3091) G dl_3091 ?_
  refine x_if_ne (pc := 3093) (tgt := 3115) (y := 0) G dl_3093 rfl (fun _ => ?_) (fun z9 => ?_)
  · skip
    refine x_goto (pc := 3115) (tgt := 3248) G dl_3115 rfl ?_
    exact Wx_l8 (hend X2 S2 _ f2 hL2)
  · have hf := hz z9
    refine x_aload3 (pc := 3096) G dl_3096 ?_
    refine x_iconst (pc := 3097) (v := 0) G dl_3097 (by decide) ?_
    refine x_old (pc := 3098) G hd1' dl_3098 ?_
    refine x_iload6 (pc := 3099) G dl_3099 ?_
    refine x_if_eq (pc := 3101) (tgt := 3108) (y := 0) G dl_3101 rfl (fun z7 => ?_) (fun z7 => ?_)
    · refine x_lconst (pc := 3108) (v := 0) G dl_3108 (by decide) ?_
      refine x_lcmp (pc := 3109) G dl_3109 ?_
      refine x_if_eq (pc := 3110) (tgt := 3115) (y := 0) G dl_3110 rfl (fun _ => ?_) (fun z8 => absurd (lg_same (hf.trans (if_pos z7))) z8)
      refine x_goto (pc := 3115) (tgt := 3248) G dl_3115 rfl ?_
      exact Wx_l8 (hend X2 S2 _ f2 hL2)
    · refine x_lconst (pc := 3104) (v := 1) G dl_3104 (by decide) ?_
      refine x_goto (pc := 3105) (tgt := 3109) G dl_3105 rfl ?_
      refine x_lcmp (pc := 3109) G dl_3109 ?_
      refine x_if_eq (pc := 3110) (tgt := 3115) (y := 0) G dl_3110 rfl (fun _ => ?_) (fun z8 => absurd (lg_same (hf.trans (if_neg z7))) z8)
      refine x_goto (pc := 3115) (tgt := 3248) G dl_3115 rfl ?_
      exact Wx_l8 (hend X2 S2 _ f2 hL2)
theorem dl_3118 : decode cL_law 3118 = .ok (.aload_n 1, 1) := by decide +kernel
theorem dl_3119 : decode cL_law 3119 = .ok (.aload_n 0, 1) := by decide +kernel
theorem dl_3120 : decode cL_law 3120 = .ok (.iload 4, 2) := by decide +kernel
theorem dl_3122 : decode cL_law 3122 = .ok (.iconst 1, 1) := by decide +kernel
theorem dl_3123 : decode cL_law 3123 = .ok (.iadd, 1) := by decide +kernel
theorem dl_3124 : decode cL_law 3124 = .ok (.iaload, 1) := by decide +kernel
theorem dl_3125 : decode cL_law 3125 = .ok (.aload_n 3, 1) := by decide +kernel
theorem dl_3126 : decode cL_law 3126 = .ok (.invokestatic 315, 3) := by decide +kernel
theorem dl_3129 : decode cL_law 3129 = .ok (.istore 5, 2) := by decide +kernel
theorem dl_3131 : decode cL_law 3131 = .ok (.aload_n 2, 1) := by decide +kernel
theorem dl_3132 : decode cL_law 3132 = .ok (.aload_n 0, 1) := by decide +kernel
theorem dl_3133 : decode cL_law 3133 = .ok (.iload 4, 2) := by decide +kernel
theorem dl_3135 : decode cL_law 3135 = .ok (.iconst 1, 1) := by decide +kernel
theorem dl_3136 : decode cL_law 3136 = .ok (.iadd, 1) := by decide +kernel
theorem dl_3137 : decode cL_law 3137 = .ok (.iaload, 1) := by decide +kernel
theorem dl_3138 : decode cL_law 3138 = .ok (.invokevirtual 317, 3) := by decide +kernel
theorem dl_3141 : decode cL_law 3141 = .ok (.lstore 6, 2) := by decide +kernel
theorem dl_3143 : decode cL_law 3143 = .ok (.aload_n 2, 1) := by decide +kernel
theorem dl_3144 : decode cL_law 3144 = .ok (.invokevirtual 172, 3) := by decide +kernel
theorem dl_3147 : decode cL_law 3147 = .ok (.iload 5, 2) := by decide +kernel
theorem dl_3149 : decode cL_law 3149 = .ok (.if_icmp .eq 5, 3) := by decide +kernel
theorem dl_3152 : decode cL_law 3152 = .ok (.iconst 0, 1) := by decide +kernel
theorem dl_3153 : decode cL_law 3153 = .ok (.ireturn, 1) := by decide +kernel
theorem dl_3154 : decode cL_law 3154 = .ok (.iload 5, 2) := by decide +kernel
theorem dl_3156 : decode cL_law 3156 = .ok (.ifCond .ne 14, 3) := by decide +kernel
theorem dl_3159 : decode cL_law 3159 = .ok (.aload_n 3, 1) := by decide +kernel
theorem dl_3160 : decode cL_law 3160 = .ok (.iconst 0, 1) := by decide +kernel
theorem dl_3161 : decode cL_law 3161 = .ok (.laload, 1) := by decide +kernel
theorem dl_3162 : decode cL_law 3162 = .ok (.lload 6, 2) := by decide +kernel
theorem dl_3164 : decode cL_law 3164 = .ok (.lcmp, 1) := by decide +kernel
theorem dl_3165 : decode cL_law 3165 = .ok (.ifCond .eq 5, 3) := by decide +kernel
theorem dl_3168 : decode cL_law 3168 = .ok (.iconst 0, 1) := by decide +kernel
theorem dl_3169 : decode cL_law 3169 = .ok (.ireturn, 1) := by decide +kernel
theorem dl_3170 : decode cL_law 3170 = .ok (.goto 78, 3) := by decide +kernel
set_option maxRecDepth 100000 in
set_option maxHeartbeats 4000000 in
theorem lk_account {p : Program} {l : Launch} {e : Env} {s : State} {m : MethodId} {args : Array Value} {below : List Frame} {meth : Method} {c : Code} {k : KC} {A : Nat → Prop} {Q : State → Prop} {bc1 bs1 b0 Ln b ao mo i : Nat} {xs : Nat → Int32} {ad : Nat → Nat} {f : Nat → Int64} {X : CX} {S : CT} {M : MS} {rt9 : Option FieldType} (hl : l.stackTraces = false) (G : GX p l room_1 s m args meth c k A RL cL_law 8 rt9) (hX : va_X b0 Ln xs s s.heap) (hbl : b0 < s.heap.size) (hbA : ¬ A b0) (hH : HM mo ad) (hi : i + 8 ≤ Ln) (hL : Ln ≤ 4096) (h : LV9 k b X S ao f mo ad M) (hend : ∀ X2 S2 M2 f2, LV9 k b X2 S2 ao f2 mo ad M2 → Wx p l e room_1 s m args below meth c k A 8 Q bc1 bs1 3248 [some (.ref b0), some (.ref b), some (.ref mo), some (.ref ao), some (.int (nI i)), none, none, none] [] (WL k X2 S2 ao f2 mo ad M2)) : Wx p l e room_1 s m args below meth c k A 8 Q (bc1 + 1) (bs1 + 6) 3118 [some (.ref b0), some (.ref b), some (.ref mo), some (.ref ao), some (.int (nI i)), none, none, none] [] (WL k X S ao f mo ad M) := by
  obtain ⟨hI, hb, hd1, hd2⟩ := h
  obtain ⟨hbm, fs, hbf⟩ := cw11 (k := k) (S := S) hI.1 hb
  have hvr := vr11 hb
  have hx1 : vp_in (nI i + 1) Ln := ix_in (j := 1) rfl (by omega) hL
  unfold WL
  refine x_aload1 (pc := 3118) G dl_3118 ?_
  refine x_aload0 (pc := 3119) G dl_3119 ?_
  refine x_iload4 (pc := 3120) G dl_3120 ?_
  refine x_iconst (pc := 3122) (v := 1) G dl_3122 (by decide) ?_
  refine x_iadd (pc := 3123) G dl_3123 ?_
  refine x_sld (pc := 3124) G hX hbl hbA hx1 dl_3124 ?_
  refine x_aload3 (pc := 3125) G dl_3125 ?_
  have hC := kc_account (k := k) hl hI (p1 := (xs (nI i + 1).toNatClampNeg))
  rw [hvr] at hC
  have hst := fun {o : Out} {w : Wd} => so_account (k := k) (o := o) (w := w) (p1 := (xs (nI i + 1).toNatClampNeg)) hI
  have hh := ch_account hl hbm hbf hd1 hC (fun o w hp => by
    obtain ⟨_, _, _, _, _, ⟨ho, _⟩ | ⟨E, he, _, hc⟩⟩ := hst hp
    · exact Or.inl ⟨_, ho⟩
    · exact Or.inr ⟨E, he, hc⟩)
  have hh := MI.frame hh hd2
  refine x_callSW (pc := 3126) (bc1 := bc1) (bs1 := bs1) (n := 3) (As := [.ref b, .int (xs (nI i + 1).toNatClampNeg), .ref ao]) G hh q_ml_L_315 q_st_yL_account q_in_L q_cw_account ⟨by decide, by decide, by decide +kernel⟩ ⟨Nat.le_of_ble_eq_true rfl, Nat.le_of_ble_eq_true rfl⟩ (Nat.zero_le _) (Nat.le_refl _) (Nat.le_refl _) rfl rfl dl_3126 (fun v w9 hp => ?_)
  obtain ⟨X2, S2, f2, kc, rfl, hL2, hv, hk, hz⟩ : ∃ X2 S2 f2 kc, w9 = wu (wu (cW k X2 S2) (oW k ao f2)) (mW k mo ad M) ∧ LV9 k b X2 S2 ao f2 mo ad (f_account (xs (nI i + 1).toNatClampNeg) M).2 ∧ v = some (.int kc) ∧ mI (f_account (xs (nI i + 1).toNatClampNeg) M).2 0 = kc ∧ (kc = 0 → f2 0 = (f_account (xs (nI i + 1).toNatClampNeg) M).1) := by
    obtain ⟨h9, ⟨w1, f1, rfl, hd1', hpp⟩, hd2', rfl⟩ := hp
    rcases hpp with ⟨r, hp1, hv, hf⟩ | ⟨E, hp1, hv⟩
    · obtain ⟨X2, S2, rfl, hI2, hb2, ⟨ho, h0⟩ | ⟨E, he, _, _⟩⟩ := hst hp1
      · have e9 := Sum.inl.inj ho
        cases e9
        exact ⟨X2, S2, _, 0, rfl, ⟨hI2, hb2.trans hb, hd1', hd2'⟩, Sum.inl.inj hv, h0, fun _ => hf⟩
      · cases he
    · obtain ⟨X2, S2, rfl, hI2, hb2, ⟨ho, h0⟩ | ⟨E2, he, h0, hc⟩⟩ := hst hp1
      · cases ho
      · cases he
        refine ⟨X2, S2, _, _, rfl, ⟨hI2, hb2.trans hb, hd1', hd2'⟩, Sum.inl.inj hv, h0, fun z => ?_⟩
        rcases hc with rfl <;> exact absurd z (by decide)
  subst hv
  obtain ⟨hI2, hb2, hd1', hd2'⟩ := id hL2
  refine x_istore5 (pc := 3129) G dl_3129 (by decide) rfl ?_
  refine x_aload2 (pc := 3131) G dl_3131 ?_
  refine x_aload0 (pc := 3132) G dl_3132 ?_
  refine x_iload4 (pc := 3133) G dl_3133 ?_
  refine x_iconst (pc := 3135) (v := 1) G dl_3135 (by decide) ?_
  refine x_iadd (pc := 3136) G dl_3136 ?_
  refine x_sld (pc := 3137) G hX hbl hbA hx1 dl_3137 ?_
  have hr := rc_account (k := k) hl hH hI.2.2.2 (p1 := (xs (nI i + 1).toNatClampNeg))
  refine Wx_perm hd2' ?_
  refine x_callV (pc := 3138) (bc1 := bc1) (bs1 := bs1) (n := 1) (As := [.int (xs (nI i + 1).toNatClampNeg)]) G (hr.frame (fun a ha z => hd2' a z ha)) (List.mem_append_left _ mW_mo.1) ((if_pos mW_mo.1).trans mW_mo.2) (show vwCl[12]? = some (_, _, _) from rfl) q_ml_L_317 q_im_yX11_account q_se_yX11_account q_in_X11 q_co_yX11_account ⟨by decide, by decide, by decide +kernel⟩ ⟨Nat.le_of_ble_eq_true rfl, Nat.le_of_ble_eq_true rfl⟩ (Nat.zero_le _) (Nat.le_refl _) (Nat.le_refl _) rfl rfl dl_3138 (fun v w9 hp => ?_) (fun E w9 hp => by obtain ⟨_, hq, _⟩ := hp; cases hq.1)
  obtain ⟨h9, ⟨hv, rfl⟩, _, rfl⟩ := hp
  have hv := Sum.inl.inj hv
  subst hv
  refine Wx_perm (fun a ha z => hd2' a z ha) ?_
  refine x_lstore6 (pc := 3141) G dl_3141 (by decide) rfl ?_
  refine x_aload2 (pc := 3143) G dl_3143 ?_
  refine Wx_perm hd2' ?_
  refine x_callV (pc := 3144) (bc1 := bc1) (bs1 := bs1) (n := 0) (As := []) G ((c_thrown (k := k) (M := (f_account (xs (nI i + 1).toNatClampNeg) M).2) hl hH).frame (fun a ha z => hd2' a z ha)) (List.mem_append_left _ mW_mo.1) ((if_pos mW_mo.1).trans mW_mo.2) (show vwCl[12]? = some (_, _, _) from rfl) q_ml_L_172 q_im_yX11_thrown q_se_yX11_thrown q_in_X11 q_co_yX11_thrown ⟨by decide, by decide, by decide +kernel⟩ ⟨Nat.le_of_ble_eq_true rfl, Nat.le_of_ble_eq_true rfl⟩ (Nat.zero_le _) (Nat.le_refl _) (Nat.le_refl _) rfl rfl dl_3144 (fun v w9 hp => ?_) (fun E w9 hp => by obtain ⟨_, hq, _⟩ := hp; cases hq.1)
  obtain ⟨h9, ⟨hv, rfl⟩, _, rfl⟩ := hp
  have hv := Sum.inl.inj hv
  subst hv
  refine Wx_perm (fun a ha z => hd2' a z ha) ?_
  refine x_iload5 (pc := 3147) G dl_3147 ?_
  refine x_icmp_eq (pc := 3149) (tgt := 3154) G dl_3149 rfl (fun _ => ?_) (fun z9 => absurd hk z9)
  refine x_iload5 (pc := 3154) G dl_3154 ?_
  refine x_if_ne (pc := 3156) (tgt := 3170) (y := 0) G dl_3156 rfl (fun _ => ?_) (fun z9 => ?_)
  · skip
    refine x_goto (pc := 3170) (tgt := 3248) G dl_3170 rfl ?_
    exact Wx_l8 (hend X2 S2 _ f2 hL2)
  · have hf := hz z9
    refine x_aload3 (pc := 3159) G dl_3159 ?_
    refine x_iconst (pc := 3160) (v := 0) G dl_3160 (by decide) ?_
    refine x_old (pc := 3161) G hd1' dl_3161 ?_
    refine x_lload6 (pc := 3162) G dl_3162 ?_
    refine x_lcmp (pc := 3164) G dl_3164 ?_
    refine x_if_eq (pc := 3165) (tgt := 3170) (y := 0) G dl_3165 rfl (fun _ => ?_) (fun z8 => absurd (lg_same hf) z8)
    refine x_goto (pc := 3170) (tgt := 3248) G dl_3170 rfl ?_
    exact Wx_l8 (hend X2 S2 _ f2 hL2)
theorem dl_3173 : decode cL_law 3173 = .ok (.aload_n 1, 1) := by decide +kernel
theorem dl_3174 : decode cL_law 3174 = .ok (.aload_n 0, 1) := by decide +kernel
theorem dl_3175 : decode cL_law 3175 = .ok (.iload 4, 2) := by decide +kernel
theorem dl_3177 : decode cL_law 3177 = .ok (.iconst 1, 1) := by decide +kernel
theorem dl_3178 : decode cL_law 3178 = .ok (.iadd, 1) := by decide +kernel
theorem dl_3179 : decode cL_law 3179 = .ok (.iaload, 1) := by decide +kernel
theorem dl_3180 : decode cL_law 3180 = .ok (.aload_n 0, 1) := by decide +kernel
theorem dl_3181 : decode cL_law 3181 = .ok (.iload 4, 2) := by decide +kernel
theorem dl_3183 : decode cL_law 3183 = .ok (.iconst 2, 1) := by decide +kernel
theorem dl_3184 : decode cL_law 3184 = .ok (.iadd, 1) := by decide +kernel
theorem dl_3185 : decode cL_law 3185 = .ok (.iaload, 1) := by decide +kernel
theorem dl_3186 : decode cL_law 3186 = .ok (.aload_n 3, 1) := by decide +kernel
theorem dl_3187 : decode cL_law 3187 = .ok (.invokestatic 318, 3) := by decide +kernel
theorem dl_3190 : decode cL_law 3190 = .ok (.istore 5, 2) := by decide +kernel
theorem dl_3192 : decode cL_law 3192 = .ok (.aload_n 2, 1) := by decide +kernel
theorem dl_3193 : decode cL_law 3193 = .ok (.aload_n 0, 1) := by decide +kernel
theorem dl_3194 : decode cL_law 3194 = .ok (.iload 4, 2) := by decide +kernel
theorem dl_3196 : decode cL_law 3196 = .ok (.iconst 1, 1) := by decide +kernel
theorem dl_3197 : decode cL_law 3197 = .ok (.iadd, 1) := by decide +kernel
theorem dl_3198 : decode cL_law 3198 = .ok (.iaload, 1) := by decide +kernel
theorem dl_3199 : decode cL_law 3199 = .ok (.aload_n 0, 1) := by decide +kernel
theorem dl_3200 : decode cL_law 3200 = .ok (.iload 4, 2) := by decide +kernel
theorem dl_3202 : decode cL_law 3202 = .ok (.iconst 2, 1) := by decide +kernel
theorem dl_3203 : decode cL_law 3203 = .ok (.iadd, 1) := by decide +kernel
theorem dl_3204 : decode cL_law 3204 = .ok (.iaload, 1) := by decide +kernel
theorem dl_3205 : decode cL_law 3205 = .ok (.invokevirtual 320, 3) := by decide +kernel
theorem dl_3208 : decode cL_law 3208 = .ok (.istore 6, 2) := by decide +kernel
theorem dl_3210 : decode cL_law 3210 = .ok (.aload_n 2, 1) := by decide +kernel
theorem dl_3211 : decode cL_law 3211 = .ok (.invokevirtual 172, 3) := by decide +kernel
theorem dl_3214 : decode cL_law 3214 = .ok (.iload 5, 2) := by decide +kernel
theorem dl_3216 : decode cL_law 3216 = .ok (.if_icmp .eq 5, 3) := by decide +kernel
theorem dl_3219 : decode cL_law 3219 = .ok (.iconst 0, 1) := by decide +kernel
theorem dl_3220 : decode cL_law 3220 = .ok (.ireturn, 1) := by decide +kernel
theorem dl_3221 : decode cL_law 3221 = .ok (.iload 5, 2) := by decide +kernel
theorem dl_3223 : decode cL_law 3223 = .ok (.ifCond .ne 22, 3) := by decide +kernel
theorem dl_3226 : decode cL_law 3226 = .ok (.aload_n 3, 1) := by decide +kernel
theorem dl_3227 : decode cL_law 3227 = .ok (.iconst 0, 1) := by decide +kernel
theorem dl_3228 : decode cL_law 3228 = .ok (.laload, 1) := by decide +kernel
theorem dl_3229 : decode cL_law 3229 = .ok (.iload 6, 2) := by decide +kernel
theorem dl_3231 : decode cL_law 3231 = .ok (.ifCond .eq 7, 3) := by decide +kernel
theorem dl_3234 : decode cL_law 3234 = .ok (.lconst 1, 1) := by decide +kernel
theorem dl_3235 : decode cL_law 3235 = .ok (.goto 4, 3) := by decide +kernel
theorem dl_3238 : decode cL_law 3238 = .ok (.lconst 0, 1) := by decide +kernel
theorem dl_3239 : decode cL_law 3239 = .ok (.lcmp, 1) := by decide +kernel
theorem dl_3240 : decode cL_law 3240 = .ok (.ifCond .eq 5, 3) := by decide +kernel
theorem dl_3243 : decode cL_law 3243 = .ok (.iconst 0, 1) := by decide +kernel
theorem dl_3244 : decode cL_law 3244 = .ok (.ireturn, 1) := by decide +kernel
theorem dl_3245 : decode cL_law 3245 = .ok (.goto 3, 3) := by decide +kernel
set_option maxRecDepth 100000 in
set_option maxHeartbeats 4000000 in
theorem lk_isSampled {p : Program} {l : Launch} {e : Env} {s : State} {m : MethodId} {args : Array Value} {below : List Frame} {meth : Method} {c : Code} {k : KC} {A : Nat → Prop} {Q : State → Prop} {bc1 bs1 b0 Ln b ao mo i : Nat} {xs : Nat → Int32} {ad : Nat → Nat} {f : Nat → Int64} {X : CX} {S : CT} {M : MS} {rt9 : Option FieldType} (hl : l.stackTraces = false) (G : GX p l room_1 s m args meth c k A RL cL_law 8 rt9) (hX : va_X b0 Ln xs s s.heap) (hbl : b0 < s.heap.size) (hbA : ¬ A b0) (hH : HM mo ad) (hi : i + 8 ≤ Ln) (hL : Ln ≤ 4096) (h : LV9 k b X S ao f mo ad M) (hend : ∀ X2 S2 M2 f2, LV9 k b X2 S2 ao f2 mo ad M2 → Wx p l e room_1 s m args below meth c k A 8 Q bc1 bs1 3248 [some (.ref b0), some (.ref b), some (.ref mo), some (.ref ao), some (.int (nI i)), none, none, none] [] (WL k X2 S2 ao f2 mo ad M2)) : Wx p l e room_1 s m args below meth c k A 8 Q (bc1 + 1) (bs1 + 6) 3173 [some (.ref b0), some (.ref b), some (.ref mo), some (.ref ao), some (.int (nI i)), none, none, none] [] (WL k X S ao f mo ad M) := by
  obtain ⟨hI, hb, hd1, hd2⟩ := h
  obtain ⟨hbm, fs, hbf⟩ := cw11 (k := k) (S := S) hI.1 hb
  have hvr := vr11 hb
  have hx1 : vp_in (nI i + 1) Ln := ix_in (j := 1) rfl (by omega) hL
  have hx2 : vp_in (nI i + 2) Ln := ix_in (j := 2) rfl (by omega) hL
  unfold WL
  refine x_aload1 (pc := 3173) G dl_3173 ?_
  refine x_aload0 (pc := 3174) G dl_3174 ?_
  refine x_iload4 (pc := 3175) G dl_3175 ?_
  refine x_iconst (pc := 3177) (v := 1) G dl_3177 (by decide) ?_
  refine x_iadd (pc := 3178) G dl_3178 ?_
  refine x_sld (pc := 3179) G hX hbl hbA hx1 dl_3179 ?_
  refine x_aload0 (pc := 3180) G dl_3180 ?_
  refine x_iload4 (pc := 3181) G dl_3181 ?_
  refine x_iconst (pc := 3183) (v := 2) G dl_3183 (by decide) ?_
  refine x_iadd (pc := 3184) G dl_3184 ?_
  refine x_sld (pc := 3185) G hX hbl hbA hx2 dl_3185 ?_
  refine x_aload3 (pc := 3186) G dl_3186 ?_
  have hC := kc_isSampled (k := k) hl hI (p1 := (xs (nI i + 1).toNatClampNeg)) (p2 := (xs (nI i + 2).toNatClampNeg))
  rw [hvr] at hC
  have hst := fun {o : Out} {w : Wd} => so_isSampled (k := k) (o := o) (w := w) (p1 := (xs (nI i + 1).toNatClampNeg)) (p2 := (xs (nI i + 2).toNatClampNeg)) hI
  have hh := ch_isSampled hl hbm hbf hd1 hC (fun o w hp => by
    obtain ⟨_, _, _, _, _, ⟨ho, _⟩ | ⟨E, he, _, hc⟩⟩ := hst hp
    · exact Or.inl ⟨_, ho⟩
    · exact Or.inr ⟨E, he, hc⟩)
  have hh := MI.frame hh hd2
  refine x_callSW (pc := 3187) (bc1 := bc1) (bs1 := bs1) (n := 4) (As := [.ref b, .int (xs (nI i + 1).toNatClampNeg), .int (xs (nI i + 2).toNatClampNeg), .ref ao]) G hh q_ml_L_318 q_st_yL_isSampled q_in_L q_cw_isSampled ⟨by decide, by decide, by decide +kernel⟩ ⟨Nat.le_of_ble_eq_true rfl, Nat.le_of_ble_eq_true rfl⟩ (Nat.zero_le _) (Nat.le_refl _) (Nat.le_refl _) rfl rfl dl_3187 (fun v w9 hp => ?_)
  obtain ⟨X2, S2, f2, kc, rfl, hL2, hv, hk, hz⟩ : ∃ X2 S2 f2 kc, w9 = wu (wu (cW k X2 S2) (oW k ao f2)) (mW k mo ad M) ∧ LV9 k b X2 S2 ao f2 mo ad (f_isSampled (xs (nI i + 1).toNatClampNeg) (xs (nI i + 2).toNatClampNeg) M).2 ∧ v = some (.int kc) ∧ mI (f_isSampled (xs (nI i + 1).toNatClampNeg) (xs (nI i + 2).toNatClampNeg) M).2 0 = kc ∧ (kc = 0 → f2 0 = if (f_isSampled (xs (nI i + 1).toNatClampNeg) (xs (nI i + 2).toNatClampNeg) M).1 = 0 then 0 else 1) := by
    obtain ⟨h9, ⟨w1, f1, rfl, hd1', hpp⟩, hd2', rfl⟩ := hp
    rcases hpp with ⟨r, hp1, hv, hf⟩ | ⟨E, hp1, hv⟩
    · obtain ⟨X2, S2, rfl, hI2, hb2, ⟨ho, h0⟩ | ⟨E, he, _, _⟩⟩ := hst hp1
      · have e9 := Sum.inl.inj ho
        cases e9
        exact ⟨X2, S2, _, 0, rfl, ⟨hI2, hb2.trans hb, hd1', hd2'⟩, Sum.inl.inj hv, h0, fun _ => hf⟩
      · cases he
    · obtain ⟨X2, S2, rfl, hI2, hb2, ⟨ho, h0⟩ | ⟨E2, he, h0, hc⟩⟩ := hst hp1
      · cases ho
      · cases he
        refine ⟨X2, S2, _, _, rfl, ⟨hI2, hb2.trans hb, hd1', hd2'⟩, Sum.inl.inj hv, h0, fun z => ?_⟩
        rcases hc with rfl | rfl <;> exact absurd z (by decide)
  subst hv
  obtain ⟨hI2, hb2, hd1', hd2'⟩ := id hL2
  refine x_istore5 (pc := 3190) G dl_3190 (by decide) rfl ?_
  refine x_aload2 (pc := 3192) G dl_3192 ?_
  refine x_aload0 (pc := 3193) G dl_3193 ?_
  refine x_iload4 (pc := 3194) G dl_3194 ?_
  refine x_iconst (pc := 3196) (v := 1) G dl_3196 (by decide) ?_
  refine x_iadd (pc := 3197) G dl_3197 ?_
  refine x_sld (pc := 3198) G hX hbl hbA hx1 dl_3198 ?_
  refine x_aload0 (pc := 3199) G dl_3199 ?_
  refine x_iload4 (pc := 3200) G dl_3200 ?_
  refine x_iconst (pc := 3202) (v := 2) G dl_3202 (by decide) ?_
  refine x_iadd (pc := 3203) G dl_3203 ?_
  refine x_sld (pc := 3204) G hX hbl hbA hx2 dl_3204 ?_
  have hr := rc_isSampled (k := k) hl hH hI.2.2.2 (p1 := (xs (nI i + 1).toNatClampNeg)) (p2 := (xs (nI i + 2).toNatClampNeg))
  refine Wx_perm hd2' ?_
  refine x_callV (pc := 3205) (bc1 := bc1) (bs1 := bs1) (n := 2) (As := [.int (xs (nI i + 1).toNatClampNeg), .int (xs (nI i + 2).toNatClampNeg)]) G (hr.frame (fun a ha z => hd2' a z ha)) (List.mem_append_left _ mW_mo.1) ((if_pos mW_mo.1).trans mW_mo.2) (show vwCl[12]? = some (_, _, _) from rfl) q_ml_L_320 q_im_yX11_isSampled q_se_yX11_isSampled q_in_X11 q_co_yX11_isSampled ⟨by decide, by decide, by decide +kernel⟩ ⟨Nat.le_of_ble_eq_true rfl, Nat.le_of_ble_eq_true rfl⟩ (Nat.zero_le _) (Nat.le_refl _) (Nat.le_refl _) rfl rfl dl_3205 (fun v w9 hp => ?_) (fun E w9 hp => by obtain ⟨_, hq, _⟩ := hp; cases hq.1)
  obtain ⟨h9, ⟨hv, rfl⟩, _, rfl⟩ := hp
  have hv := Sum.inl.inj hv
  subst hv
  refine Wx_perm (fun a ha z => hd2' a z ha) ?_
  refine x_istore6 (pc := 3208) G dl_3208 (by decide) rfl ?_
  refine x_aload2 (pc := 3210) G dl_3210 ?_
  refine Wx_perm hd2' ?_
  refine x_callV (pc := 3211) (bc1 := bc1) (bs1 := bs1) (n := 0) (As := []) G ((c_thrown (k := k) (M := (f_isSampled (xs (nI i + 1).toNatClampNeg) (xs (nI i + 2).toNatClampNeg) M).2) hl hH).frame (fun a ha z => hd2' a z ha)) (List.mem_append_left _ mW_mo.1) ((if_pos mW_mo.1).trans mW_mo.2) (show vwCl[12]? = some (_, _, _) from rfl) q_ml_L_172 q_im_yX11_thrown q_se_yX11_thrown q_in_X11 q_co_yX11_thrown ⟨by decide, by decide, by decide +kernel⟩ ⟨Nat.le_of_ble_eq_true rfl, Nat.le_of_ble_eq_true rfl⟩ (Nat.zero_le _) (Nat.le_refl _) (Nat.le_refl _) rfl rfl dl_3211 (fun v w9 hp => ?_) (fun E w9 hp => by obtain ⟨_, hq, _⟩ := hp; cases hq.1)
  obtain ⟨h9, ⟨hv, rfl⟩, _, rfl⟩ := hp
  have hv := Sum.inl.inj hv
  subst hv
  refine Wx_perm (fun a ha z => hd2' a z ha) ?_
  refine x_iload5 (pc := 3214) G dl_3214 ?_
  refine x_icmp_eq (pc := 3216) (tgt := 3221) G dl_3216 rfl (fun _ => ?_) (fun z9 => absurd hk z9)
  refine x_iload5 (pc := 3221) G dl_3221 ?_
  refine x_if_ne (pc := 3223) (tgt := 3245) (y := 0) G dl_3223 rfl (fun _ => ?_) (fun z9 => ?_)
  · skip
    refine x_goto (pc := 3245) (tgt := 3248) G dl_3245 rfl ?_
    exact Wx_l8 (hend X2 S2 _ f2 hL2)
  · have hf := hz z9
    refine x_aload3 (pc := 3226) G dl_3226 ?_
    refine x_iconst (pc := 3227) (v := 0) G dl_3227 (by decide) ?_
    refine x_old (pc := 3228) G hd1' dl_3228 ?_
    refine x_iload6 (pc := 3229) G dl_3229 ?_
    refine x_if_eq (pc := 3231) (tgt := 3238) (y := 0) G dl_3231 rfl (fun z7 => ?_) (fun z7 => ?_)
    · refine x_lconst (pc := 3238) (v := 0) G dl_3238 (by decide) ?_
      refine x_lcmp (pc := 3239) G dl_3239 ?_
      refine x_if_eq (pc := 3240) (tgt := 3245) (y := 0) G dl_3240 rfl (fun _ => ?_) (fun z8 => absurd (lg_same (hf.trans (if_pos z7))) z8)
      refine x_goto (pc := 3245) (tgt := 3248) G dl_3245 rfl ?_
      exact Wx_l8 (hend X2 S2 _ f2 hL2)
    · refine x_lconst (pc := 3234) (v := 1) G dl_3234 (by decide) ?_
      refine x_goto (pc := 3235) (tgt := 3239) G dl_3235 rfl ?_
      refine x_lcmp (pc := 3239) G dl_3239 ?_
      refine x_if_eq (pc := 3240) (tgt := 3245) (y := 0) G dl_3240 rfl (fun _ => ?_) (fun z8 => absurd (lg_same (hf.trans (if_neg z7))) z8)
      refine x_goto (pc := 3245) (tgt := 3248) G dl_3245 rfl ?_
      exact Wx_l8 (hend X2 S2 _ f2 hL2)
