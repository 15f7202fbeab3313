theorem dl_23 : decode cL_law 23 = .ok (.iload 4, 2) := by decide +kernel
theorem dl_25 : decode cL_law 25 = .ok (.aload_n 0, 1) := by decide +kernel
theorem dl_26 : decode cL_law 26 = .ok (.arraylength, 1) := by decide +kernel
theorem dl_27 : decode cL_law 27 = .ok (.bipush 8, 2) := by decide +kernel
theorem dl_29 : decode cL_law 29 = .ok (.isub, 1) := by decide +kernel
theorem dl_30 : decode cL_law 30 = .ok (.if_icmp .gt 3224, 3) := by decide +kernel
theorem dl_33 : decode cL_law 33 = .ok (.aload_n 0, 1) := by decide +kernel
theorem dl_34 : decode cL_law 34 = .ok (.iload 4, 2) := by decide +kernel
theorem dl_36 : decode cL_law 36 = .ok (.iaload, 1) := by decide +kernel
theorem dl_37 : decode cL_law 37 = .ok (.bipush 63, 2) := by decide +kernel
theorem dl_39 : decode cL_law 39 = .ok (.iand, 1) := by decide +kernel
theorem dl_40 : decode cL_law 40 = .ok (.tableswitch 3208 0 44 #[196, 264, 324, 380, 459, 550, 641, 697, 795, 863, 911, 967, 1035, 1143, 1199, 1267, 1315, 1395, 1443, 1523, 1603, 1658, 1750, 1825, 1909, 1964, 2000, 2068, 2200, 2267, 2322, 2390, 2469, 2483, 2531, 2544, 2623, 2690, 2746, 2826, 2893, 2960, 3015, 3078, 3133], 196) := by decide +kernel
theorem dl_3248 : decode cL_law 3248 = .ok (.iinc 4 8, 3) := by decide +kernel
theorem dl_3251 : decode cL_law 3251 = .ok (.goto (-3228), 3) := by decide +kernel
theorem sub8 {i Ln : Nat} (h1 : Ln ≤ 4096) (h2 : i ≤ 5000) (h : ¬ nI Ln - 8 < nI i) : i + 8 ≤ Ln := by
  rw [Int32.lt_iff_toInt_lt, Int32.toInt_sub, nI_toInt (by omega), nI_toInt (by omega), show (8 : Int32).toInt = 8 from by decide] at h
  rw [Int.bmod_eq_of_le (by omega) (by omega)] at h
  omega
theorem i63 {x : Int32} : (x.toInt < 0 ∨ 44 < x.toInt) ∨ ∃ n : Nat, n < 45 ∧ x.toInt = (n : Int) := by
  rcases Int.lt_or_le x.toInt 0 with a | a
  · exact Or.inl (Or.inl a)
  · rcases Int.lt_or_le 44 x.toInt with b | b
    · exact Or.inl (Or.inr b)
    · exact Or.inr ⟨x.toInt.toNat, by omega, by omega⟩
set_option maxRecDepth 100000 in
set_option maxHeartbeats 4000000 in
theorem lw_loop {p : Program} {l : Launch} {e : Env} {s : State} {m : MethodId} {args : Array Value} {below : List Frame} {meth : Method} {c : Code} {k : KC} {A : Nat → Prop} {Q : State → Prop} {b0 Ln b ao mo : Nat} {xs : Nat → Int32} {ad : Nat → Nat} {rt9 : Option FieldType} (hl : l.stackTraces = false) (G : GX p l room_1 s m args meth c k A RL cL_law 8 rt9) (hX : va_X b0 Ln xs s s.heap) (hbl : b0 < s.heap.size) (hbA : ¬ A b0) (hH : HM mo ad) (hL : Ln ≤ 4096) (hfin : ∀ i X S M f, LV9 k b X S ao f mo ad M → Wx p l e room_1 s m args below meth c k A 8 Q 0 0 3254 [some (.ref b0), some (.ref b), some (.ref mo), some (.ref ao), some (.int (nI i)), none, none, none] [] (WL k X S ao f mo ad M)) : ∀ (n i : Nat) X S M f, Ln < i + 8 * n + 8 → i ≤ 5000 → LV9 k b X S ao f mo ad M → Wx p l e room_1 s m args below meth c k A 8 Q (3 * n) (100 * n) 23 [some (.ref b0), some (.ref b), some (.ref mo), some (.ref ao), some (.int (nI i)), none, none, none] [] (WL k X S ao f mo ad M) := by
  intro n
  induction n with
  | zero =>
    intro i X S M f hi hi5 h
    refine x_iload4 (pc := 23) G dl_23 ?_
    refine x_aload0 (pc := 25) G dl_25 ?_
    refine x_slen (pc := 26) G hX hbl hbA dl_26 ?_
    refine x_bipush (pc := 27) (v := 8) G dl_27 (by decide) ?_
    refine x_isub (pc := 29) G dl_29 ?_
    refine x_icmp_gt (pc := 30) (tgt := 3254) G dl_30 rfl (fun _ => Wx_mono (Nat.zero_le _) (Nat.zero_le _) (hfin i X S M f h)) (fun z => ?_)
    have z9 := sub8 hL hi5 z
    omega
  | succ n ih =>
    intro i X S M f hi hi5 h
    refine x_iload4 (pc := 23) G dl_23 ?_
    refine x_aload0 (pc := 25) G dl_25 ?_
    refine x_slen (pc := 26) G hX hbl hbA dl_26 ?_
    refine x_bipush (pc := 27) (v := 8) G dl_27 (by decide) ?_
    refine x_isub (pc := 29) G dl_29 ?_
    refine x_icmp_gt (pc := 30) (tgt := 3254) G dl_30 rfl (fun _ => Wx_mono (Nat.zero_le _) (Nat.zero_le _) (hfin i X S M f h)) (fun z => ?_)
    have z9 := sub8 hL hi5 z
    have hend : ∀ X2 S2 M2 f2, LV9 k b X2 S2 ao f2 mo ad M2 → Wx p l e room_1 s m args below meth c k A 8 Q (3 * n) (100 * n) 3248 [some (.ref b0), some (.ref b), some (.ref mo), some (.ref ao), some (.int (nI i)), none, none, none] [] (WL k X2 S2 ao f2 mo ad M2) := fun X2 S2 M2 f2 h2 => by
      refine x_iinc4 (pc := 3248) (v := nI (i + 8)) G dl_3248 (nI_add (a := i) (b := 8)) (by decide) rfl ?_
      refine x_goto (pc := 3251) (tgt := 23) G dl_3251 rfl ?_
      exact ih (i + 8) X2 S2 M2 f2 (by omega) (by omega) h2
    refine x_aload0 (pc := 33) G dl_33 ?_
    refine x_iload4 (pc := 34) G dl_34 ?_
    refine x_sld (pc := 36) G hX hbl hbA (vp_in_nI (by omega) (by omega)) dl_36 ?_
    refine x_bipush (pc := 37) (v := 63) G dl_37 (by decide) ?_
    refine x_iand (pc := 39) G dl_39 ?_
    generalize xs (nI i).toNatClampNeg &&& 63 = v
    rcases i63 (x := v) with g | ⟨j, hj, e9⟩
    · exact x_tableOut (pc := 40) (tgt := 3248) G dl_40 g rfl (Wx_mono (by omega) (by omega) (hend X S M f h))
    · match j, hj, e9 with
      | 0, _, e9 => exact x_tableIn (pc := 40) (tgt := 236) G dl_40 (by rw [e9]; decide) (by rw [e9]; decide) (by rw [e9]; rfl) rfl (Wx_mono (by omega) (by omega) (lk_person hl G hX hbl hbA hH z9 hL h hend))
      | 1, _, e9 => exact x_tableIn (pc := 40) (tgt := 304) G dl_40 (by rw [e9]; decide) (by rw [e9]; decide) (by rw [e9]; rfl) rfl (Wx_mono (by omega) (by omega) (lk_absent hl G hX hbl hbA hH z9 hL h hend))
      | 2, _, e9 => exact x_tableIn (pc := 40) (tgt := 364) G dl_40 (by rw [e9]; decide) (by rw [e9]; decide) (by rw [e9]; rfl) rfl (Wx_mono (by omega) (by omega) (lk_controller hl G hX hbl hbA hH z9 hL h hend))
      | 3, _, e9 => exact x_tableIn (pc := 40) (tgt := 420) G dl_40 (by rw [e9]; decide) (by rw [e9]; decide) (by rw [e9]; rfl) rfl (Wx_mono (by omega) (by omega) (lk_budget hl G hX hbl hbA hH z9 hL h hend))
      | 4, _, e9 => exact x_tableIn (pc := 40) (tgt := 499) G dl_40 (by rw [e9]; decide) (by rw [e9]; decide) (by rw [e9]; rfl) rfl (Wx_mono (by omega) (by omega) (lk_transfer hl G hX hbl hbA hH z9 hL h hend))
      | 5, _, e9 => exact x_tableIn (pc := 40) (tgt := 590) G dl_40 (by rw [e9]; decide) (by rw [e9]; decide) (by rw [e9]; rfl) rfl (Wx_mono (by omega) (by omega) (lk_soft hl G hX hbl hbA hH z9 hL h hend))
      | 6, _, e9 => exact x_tableIn (pc := 40) (tgt := 681) G dl_40 (by rw [e9]; decide) (by rw [e9]; decide) (by rw [e9]; rfl) rfl (Wx_mono (by omega) (by omega) (lk_carried hl G hX hbl hbA hH z9 hL h hend))
      | 7, _, e9 => exact x_tableIn (pc := 40) (tgt := 737) G dl_40 (by rw [e9]; decide) (by rw [e9]; decide) (by rw [e9]; rfl) rfl (Wx_mono (by omega) (by omega) (lk_supplier hl G hX hbl hbA hH z9 hL h hend))
      | 8, _, e9 => exact x_tableIn (pc := 40) (tgt := 835) G dl_40 (by rw [e9]; decide) (by rw [e9]; decide) (by rw [e9]; rfl) rfl (Wx_mono (by omega) (by omega) (lk_rate hl G hX hbl hbA hH z9 hL h hend))
      | 9, _, e9 => exact x_tableIn (pc := 40) (tgt := 903) G dl_40 (by rw [e9]; decide) (by rw [e9]; decide) (by rw [e9]; rfl) rfl (Wx_mono (by omega) (by omega) (lk_taxes hl G hX hbl hbA hH z9 hL h hend))
      | 10, _, e9 => exact x_tableIn (pc := 40) (tgt := 951) G dl_40 (by rw [e9]; decide) (by rw [e9]; decide) (by rw [e9]; rfl) rfl (Wx_mono (by omega) (by omega) (lk_pass hl G hX hbl hbA hH z9 hL h hend))
      | 11, _, e9 => exact x_tableIn (pc := 40) (tgt := 1007) G dl_40 (by rw [e9]; decide) (by rw [e9]; decide) (by rw [e9]; rfl) rfl (Wx_mono (by omega) (by omega) (lk_request hl G hX hbl hbA hH z9 hL h hend))
      | 12, _, e9 => exact x_tableIn (pc := 40) (tgt := 1075) G dl_40 (by rw [e9]; decide) (by rw [e9]; decide) (by rw [e9]; rfl) rfl (Wx_mono (by omega) (by omega) (lk_line hl G hX hbl hbA hH z9 hL h hend))
      | 13, _, e9 => exact x_tableIn (pc := 40) (tgt := 1183) G dl_40 (by rw [e9]; decide) (by rw [e9]; decide) (by rw [e9]; rfl) rfl (Wx_mono (by omega) (by omega) (lk_send hl G hX hbl hbA hH z9 hL h hend))
      | 14, _, e9 => exact x_tableIn (pc := 40) (tgt := 1239) G dl_40 (by rw [e9]; decide) (by rw [e9]; decide) (by rw [e9]; rfl) rfl (Wx_mono (by omega) (by omega) (lk_approve hl G hX hbl hbA hH z9 hL h hend))
      | 15, _, e9 => exact x_tableIn (pc := 40) (tgt := 1307) G dl_40 (by rw [e9]; decide) (by rw [e9]; decide) (by rw [e9]; rfl) rfl (Wx_mono (by omega) (by omega) (lk_refuse hl G hX hbl hbA hH z9 hL h hend))
      | 16, _, e9 => exact x_tableIn (pc := 40) (tgt := 1355) G dl_40 (by rw [e9]; decide) (by rw [e9]; decide) (by rw [e9]; rfl) rfl (Wx_mono (by omega) (by omega) (lk_edit hl G hX hbl hbA hH z9 hL h hend))
      | 17, _, e9 => exact x_tableIn (pc := 40) (tgt := 1435) G dl_40 (by rw [e9]; decide) (by rw [e9]; decide) (by rw [e9]; rfl) rfl (Wx_mono (by omega) (by omega) (lk_order hl G hX hbl hbA hH z9 hL h hend))
      | 18, _, e9 => exact x_tableIn (pc := 40) (tgt := 1483) G dl_40 (by rw [e9]; decide) (by rw [e9]; decide) (by rw [e9]; rfl) rfl (Wx_mono (by omega) (by omega) (lk_receive hl G hX hbl hbA hH z9 hL h hend))
      | 19, _, e9 => exact x_tableIn (pc := 40) (tgt := 1563) G dl_40 (by rw [e9]; decide) (by rw [e9]; decide) (by rw [e9]; rfl) rfl (Wx_mono (by omega) (by omega) (lk_change hl G hX hbl hbA hH z9 hL h hend))
      | 20, _, e9 => exact x_tableIn (pc := 40) (tgt := 1643) G dl_40 (by rw [e9]; decide) (by rw [e9]; decide) (by rw [e9]; rfl) rfl (Wx_mono (by omega) (by omega) (lk_end hl G hX hbl hbA hH z9 hL h hend))
      | 21, _, e9 => exact x_tableIn (pc := 40) (tgt := 1698) G dl_40 (by rw [e9]; decide) (by rw [e9]; decide) (by rw [e9]; rfl) rfl (Wx_mono (by omega) (by omega) (lk_invoice hl G hX hbl hbA hH z9 hL h hend))
      | 22, _, e9 => exact x_tableIn (pc := 40) (tgt := 1790) G dl_40 (by rw [e9]; decide) (by rw [e9]; decide) (by rw [e9]; rfl) rfl (Wx_mono (by omega) (by omega) (lk_letGo hl G hX hbl hbA hH z9 hL h hend))
      | 23, _, e9 => exact x_tableIn (pc := 40) (tgt := 1865) G dl_40 (by rw [e9]; decide) (by rw [e9]; decide) (by rw [e9]; rfl) rfl (Wx_mono (by omega) (by omega) (lk_run hl G hX hbl hbA hH z9 hL h hend))
      | 24, _, e9 => exact x_tableIn (pc := 40) (tgt := 1949) G dl_40 (by rw [e9]; decide) (by rw [e9]; decide) (by rw [e9]; rfl) rfl (Wx_mono (by omega) (by omega) (lk_bounce hl G hX hbl hbA hH z9 hL h hend))
      | 25, _, e9 => exact x_tableIn (pc := 40) (tgt := 2004) G dl_40 (by rw [e9]; decide) (by rw [e9]; decide) (by rw [e9]; rfl) rfl (Wx_mono (by omega) (by omega) (lk_goOn hl G hX hbl hbA hH z9 hL h hend))
      | 26, _, e9 => exact x_tableIn (pc := 40) (tgt := 2040) G dl_40 (by rw [e9]; decide) (by rw [e9]; decide) (by rw [e9]; rfl) rfl (Wx_mono (by omega) (by omega) (lk_place hl G hX hbl hbA hH z9 hL h hend))
      | 27, _, e9 => exact x_tableIn (pc := 40) (tgt := 2108) G dl_40 (by rw [e9]; decide) (by rw [e9]; decide) (by rw [e9]; rfl) rfl (Wx_mono (by omega) (by omega) (lk_trip hl G hX hbl hbA hH z9 hL h hend))
      | 28, _, e9 => exact x_tableIn (pc := 40) (tgt := 2240) G dl_40 (by rw [e9]; decide) (by rw [e9]; decide) (by rw [e9]; rfl) rfl (Wx_mono (by omega) (by omega) (lk_advance hl G hX hbl hbA hH z9 hL h hend))
      | 29, _, e9 => exact x_tableIn (pc := 40) (tgt := 2307) G dl_40 (by rw [e9]; decide) (by rw [e9]; decide) (by rw [e9]; rfl) rfl (Wx_mono (by omega) (by omega) (lk_settle hl G hX hbl hbA hH z9 hL h hend))
      | 30, _, e9 => exact x_tableIn (pc := 40) (tgt := 2362) G dl_40 (by rw [e9]; decide) (by rw [e9]; decide) (by rw [e9]; rfl) rfl (Wx_mono (by omega) (by omega) (lk_card hl G hX hbl hbA hH z9 hL h hend))
      | 31, _, e9 => exact x_tableIn (pc := 40) (tgt := 2430) G dl_40 (by rw [e9]; decide) (by rw [e9]; decide) (by rw [e9]; rfl) rfl (Wx_mono (by omega) (by omega) (lk_tell hl G hX hbl hbA hH z9 hL h hend))
      | 32, _, e9 => exact x_tableIn (pc := 40) (tgt := 2509) G dl_40 (by rw [e9]; decide) (by rw [e9]; decide) (by rw [e9]; rfl) rfl (Wx_mono (by omega) (by omega) (lk_payCard hl G hX hbl hbA hH z9 hL h hend))
      | 33, _, e9 => exact x_tableIn (pc := 40) (tgt := 2523) G dl_40 (by rw [e9]; decide) (by rw [e9]; decide) (by rw [e9]; rfl) rfl (Wx_mono (by omega) (by omega) (lk_sample hl G hX hbl hbA hH z9 hL h hend))
      | 34, _, e9 => exact x_tableIn (pc := 40) (tgt := 2571) G dl_40 (by rw [e9]; decide) (by rw [e9]; decide) (by rw [e9]; rfl) rfl (Wx_mono (by omega) (by omega) (lk_day hl G hX hbl hbA hH z9 hL h hend))
      | 35, _, e9 => exact x_tableIn (pc := 40) (tgt := 2584) G dl_40 (by rw [e9]; decide) (by rw [e9]; decide) (by rw [e9]; rfl) rfl (Wx_mono (by omega) (by omega) (lk_centre hl G hX hbl hbA hH z9 hL h hend))
      | 36, _, e9 => exact x_tableIn (pc := 40) (tgt := 2663) G dl_40 (by rw [e9]; decide) (by rw [e9]; decide) (by rw [e9]; rfl) rfl (Wx_mono (by omega) (by omega) (lk_requestOf hl G hX hbl hbA hH z9 hL h hend))
      | 37, _, e9 => exact x_tableIn (pc := 40) (tgt := 2730) G dl_40 (by rw [e9]; decide) (by rw [e9]; decide) (by rw [e9]; rfl) rfl (Wx_mono (by omega) (by omega) (lk_next hl G hX hbl hbA hH z9 hL h hend))
      | 38, _, e9 => exact x_tableIn (pc := 40) (tgt := 2786) G dl_40 (by rw [e9]; decide) (by rw [e9]; decide) (by rw [e9]; rfl) rfl (Wx_mono (by omega) (by omega) (lk_lineOf hl G hX hbl hbA hH z9 hL h hend))
      | 39, _, e9 => exact x_tableIn (pc := 40) (tgt := 2866) G dl_40 (by rw [e9]; decide) (by rw [e9]; decide) (by rw [e9]; rfl) rfl (Wx_mono (by omega) (by omega) (lk_invoiceOf hl G hX hbl hbA hH z9 hL h hend))
      | 40, _, e9 => exact x_tableIn (pc := 40) (tgt := 2933) G dl_40 (by rw [e9]; decide) (by rw [e9]; decide) (by rw [e9]; rfl) rfl (Wx_mono (by omega) (by omega) (lk_staff hl G hX hbl hbA hH z9 hL h hend))
      | 41, _, e9 => exact x_tableIn (pc := 40) (tgt := 3000) G dl_40 (by rw [e9]; decide) (by rw [e9]; decide) (by rw [e9]; rfl) rfl (Wx_mono (by omega) (by omega) (lk_tripCost hl G hX hbl hbA hH z9 hL h hend))
      | 42, _, e9 => exact x_tableIn (pc := 40) (tgt := 3055) G dl_40 (by rw [e9]; decide) (by rw [e9]; decide) (by rw [e9]; rfl) rfl (Wx_mono (by omega) (by omega) (lk_isTold hl G hX hbl hbA hH z9 hL h hend))
      | 43, _, e9 => exact x_tableIn (pc := 40) (tgt := 3118) G dl_40 (by rw [e9]; decide) (by rw [e9]; decide) (by rw [e9]; rfl) rfl (Wx_mono (by omega) (by omega) (lk_account hl G hX hbl hbA hH z9 hL h hend))
      | 44, _, e9 => exact x_tableIn (pc := 40) (tgt := 3173) G dl_40 (by rw [e9]; decide) (by rw [e9]; decide) (by rw [e9]; rfl) rfl (Wx_mono (by omega) (by omega) (lk_isSampled hl G hX hbl hbA hH z9 hL h hend))
      | j + 45, hj, _ => exact absurd hj (by omega)
