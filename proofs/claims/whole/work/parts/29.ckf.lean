section LKU
variable {p : Program} {l : Launch} {e : Env} {R : Room} {s : State} {m : MethodId} {args : Array Value} {below : List Frame} {meth : Method} {c : Code} {k : KC} {A : Nat → Prop} {own : String} {cc : ByteArray} {pc nL bc bs : Nat} {ret : Option FieldType} {Q : State → Prop} {L : List (Option Value)} {st : List Value} {h : Wd}
theorem x_lookup (G : GX p l R s m args meth c k A own cc nL ret) {dflt : Int} {ps : Array (Int × Int)} {len : Nat} {x : Int32} {off : Int} {tgt : Nat} (d : decode cc pc = .ok (.lookupswitch dflt ps, len)) (hp : (ps.toList.zip (ps.toList.drop 1)).all (fun (a, next) => a.1 < next.1) = true) (ho : Op.lookupswitch.offset ps.toList dflt x.toInt = off) (ht : (pc : Int) + off = (tgt : Int)) (kk : Wx p l e R s m args below meth c k A nL Q bc bs tgt L st h) : Wx p l e R s m args below meth c k A nL Q bc bs pc L (.int x :: st) h := by
  intro H locs ls cells slots h1 h2 hP hS hl
  exact lv_lookup G.1 G.2.1 d hp ho ht (kk H locs ls cells slots h1 h2 hP hS hl)
end LKU
/-- requests that were ordered have a year -/
def YR (X : CX) (S : CT) : Prop := ∀ r, lI X 8 r → ci S 259 r = 4 → P_num (ci S 260 r) (nS X 28 (xi X 257 r))
theorem LC.si {X : CX} {S : CT} {f : Nat} {x v : Int32} (h : LC X S) (h1 : (363 == f) = false) (h2 : (260 == f) = false) : LC X (si S f x v) := by
  refine ⟨fun x hx => ty_of (by rw [ci_sn h1]) (h.1 x hx), fun r hr q => ?_⟩
  rw [cj_i] at q
  rw [ci_sn h2]
  exact h.2 r hr q
theorem LC.release {X : CX} {S : CT} {a : Int32} {b : Int64} (h : LC X S) : LC X (k_release a b X S).2 := by
  refine ⟨fun x hx => ty_of (by rw [ci_release]) (h.1 x hx), fun r hr q => ?_⟩
  rw [ci_release]
  exact h.2 r hr (cj_release_pos q)
theorem LC.commit {X : CX} {S : CT} {a : Int32} {b : Int64} (h : LC X S) (ha : P_num (ci S 260 a) (nS X 28 (xi X 257 a))) : LC X (k_commit a b X S) := by
  refine ⟨fun x hx => ty_of (by rw [ci_commit]) (h.1 x hx), fun r hr q => ?_⟩
  rw [ci_commit]
  by_cases e : r.toNatClampNeg = a.toNatClampNeg
  · have e1 : ci S 260 r = ci S 260 a := by unfold ci; rw [e]
    have e2 : xi X 257 r = xi X 257 a := by unfold xi; rw [e]
    rw [e1, e2]
    exact ha
  · rw [k_commit, cj_sc (by simpa using e), cj_sn rfl] at q
    exact h.2 r hr q
theorem op_approverFor2 {X : CX} {S : CT} (hT : TS X S) {p1 p2 : Int32} (_ : lI X 8 p1) (hp2 : oI X 6 p2) : oI X 6 (k_approverFor p1 p2 X S) := op_approverFor hT hp2
theorem ci_startChain_turn {p1 : Int32} {p2 : Int64} {X : CX} {S : CT} : ci (k_startChain p1 p2 X S) 262 p1 = xi X 193 (xi X 256 p1) := by
  unfold k_startChain
  repeat' split
  all_goals simp only [ci_sn (g := 262) (f := 263) rfl, ci_ss]
theorem bu_01 {p1 : Int32} {X : CX} {S : CT} : narrow .boolean (.int (k_bookUnlessHeld p1 X S).1) = .int (k_bookUnlessHeld p1 X S).1 := by
  unfold k_bookUnlessHeld
  split
  · show narrow .boolean (.int 1) = .int 1; decide
  · show narrow .boolean (.int 0) = .int 0; decide
theorem dX10_purseAt_0 : decode cX10_purseAt 0 = .ok (.aload_n 0, 1) := by decide +kernel
theorem dX10_purseAt_1 : decode cX10_purseAt 1 = .ok (.iload_n 1, 1) := by decide +kernel
theorem dX10_purseAt_2 : decode cX10_purseAt 2 = .ok (.invokevirtual 144, 3) := by decide +kernel
theorem dX10_purseAt_5 : decode cX10_purseAt 5 = .ok (.iload_n 2, 1) := by decide +kernel
theorem dX10_purseAt_6 : decode cX10_purseAt 6 = .ok (.invokestatic 487, 3) := by decide +kernel
theorem dX10_purseAt_9 : decode cX10_purseAt 9 = .ok (.areturn, 1) := by decide +kernel
abbrev rm_X10_purseAt : Room := { frames := 8, cells := 0, slots := 0, locals := 132 }
abbrev rmt_X10_purseAt : Room := { frames := 8, cells := 1, slots := 6, locals := 132 }
set_option maxRecDepth 100000 in
set_option maxHeartbeats 4000000 in
theorem ok_purseAt {l : Launch} {k : KC} (hl : l.stackTraces = false) {X : CX} {S : CT} (hX : XOK X) {p1 : Int32} {p2 : Int32} (hP : P_num p1 (nS X 21 0) ∧ P_num p2 (nS X 28 p1)) : MC l k yX10_purseAt (.code yX10_purseAt cX10_purseAt 3 (some (.object "ChitWright$Purse"))) rm_X10_purseAt [(vr X 11 0), .int p1, .int p2] (cW k X S) (pR (some (vr X 7 (3 * p1 + p2))) (cW k X S)) := by
  refine MC.of 0 hl (by decide) (by simp only [lg_sl_vr, lg_sl_i, lg_sl_l, lg_sl_0]; exact Nat.le_of_ble_eq_true rfl) ?_
  intro p e s m args below meth c A Q G B B2 hout
  simp only [lp_args_vr, lp_args_i, lp_args_l, lp_args_0]
  show Wx p l e rm_X10_purseAt s m args below meth c k A 3 Q 0 0 0 [some ((vr X 11 0)), some (.int p1), some (.int p2)] [] (cW k X S)
  refine z_aload0 (pc := 0) G vr_r dX10_purseAt_0 ?_
  refine x_iload1 (pc := 1) G dX10_purseAt_1 ?_
  refine z_cV1 (pc := 2) G kb_11 hX.1 hX.l11 (ok_centreAt hl hX  hP.1) rfl q_ml_X10_144 h_X10_centreAt ⟨Nat.le_of_ble_eq_true rfl, Nat.le_of_ble_eq_true rfl⟩ (Nat.le_of_ble_eq_true rfl) (Nat.le_refl _) (Nat.le_refl _) dX10_purseAt_2 ?_
  refine x_iload2 (pc := 5) G dX10_purseAt_5 ?_
  refine x_cS2 (pc := 6) G (ok_purseOf hl hX (hX.el21 hP.1) hP.2) q_ml_X10_487 h_X10_purseOf ⟨Nat.le_of_ble_eq_true rfl, Nat.le_of_ble_eq_true rfl⟩ (Nat.le_of_ble_eq_true rfl) (Nat.le_refl _) (Nat.le_refl _) dX10_purseAt_6 ?_
  exact x_aret (pc := 9) G B rfl (Or.inl ⟨_, rfl⟩) vr_r dX10_purseAt_9 ⟨rfl, rfl⟩
set_option maxRecDepth 100000 in
set_option maxHeartbeats 4000000 in
theorem no_purseAt {l : Launch} {k : KC} (hl : l.stackTraces = false) {X : CX} {S : CT} (hX : XOK X) {p1 : Int32} {p2 : Int32} (hP : ¬ (P_num p1 (nS X 21 0) ∧ P_num p2 (nS X 28 p1))) : MC l k yX10_purseAt (.code yX10_purseAt cX10_purseAt 3 (some (.object "ChitWright$Purse"))) rmt_X10_purseAt [(vr X 11 0), .int p1, .int p2] (cW k X S) (pT "java/lang/IndexOutOfBoundsException" (cW k X S)) := by
  refine MC.of 0 hl (by decide) (by simp only [lg_sl_vr, lg_sl_i, lg_sl_l, lg_sl_0]; exact Nat.le_of_ble_eq_true rfl) ?_
  intro p e s m args below meth c A Q G B B2 hout
  simp only [lp_args_vr, lp_args_i, lp_args_l, lp_args_0]
  show Wx p l e rmt_X10_purseAt s m args below meth c k A 3 Q 1 6 0 [some ((vr X 11 0)), some (.int p1), some (.int p2)] [] (cW k X S)
  refine z_aload0 (pc := 0) G vr_r dX10_purseAt_0 ?_
  refine x_iload1 (pc := 1) G dX10_purseAt_1 ?_
  rcases Decidable.em (¬ (P_num p1 (nS X 21 0))) with c1 | c1
  · exact z_cVt1 (pc := 2) G kb_11 hX.1 hX.l11 B B2 hout (no_centreAt hl hX  c1) rfl q_ml_X10_144 h_X10_centreAt ⟨Nat.le_of_ble_eq_true rfl, Nat.le_of_ble_eq_true rfl⟩ (Nat.le_of_ble_eq_true rfl) (Nat.le_refl _) (Nat.le_refl _) dX10_purseAt_2 ⟨rfl, rfl⟩
  have c1 := Decidable.not_not.mp c1
  refine z_cV1 (pc := 2) G kb_11 hX.1 hX.l11 (ok_centreAt hl hX  c1) rfl q_ml_X10_144 h_X10_centreAt ⟨Nat.le_of_ble_eq_true rfl, Nat.le_of_ble_eq_true rfl⟩ (Nat.le_of_ble_eq_true rfl) (Nat.le_refl _) (Nat.le_refl _) dX10_purseAt_2 ?_
  refine x_iload2 (pc := 5) G dX10_purseAt_5 ?_
  exact x_cSt2 (pc := 6) G B B2 hout (no_purseOf hl hX (hX.el21 c1) (fun q => hP ⟨c1, q⟩)) q_ml_X10_487 h_X10_purseOf ⟨Nat.le_of_ble_eq_true rfl, Nat.le_of_ble_eq_true rfl⟩ (Nat.le_of_ble_eq_true rfl) (Nat.le_refl _) (Nat.le_refl _) dX10_purseAt_6 ⟨rfl, rfl⟩
theorem dX10_countOfKind_0 : decode cX10_countOfKind 0 = .ok (.iload_n 1, 1) := by decide +kernel
theorem dX10_countOfKind_1 : decode cX10_countOfKind 1 = .ok (.lookupswitch 43 #[(0, 27), (1, 35)], 27) := by decide +kernel
theorem dX10_countOfKind_28 : decode cX10_countOfKind 28 = .ok (.aload_n 0, 1) := by decide +kernel
theorem dX10_countOfKind_29 : decode cX10_countOfKind 29 = .ok (.getfield 28, 3) := by decide +kernel
theorem dX10_countOfKind_32 : decode cX10_countOfKind 32 = .ok (.invokevirtual 96, 3) := by decide +kernel
theorem dX10_countOfKind_35 : decode cX10_countOfKind 35 = .ok (.ireturn, 1) := by decide +kernel
theorem dX10_countOfKind_36 : decode cX10_countOfKind 36 = .ok (.aload_n 0, 1) := by decide +kernel
theorem dX10_countOfKind_37 : decode cX10_countOfKind 37 = .ok (.getfield 31, 3) := by decide +kernel
theorem dX10_countOfKind_40 : decode cX10_countOfKind 40 = .ok (.invokevirtual 96, 3) := by decide +kernel
theorem dX10_countOfKind_43 : decode cX10_countOfKind 43 = .ok (.ireturn, 1) := by decide +kernel
theorem dX10_countOfKind_44 : decode cX10_countOfKind 44 = .ok (.aload_n 0, 1) := by decide +kernel
theorem dX10_countOfKind_45 : decode cX10_countOfKind 45 = .ok (.getfield 34, 3) := by decide +kernel
theorem dX10_countOfKind_48 : decode cX10_countOfKind 48 = .ok (.invokevirtual 96, 3) := by decide +kernel
theorem dX10_countOfKind_51 : decode cX10_countOfKind 51 = .ok (.ireturn, 1) := by decide +kernel
def k_countOfKind (p1 : Int32) (X : CX) (S : CT) : Int32 :=
    if p1 = 0 then
      (nS X 25 0)
    else
    if p1 = 1 then
      (nS X 26 0)
    else
    (nS X 27 0)
abbrev rm_X10_countOfKind : Room := { frames := 1, cells := 0, slots := 0, locals := 20 }
set_option maxRecDepth 100000 in
set_option maxHeartbeats 4000000 in
theorem ck_countOfKind {l : Launch} {k : KC} (hl : l.stackTraces = false) {X : CX} {S : CT} (hX : XOK X) {p1 : Int32}  : MC l k yX10_countOfKind (.code yX10_countOfKind cX10_countOfKind 2 (some .int)) rm_X10_countOfKind [(vr X 11 0), .int p1] (cW k X S) (pR (some (.int (k_countOfKind p1 X S))) (cW k X S)) := by
  refine MC.of 0 hl (by decide) (by simp only [lg_sl_vr, lg_sl_i, lg_sl_l, lg_sl_0]; exact Nat.le_of_ble_eq_true rfl) ?_
  intro p e s m args below meth c A Q G B B2 hout
  simp only [lp_args_vr, lp_args_i, lp_args_l, lp_args_0]
  show Wx p l e rm_X10_countOfKind s m args below meth c k A 2 Q 0 0 0 [some ((vr X 11 0)), some (.int p1)] [] (cW k X S)
  refine x_iload1 (pc := 0) G dX10_countOfKind_0 ?_
  rcases Decidable.em (p1 = 0) with c1 | c1
  · refine x_lookup (pc := 1) (x := p1) (off := 27) (tgt := 28) G dX10_countOfKind_1 (by decide) (by rw [c1]; decide) rfl ?_
    refine z_aload0 (pc := 28) G vr_r dX10_countOfKind_28 ?_
    refine z_g (pc := 29) (f := 357) (x := 0) (v := (aR X 25 0)) G kb_11 gb_X10_28 rfl hX.1 hX.l11 cr_357 dX10_countOfKind_29 ?_
    refine z_size (pc := 32) (Li := 25) (x := 0) G hX.1 hX.lw25 q_ml_X10_96 ⟨Nat.le_of_ble_eq_true rfl, Nat.le_of_ble_eq_true rfl⟩ (Nat.le_of_ble_eq_true rfl) dX10_countOfKind_32 ?_
    exact x_iret (pc := 35) G B rfl dX10_countOfKind_35 ⟨by rw [k_countOfKind, if_pos c1], rfl⟩
  rcases Decidable.em (p1 = 1) with c2 | c2
  · refine x_lookup (pc := 1) (x := p1) (off := 35) (tgt := 36) G dX10_countOfKind_1 (by decide) (by rw [c2]; decide) rfl ?_
    refine z_aload0 (pc := 36) G vr_r dX10_countOfKind_36 ?_
    refine z_g (pc := 37) (f := 358) (x := 0) (v := (aR X 26 0)) G kb_11 gb_X10_31 rfl hX.1 hX.l11 cr_358 dX10_countOfKind_37 ?_
    refine z_size (pc := 40) (Li := 26) (x := 0) G hX.1 hX.lw26 q_ml_X10_96 ⟨Nat.le_of_ble_eq_true rfl, Nat.le_of_ble_eq_true rfl⟩ (Nat.le_of_ble_eq_true rfl) dX10_countOfKind_40 ?_
    exact x_iret (pc := 43) G B rfl dX10_countOfKind_43 ⟨by rw [k_countOfKind, if_neg c1, if_pos c2], rfl⟩
  refine x_lookup (pc := 1) (x := p1) (off := 43) (tgt := 44) G dX10_countOfKind_1 (by decide) (by rw [lv_osw c1 (by decide), lv_osw c2 (by decide)]; rfl) rfl ?_
  refine z_aload0 (pc := 44) G vr_r dX10_countOfKind_44 ?_
  refine z_g (pc := 45) (f := 359) (x := 0) (v := (aR X 27 0)) G kb_11 gb_X10_34 rfl hX.1 hX.l11 cr_359 dX10_countOfKind_45 ?_
  refine z_size (pc := 48) (Li := 27) (x := 0) G hX.1 hX.lw27 q_ml_X10_96 ⟨Nat.le_of_ble_eq_true rfl, Nat.le_of_ble_eq_true rfl⟩ (Nat.le_of_ble_eq_true rfl) dX10_countOfKind_48 ?_
  exact x_iret (pc := 51) G B rfl dX10_countOfKind_51 ⟨by rw [k_countOfKind, if_neg c1, if_neg c2], rfl⟩
theorem dX10_absent_0 : decode cX10_absent 0 = .ok (.aload_n 0, 1) := by decide +kernel
theorem dX10_absent_1 : decode cX10_absent 1 = .ok (.iload_n 1, 1) := by decide +kernel
theorem dX10_absent_2 : decode cX10_absent 2 = .ok (.invokevirtual 87, 3) := by decide +kernel
theorem dX10_absent_5 : decode cX10_absent 5 = .ok (.astore 4, 2) := by decide +kernel
theorem dX10_absent_7 : decode cX10_absent 7 = .ok (.aload_n 0, 1) := by decide +kernel
theorem dX10_absent_8 : decode cX10_absent 8 = .ok (.iload_n 3, 1) := by decide +kernel
theorem dX10_absent_9 : decode cX10_absent 9 = .ok (.invokevirtual 87, 3) := by decide +kernel
theorem dX10_absent_12 : decode cX10_absent 12 = .ok (.astore 5, 2) := by decide +kernel
theorem dX10_absent_14 : decode cX10_absent 14 = .ok (.iload_n 2, 1) := by decide +kernel
theorem dX10_absent_15 : decode cX10_absent 15 = .ok (.iconst 0, 1) := by decide +kernel
theorem dX10_absent_16 : decode cX10_absent 16 = .ok (.sipush 1079, 3) := by decide +kernel
theorem dX10_absent_19 : decode cX10_absent 19 = .ok (.invokestatic 92, 3) := by decide +kernel
theorem dX10_absent_22 : decode cX10_absent 22 = .ok (.aload 4, 2) := by decide +kernel
theorem dX10_absent_24 : decode cX10_absent 24 = .ok (.aload 5, 2) := by decide +kernel
theorem dX10_absent_26 : decode cX10_absent 26 = .ok (.if_acmp .ne 13, 3) := by decide +kernel
theorem dX10_absent_29 : decode cX10_absent 29 = .ok (.new 115, 3) := by decide +kernel
theorem dX10_absent_32 : decode cX10_absent 32 = .ok (.dup, 1) := by decide +kernel
theorem dX10_absent_33 : decode cX10_absent 33 = .ok (.ldc 117, 2) := by decide +kernel
theorem dX10_absent_35 : decode cX10_absent 35 = .ok (.invokespecial 119, 3) := by decide +kernel
theorem dX10_absent_38 : decode cX10_absent 38 = .ok (.athrow, 1) := by decide +kernel
theorem dX10_absent_39 : decode cX10_absent 39 = .ok (.aload 4, 2) := by decide +kernel
theorem dX10_absent_41 : decode cX10_absent 41 = .ok (.iload_n 2, 1) := by decide +kernel
theorem dX10_absent_42 : decode cX10_absent 42 = .ok (.putfield 120, 3) := by decide +kernel
theorem dX10_absent_45 : decode cX10_absent 45 = .ok (.aload 4, 2) := by decide +kernel
theorem dX10_absent_47 : decode cX10_absent 47 = .ok (.aload 5, 2) := by decide +kernel
theorem dX10_absent_49 : decode cX10_absent 49 = .ok (.putfield 123, 3) := by decide +kernel
theorem dX10_absent_52 : decode cX10_absent 52 = .ok (.return_, 1) := by decide +kernel
def k_absent (p1 : Int32) (p2 : Int32) (p3 : Int32) (X : CX) (S : CT) : CT ⊕ String :=
    if P_num p1 (nS X 20 0) then
      if P_num p3 (nS X 20 0) then
        if P_in p2 0 1079 then
          if p1 = p3 then
            .inr "java/lang/IllegalArgumentException"
          else
          .inl (si (si S 195 p1 p2) 196 p1 p3)
        else
        .inr "java/lang/IllegalArgumentException"
      else
      .inr "java/lang/IndexOutOfBoundsException"
    else
    .inr "java/lang/IndexOutOfBoundsException"
abbrev rm_X10_absent : Room := { frames := 8, cells := 0, slots := 0, locals := 132 }
abbrev rmt_X10_absent : Room := { frames := 8, cells := 1, slots := 6, locals := 132 }
set_option maxRecDepth 100000 in
set_option maxHeartbeats 4000000 in
theorem ck_absent {l : Launch} {k : KC} (hl : l.stackTraces = false) {X : CX} {S : CT} (hX : XOK X) {p1 : Int32} {p2 : Int32} {p3 : Int32}  : MC l k yX10_absent (.code yX10_absent cX10_absent 6 none) rmt_X10_absent [(vr X 11 0), .int p1, .int p2, .int p3] (cW k X S) (pOv k X S (k_absent p1 p2 p3 X S)) := by
  refine MC.of 2 hl (by decide) (by simp only [lg_sl_vr, lg_sl_i, lg_sl_l, lg_sl_0]; exact Nat.le_of_ble_eq_true rfl) ?_
  intro p e s m args below meth c A Q G B B2 hout
  simp only [lp_args_vr, lp_args_i, lp_args_l, lp_args_0]
  show Wx p l e rmt_X10_absent s m args below meth c k A 6 Q 1 6 0 [some ((vr X 11 0)), some (.int p1), some (.int p2), some (.int p3), none, none] [] (cW k X S)
  refine z_aload0 (pc := 0) G vr_r dX10_absent_0 ?_
  refine x_iload1 (pc := 1) G dX10_absent_1 ?_
  rcases Decidable.em (¬ (P_num p1 (nS X 20 0))) with c1 | c1
  · exact z_cVt1 (pc := 2) G kb_11 hX.1 hX.l11 B B2 hout (no_personAt hl hX  c1) rfl q_ml_X10_87 h_X10_personAt ⟨Nat.le_of_ble_eq_true rfl, Nat.le_of_ble_eq_true rfl⟩ (Nat.le_of_ble_eq_true rfl) (Nat.le_refl _) (Nat.le_refl _) dX10_absent_2 (by rw [k_absent, if_neg c1]; exact ⟨rfl, rfl⟩)
  have c1 := Decidable.not_not.mp c1
  refine z_cV1 (pc := 2) G kb_11 hX.1 hX.l11 (ok_personAt hl hX  c1) rfl q_ml_X10_87 h_X10_personAt ⟨Nat.le_of_ble_eq_true rfl, Nat.le_of_ble_eq_true rfl⟩ (Nat.le_of_ble_eq_true rfl) (Nat.le_refl _) (Nat.le_refl _) dX10_absent_2 ?_
  refine z_astore4 (pc := 5) G vr_r dX10_absent_5 (Nat.le_of_ble_eq_true rfl) rfl ?_
  refine z_aload0 (pc := 7) G vr_r dX10_absent_7 ?_
  refine x_iload3 (pc := 8) G dX10_absent_8 ?_
  rcases Decidable.em (¬ (P_num p3 (nS X 20 0))) with c2 | c2
  · exact z_cVt1 (pc := 9) G kb_11 hX.1 hX.l11 B B2 hout (no_personAt hl hX  c2) rfl q_ml_X10_87 h_X10_personAt ⟨Nat.le_of_ble_eq_true rfl, Nat.le_of_ble_eq_true rfl⟩ (Nat.le_of_ble_eq_true rfl) (Nat.le_refl _) (Nat.le_refl _) dX10_absent_9 (by rw [k_absent, if_pos c1, if_neg c2]; exact ⟨rfl, rfl⟩)
  have c2 := Decidable.not_not.mp c2
  refine z_cV1 (pc := 9) G kb_11 hX.1 hX.l11 (ok_personAt hl hX  c2) rfl q_ml_X10_87 h_X10_personAt ⟨Nat.le_of_ble_eq_true rfl, Nat.le_of_ble_eq_true rfl⟩ (Nat.le_of_ble_eq_true rfl) (Nat.le_refl _) (Nat.le_refl _) dX10_absent_9 ?_
  refine z_astore5 (pc := 12) G vr_r dX10_absent_12 (Nat.le_of_ble_eq_true rfl) lp_c2_vr ?_
  refine x_iload2 (pc := 14) G dX10_absent_14 ?_
  refine x_iconst (pc := 15) (v := 0) G dX10_absent_15 ic_0 ?_
  refine x_sipush (pc := 16) (v := 1079) G dX10_absent_16 sp_1079 ?_
  rcases Decidable.em (¬ (P_in p2 0 1079)) with c3 | c3
  · exact x_cSt3 (pc := 19) G B B2 hout (no_requireRange hl c3) q_ml_X10_92 h_X10_requireRange ⟨Nat.le_of_ble_eq_true rfl, Nat.le_of_ble_eq_true rfl⟩ (Nat.le_of_ble_eq_true rfl) (Nat.le_refl _) (Nat.le_refl _) dX10_absent_19 (by rw [k_absent, if_pos c1, if_pos c2, if_neg c3]; exact ⟨rfl, rfl⟩)
  have c3 := Decidable.not_not.mp c3
  refine x_cSv3 (pc := 19) G (ok_requireRange hl c3) q_ml_X10_92 h_X10_requireRange ⟨Nat.le_of_ble_eq_true rfl, Nat.le_of_ble_eq_true rfl⟩ (Nat.le_of_ble_eq_true rfl) (Nat.le_refl _) (Nat.le_refl _) dX10_absent_19 ?_
  refine z_aload4 (pc := 22) G vr_r dX10_absent_22 ?_
  refine z_aload5 (pc := 24) G vr_r dX10_absent_24 ?_
  refine z_acmp_ne (pc := 26) (tgt := 39) (kd := 6) (x := p1) (y := p3) G (Or.inr (hX.el20 c1)) (Or.inr (hX.el20 c2)) dX10_absent_26 rfl (fun c4 => ?_) (fun c4 => ?_)
  · refine z_aload4 (pc := 39) G vr_r dX10_absent_39 ?_
    refine x_iload2 (pc := 41) G dX10_absent_41 ?_
    refine z_pI (pc := 42) (f := 195) G kb_6 gb_X10_120 rfl hX.1 (hX.el20 c1) rfl (cr_195.trans (congrArg Value.int ci_ss)) rfl rfl dX10_absent_42 ?_
    refine z_aload4 (pc := 45) G vr_r dX10_absent_45 ?_
    refine z_aload5 (pc := 47) G vr_r dX10_absent_47 ?_
    refine z_pR (pc := 49) (f := 196) G kb_6 gb_X10_123 rfl hX.1 (hX.el20 c1) rfl (cr_196.trans (congrArg (vr X 6) ci_ss)) (Or.inl ⟨_, rfl⟩) dX10_absent_49 ?_
    exact x_vret (pc := 52) G B rfl dX10_absent_52 (by rw [k_absent, if_pos c1, if_pos c2, if_pos c3, if_neg c4]; exact ⟨rfl, rfl⟩)
  exact z_IAE (pc := 29) G B B2 hout (is := 117) (text := "nobody is their own substitute") (by decide +kernel) dX10_absent_29 dX10_absent_32 (Or.inl ⟨dX10_absent_33, dX10_absent_35, dX10_absent_38⟩) ⟨Nat.le_of_ble_eq_true rfl, Nat.le_of_ble_eq_true rfl⟩ (Nat.le_of_ble_eq_true rfl) (Nat.le_of_ble_eq_true rfl) (by rw [k_absent, if_pos c1, if_pos c2, if_pos c3, if_pos c4]; exact ⟨rfl, rfl⟩)
theorem dX10_controller_0 : decode cX10_controller 0 = .ok (.aload_n 0, 1) := by decide +kernel
theorem dX10_controller_1 : decode cX10_controller 1 = .ok (.iload_n 1, 1) := by decide +kernel
theorem dX10_controller_2 : decode cX10_controller 2 = .ok (.invokevirtual 87, 3) := by decide +kernel
theorem dX10_controller_5 : decode cX10_controller 5 = .ok (.astore_n 2, 1) := by decide +kernel
theorem dX10_controller_6 : decode cX10_controller 6 = .ok (.aload_n 0, 1) := by decide +kernel
theorem dX10_controller_7 : decode cX10_controller 7 = .ok (.getfield 45, 3) := by decide +kernel
theorem dX10_controller_10 : decode cX10_controller 10 = .ok (.ifnonnull 7, 3) := by decide +kernel
theorem dX10_controller_13 : decode cX10_controller 13 = .ok (.iconst 0, 1) := by decide +kernel
theorem dX10_controller_14 : decode cX10_controller 14 = .ok (.goto 10, 3) := by decide +kernel
theorem dX10_controller_17 : decode cX10_controller 17 = .ok (.aload_n 0, 1) := by decide +kernel
theorem dX10_controller_18 : decode cX10_controller 18 = .ok (.getfield 45, 3) := by decide +kernel
theorem dX10_controller_21 : decode cX10_controller 21 = .ok (.getfield 112, 3) := by decide +kernel
theorem dX10_controller_24 : decode cX10_controller 24 = .ok (.istore_n 3, 1) := by decide +kernel
theorem dX10_controller_25 : decode cX10_controller 25 = .ok (.aload_n 0, 1) := by decide +kernel
theorem dX10_controller_26 : decode cX10_controller 26 = .ok (.aload_n 2, 1) := by decide +kernel
theorem dX10_controller_27 : decode cX10_controller 27 = .ok (.putfield 45, 3) := by decide +kernel
theorem dX10_controller_30 : decode cX10_controller 30 = .ok (.iload_n 3, 1) := by decide +kernel
theorem dX10_controller_31 : decode cX10_controller 31 = .ok (.ireturn, 1) := by decide +kernel
def k_controller (p1 : Int32) (X : CX) (S : CT) : (Int32 × CT) ⊕ String :=
    if P_num p1 (nS X 20 0) then
      if (ci S 362 0) = -1 then
        .inl (0, (si S 362 0 p1))
      else
      .inl ((xi X 192 (ci S 362 0)), (si S 362 0 p1))
    else
    .inr "java/lang/IndexOutOfBoundsException"
abbrev rm_X10_controller : Room := { frames := 8, cells := 0, slots := 0, locals := 132 }
abbrev rmt_X10_controller : Room := { frames := 8, cells := 1, slots := 6, locals := 132 }
set_option maxRecDepth 100000 in
set_option maxHeartbeats 4000000 in
theorem ck_controller {l : Launch} {k : KC} (hl : l.stackTraces = false) {X : CX} {S : CT} (hX : XOK X) {p1 : Int32} (hT : TS X S)  : MC l k yX10_controller (.code yX10_controller cX10_controller 4 (some .int)) rmt_X10_controller [(vr X 11 0), .int p1] (cW k X S) (pOi k X S (k_controller p1 X S)) := by
  refine MC.of 2 hl (by decide) (by simp only [lg_sl_vr, lg_sl_i, lg_sl_l, lg_sl_0]; exact Nat.le_of_ble_eq_true rfl) ?_
  intro p e s m args below meth c A Q G B B2 hout
  simp only [lp_args_vr, lp_args_i, lp_args_l, lp_args_0]
  show Wx p l e rmt_X10_controller s m args below meth c k A 4 Q 1 6 0 [some ((vr X 11 0)), some (.int p1), none, none] [] (cW k X S)
  refine z_aload0 (pc := 0) G vr_r dX10_controller_0 ?_
  refine x_iload1 (pc := 1) G dX10_controller_1 ?_
  rcases Decidable.em (¬ (P_num p1 (nS X 20 0))) with c1 | c1
  · exact z_cVt1 (pc := 2) G kb_11 hX.1 hX.l11 B B2 hout (no_personAt hl hX  c1) rfl q_ml_X10_87 h_X10_personAt ⟨Nat.le_of_ble_eq_true rfl, Nat.le_of_ble_eq_true rfl⟩ (Nat.le_of_ble_eq_true rfl) (Nat.le_refl _) (Nat.le_refl _) dX10_controller_2 (by rw [k_controller, if_neg c1]; exact ⟨rfl, rfl⟩)
  have c1 := Decidable.not_not.mp c1
  refine z_cV1 (pc := 2) G kb_11 hX.1 hX.l11 (ok_personAt hl hX  c1) rfl q_ml_X10_87 h_X10_personAt ⟨Nat.le_of_ble_eq_true rfl, Nat.le_of_ble_eq_true rfl⟩ (Nat.le_of_ble_eq_true rfl) (Nat.le_refl _) (Nat.le_refl _) dX10_controller_2 ?_
  refine z_astore2 (pc := 5) G vr_r dX10_controller_5 (Nat.le_of_ble_eq_true rfl) rfl ?_
  refine z_aload0 (pc := 6) G vr_r dX10_controller_6 ?_
  refine z_g (pc := 7) (f := 362) (x := 0) (v := (vr X 6 (ci S 362 0))) G kb_11 gb_X10_45 rfl hX.1 hX.l11 cr_362 dX10_controller_7 ?_
  refine z_ifnonnull (pc := 10) (tgt := 17) (kd := 6) (x := (ci S 362 0)) G dX10_controller_10 rfl (fun c2 => ?_) (fun c2 => ?_)
  · refine z_aload0 (pc := 17) G vr_r dX10_controller_17 ?_
    refine z_g (pc := 18) (f := 362) (x := 0) (v := (vr X 6 (ci S 362 0))) G kb_11 gb_X10_45 rfl hX.1 hX.l11 cr_362 dX10_controller_18 ?_
    refine z_g (pc := 21) (f := 192) (x := (ci S 362 0)) (v := (.int (xi X 192 (ci S 362 0)))) G kb_6 gb_X10_112 rfl hX.1 (oI.lI hT.ctl c2) cr_192 dX10_controller_21 ?_
    refine x_istore3 (pc := 24) G dX10_controller_24 (Nat.le_of_ble_eq_true rfl) lp_c2_vr ?_
    refine z_aload0 (pc := 25) G vr_r dX10_controller_25 ?_
    refine z_aload2 (pc := 26) G vr_r dX10_controller_26 ?_
    refine z_pR (pc := 27) (f := 362) G kb_11 gb_X10_45 rfl hX.1 hX.l11 rfl (cr_362.trans (congrArg (vr X 6) ci_ss)) (Or.inl ⟨_, rfl⟩) dX10_controller_27 ?_
    refine x_iload3 (pc := 30) G dX10_controller_30 ?_
    exact x_iret (pc := 31) G B rfl dX10_controller_31 (by rw [k_controller, if_pos c1, if_neg c2]; exact ⟨rfl, rfl⟩)
  refine x_iconst (pc := 13) (v := 0) G dX10_controller_13 ic_0 ?_
  refine x_goto (pc := 14) (tgt := 24) G dX10_controller_14 rfl ?_
  refine x_istore3 (pc := 24) G dX10_controller_24 (Nat.le_of_ble_eq_true rfl) lp_c2_vr ?_
  refine z_aload0 (pc := 25) G vr_r dX10_controller_25 ?_
  refine z_aload2 (pc := 26) G vr_r dX10_controller_26 ?_
  refine z_pR (pc := 27) (f := 362) G kb_11 gb_X10_45 rfl hX.1 hX.l11 rfl (cr_362.trans (congrArg (vr X 6) ci_ss)) (Or.inl ⟨_, rfl⟩) dX10_controller_27 ?_
  refine x_iload3 (pc := 30) G dX10_controller_30 ?_
  exact x_iret (pc := 31) G B rfl dX10_controller_31 (by rw [k_controller, if_pos c1, if_pos c2]; exact ⟨rfl, rfl⟩)
theorem dX10_budget_0 : decode cX10_budget 0 = .ok (.aload_n 0, 1) := by decide +kernel
theorem dX10_budget_1 : decode cX10_budget 1 = .ok (.iload_n 1, 1) := by decide +kernel
theorem dX10_budget_2 : decode cX10_budget 2 = .ok (.iload_n 2, 1) := by decide +kernel
theorem dX10_budget_3 : decode cX10_budget 3 = .ok (.invokevirtual 126, 3) := by decide +kernel
theorem dX10_budget_6 : decode cX10_budget 6 = .ok (.astore 4, 2) := by decide +kernel
theorem dX10_budget_8 : decode cX10_budget 8 = .ok (.iload_n 3, 1) := by decide +kernel
theorem dX10_budget_9 : decode cX10_budget 9 = .ok (.iconst 0, 1) := by decide +kernel
theorem dX10_budget_10 : decode cX10_budget 10 = .ok (.ldc 130, 2) := by decide +kernel
theorem dX10_budget_12 : decode cX10_budget 12 = .ok (.invokestatic 92, 3) := by decide +kernel
theorem dX10_budget_15 : decode cX10_budget 15 = .ok (.aload 4, 2) := by decide +kernel
theorem dX10_budget_17 : decode cX10_budget 17 = .ok (.getfield 131, 3) := by decide +kernel
theorem dX10_budget_20 : decode cX10_budget 20 = .ok (.lstore 5, 2) := by decide +kernel
theorem dX10_budget_22 : decode cX10_budget 22 = .ok (.aload 4, 2) := by decide +kernel
theorem dX10_budget_24 : decode cX10_budget 24 = .ok (.iload_n 3, 1) := by decide +kernel
theorem dX10_budget_25 : decode cX10_budget 25 = .ok (.i2l, 1) := by decide +kernel
theorem dX10_budget_26 : decode cX10_budget 26 = .ok (.putfield 131, 3) := by decide +kernel
theorem dX10_budget_29 : decode cX10_budget 29 = .ok (.lload 5, 2) := by decide +kernel
theorem dX10_budget_31 : decode cX10_budget 31 = .ok (.lreturn, 1) := by decide +kernel
def k_budget (p1 : Int32) (p2 : Int32) (p3 : Int32) (X : CX) (S : CT) : (Int64 × CT) ⊕ String :=
    if P_num p1 (nS X 21 0) ∧ P_num p2 (nS X 28 p1) then
      if P_in p3 0 100000000 then
        .inl ((cj S 224 (3 * p1 + p2)), (sj S 224 (3 * p1 + p2) (p3.toInt64)))
      else
      .inr "java/lang/IllegalArgumentException"
    else
    .inr "java/lang/IndexOutOfBoundsException"
abbrev rm_X10_budget : Room := { frames := 9, cells := 0, slots := 0, locals := 154 }
abbrev rmt_X10_budget : Room := { frames := 9, cells := 1, slots := 6, locals := 154 }
set_option maxRecDepth 100000 in
set_option maxHeartbeats 4000000 in
theorem ck_budget {l : Launch} {k : KC} (hl : l.stackTraces = false) {X : CX} {S : CT} (hX : XOK X) {p1 : Int32} {p2 : Int32} {p3 : Int32}  : MC l k yX10_budget (.code yX10_budget cX10_budget 7 (some .long)) rmt_X10_budget [(vr X 11 0), .int p1, .int p2, .int p3] (cW k X S) (pOl k X S (k_budget p1 p2 p3 X S)) := by
  refine MC.of 3 hl (by decide) (by simp only [lg_sl_vr, lg_sl_i, lg_sl_l, lg_sl_0]; exact Nat.le_of_ble_eq_true rfl) ?_
  intro p e s m args below meth c A Q G B B2 hout
  simp only [lp_args_vr, lp_args_i, lp_args_l, lp_args_0]
  show Wx p l e rmt_X10_budget s m args below meth c k A 7 Q 1 6 0 [some ((vr X 11 0)), some (.int p1), some (.int p2), some (.int p3), none, none, none] [] (cW k X S)
  refine z_aload0 (pc := 0) G vr_r dX10_budget_0 ?_
  refine x_iload1 (pc := 1) G dX10_budget_1 ?_
  refine x_iload2 (pc := 2) G dX10_budget_2 ?_
  rcases Decidable.em (¬ (P_num p1 (nS X 21 0) ∧ P_num p2 (nS X 28 p1))) with c1 | c1
  · exact z_cVt2 (pc := 3) G kb_11 hX.1 hX.l11 B B2 hout (no_purseAt hl hX  c1) rfl q_ml_X10_126 h_X10_purseAt ⟨Nat.le_of_ble_eq_true rfl, Nat.le_of_ble_eq_true rfl⟩ (Nat.le_of_ble_eq_true rfl) (Nat.le_refl _) (Nat.le_refl _) dX10_budget_3 (by rw [k_budget, if_neg c1]; exact ⟨rfl, rfl⟩)
  have c1 := Decidable.not_not.mp c1
  refine z_cV2 (pc := 3) G kb_11 hX.1 hX.l11 (ok_purseAt hl hX  c1) rfl q_ml_X10_126 h_X10_purseAt ⟨Nat.le_of_ble_eq_true rfl, Nat.le_of_ble_eq_true rfl⟩ (Nat.le_of_ble_eq_true rfl) (Nat.le_refl _) (Nat.le_refl _) dX10_budget_3 ?_
  refine z_astore4 (pc := 6) G vr_r dX10_budget_6 (Nat.le_of_ble_eq_true rfl) rfl ?_
  refine x_iload3 (pc := 8) G dX10_budget_8 ?_
  refine x_iconst (pc := 9) (v := 0) G dX10_budget_9 ic_0 ?_
  refine x_ldc (pc := 10) G q_cs_X10_130 dX10_budget_10 ?_
  rcases Decidable.em (¬ (P_in p3 0 100000000)) with c2 | c2
  · exact x_cSt3 (pc := 12) G B B2 hout (no_requireRange hl c2) q_ml_X10_92 h_X10_requireRange ⟨Nat.le_of_ble_eq_true rfl, Nat.le_of_ble_eq_true rfl⟩ (Nat.le_of_ble_eq_true rfl) (Nat.le_refl _) (Nat.le_refl _) dX10_budget_12 (by rw [k_budget, if_pos c1, if_neg c2]; exact ⟨rfl, rfl⟩)
  have c2 := Decidable.not_not.mp c2
  refine x_cSv3 (pc := 12) G (ok_requireRange hl c2) q_ml_X10_92 h_X10_requireRange ⟨Nat.le_of_ble_eq_true rfl, Nat.le_of_ble_eq_true rfl⟩ (Nat.le_of_ble_eq_true rfl) (Nat.le_refl _) (Nat.le_refl _) dX10_budget_12 ?_
  refine z_aload4 (pc := 15) G vr_r dX10_budget_15 ?_
  refine z_g (pc := 17) (f := 224) (x := (3 * p1 + p2)) (v := (.long (cj S 224 (3 * p1 + p2)))) G kb_7 gb_X10_131 rfl hX.1 (hX.el28 (hX.el21 c1.1) c1.2) cr_224 dX10_budget_17 ?_
  refine x_lstore5 (pc := 20) G dX10_budget_20 (Nat.le_of_ble_eq_true rfl) lp_c2_vr ?_
  refine z_aload4 (pc := 22) G vr_r dX10_budget_22 ?_
  refine x_iload3 (pc := 24) G dX10_budget_24 ?_
  refine x_i2l (pc := 25) G dX10_budget_25 ?_
  refine z_pJ (pc := 26) (f := 224) G kb_7 gb_X10_131 rfl hX.1 (hX.el28 (hX.el21 c1.1) c1.2) rfl (cr_224.trans (congrArg Value.long cj_ss)) rfl rfl dX10_budget_26 ?_
  refine x_lload5 (pc := 29) G dX10_budget_29 ?_
  exact x_lret (pc := 31) G B rfl dX10_budget_31 (by rw [k_budget, if_pos c1, if_pos c2]; exact ⟨rfl, rfl⟩)
theorem dX10_transfer_0 : decode cX10_transfer 0 = .ok (.aload_n 0, 1) := by decide +kernel
theorem dX10_transfer_1 : decode cX10_transfer 1 = .ok (.iload_n 1, 1) := by decide +kernel
theorem dX10_transfer_2 : decode cX10_transfer 2 = .ok (.iload_n 3, 1) := by decide +kernel
theorem dX10_transfer_3 : decode cX10_transfer 3 = .ok (.invokevirtual 126, 3) := by decide +kernel
theorem dX10_transfer_6 : decode cX10_transfer 6 = .ok (.astore 5, 2) := by decide +kernel
theorem dX10_transfer_8 : decode cX10_transfer 8 = .ok (.aload_n 0, 1) := by decide +kernel
theorem dX10_transfer_9 : decode cX10_transfer 9 = .ok (.iload_n 2, 1) := by decide +kernel
theorem dX10_transfer_10 : decode cX10_transfer 10 = .ok (.iload_n 3, 1) := by decide +kernel
theorem dX10_transfer_11 : decode cX10_transfer 11 = .ok (.invokevirtual 126, 3) := by decide +kernel
theorem dX10_transfer_14 : decode cX10_transfer 14 = .ok (.astore 6, 2) := by decide +kernel
theorem dX10_transfer_16 : decode cX10_transfer 16 = .ok (.iload 4, 2) := by decide +kernel
theorem dX10_transfer_18 : decode cX10_transfer 18 = .ok (.iconst 1, 1) := by decide +kernel
theorem dX10_transfer_19 : decode cX10_transfer 19 = .ok (.ldc 130, 2) := by decide +kernel
theorem dX10_transfer_21 : decode cX10_transfer 21 = .ok (.invokestatic 92, 3) := by decide +kernel
theorem dX10_transfer_24 : decode cX10_transfer 24 = .ok (.aload 5, 2) := by decide +kernel
theorem dX10_transfer_26 : decode cX10_transfer 26 = .ok (.aload 6, 2) := by decide +kernel
theorem dX10_transfer_28 : decode cX10_transfer 28 = .ok (.if_acmp .ne 13, 3) := by decide +kernel
theorem dX10_transfer_31 : decode cX10_transfer 31 = .ok (.new 115, 3) := by decide +kernel
theorem dX10_transfer_34 : decode cX10_transfer 34 = .ok (.dup, 1) := by decide +kernel
theorem dX10_transfer_35 : decode cX10_transfer 35 = .ok (.ldc 136, 2) := by decide +kernel
theorem dX10_transfer_37 : decode cX10_transfer 37 = .ok (.invokespecial 119, 3) := by decide +kernel
theorem dX10_transfer_40 : decode cX10_transfer 40 = .ok (.athrow, 1) := by decide +kernel
theorem dX10_transfer_41 : decode cX10_transfer 41 = .ok (.iload 4, 2) := by decide +kernel
theorem dX10_transfer_43 : decode cX10_transfer 43 = .ok (.i2l, 1) := by decide +kernel
theorem dX10_transfer_44 : decode cX10_transfer 44 = .ok (.aload 5, 2) := by decide +kernel
theorem dX10_transfer_46 : decode cX10_transfer 46 = .ok (.invokevirtual 138, 3) := by decide +kernel
theorem dX10_transfer_49 : decode cX10_transfer 49 = .ok (.lcmp, 1) := by decide +kernel
theorem dX10_transfer_50 : decode cX10_transfer 50 = .ok (.ifCond .le 13, 3) := by decide +kernel
theorem dX10_transfer_53 : decode cX10_transfer 53 = .ok (.new 100, 3) := by decide +kernel
theorem dX10_transfer_56 : decode cX10_transfer 56 = .ok (.dup, 1) := by decide +kernel
theorem dX10_transfer_57 : decode cX10_transfer 57 = .ok (.ldc 142, 2) := by decide +kernel
theorem dX10_transfer_59 : decode cX10_transfer 59 = .ok (.invokespecial 104, 3) := by decide +kernel
theorem dX10_transfer_62 : decode cX10_transfer 62 = .ok (.athrow, 1) := by decide +kernel
theorem dX10_transfer_63 : decode cX10_transfer 63 = .ok (.aload 5, 2) := by decide +kernel
theorem dX10_transfer_65 : decode cX10_transfer 65 = .ok (.dup, 1) := by decide +kernel
theorem dX10_transfer_66 : decode cX10_transfer 66 = .ok (.getfield 131, 3) := by decide +kernel
theorem dX10_transfer_69 : decode cX10_transfer 69 = .ok (.iload 4, 2) := by decide +kernel
theorem dX10_transfer_71 : decode cX10_transfer 71 = .ok (.i2l, 1) := by decide +kernel
theorem dX10_transfer_72 : decode cX10_transfer 72 = .ok (.lsub, 1) := by decide +kernel
theorem dX10_transfer_73 : decode cX10_transfer 73 = .ok (.putfield 131, 3) := by decide +kernel
theorem dX10_transfer_76 : decode cX10_transfer 76 = .ok (.aload 6, 2) := by decide +kernel
theorem dX10_transfer_78 : decode cX10_transfer 78 = .ok (.dup, 1) := by decide +kernel
theorem dX10_transfer_79 : decode cX10_transfer 79 = .ok (.getfield 131, 3) := by decide +kernel
theorem dX10_transfer_82 : decode cX10_transfer 82 = .ok (.iload 4, 2) := by decide +kernel
theorem dX10_transfer_84 : decode cX10_transfer 84 = .ok (.i2l, 1) := by decide +kernel
theorem dX10_transfer_85 : decode cX10_transfer 85 = .ok (.ladd, 1) := by decide +kernel
theorem dX10_transfer_86 : decode cX10_transfer 86 = .ok (.putfield 131, 3) := by decide +kernel
theorem dX10_transfer_89 : decode cX10_transfer 89 = .ok (.aload 6, 2) := by decide +kernel
theorem dX10_transfer_91 : decode cX10_transfer 91 = .ok (.invokevirtual 138, 3) := by decide +kernel
theorem dX10_transfer_94 : decode cX10_transfer 94 = .ok (.lreturn, 1) := by decide +kernel
def k_transfer (p1 : Int32) (p2 : Int32) (p3 : Int32) (p4 : Int32) (X : CX) (S : CT) : (Int64 × CT) ⊕ String :=
    if P_num p1 (nS X 21 0) ∧ P_num p3 (nS X 28 p1) then
      if P_num p2 (nS X 21 0) ∧ P_num p3 (nS X 28 p2) then
        if P_in p4 1 100000000 then
          if (3 * p1 + p3) = (3 * p2 + p3) then
            .inr "java/lang/IllegalArgumentException"
          else
          if (lg_cmp (p4.toInt64) (k_free (3 * p1 + p3) X S)) ≤ 0 then
            .inl ((k_free (3 * p2 + p3) X (sj (sj S 224 (3 * p1 + p3) ((cj S 224 (3 * p1 + p3)) - (p4.toInt64))) 224 (3 * p2 + p3) ((cj (sj S 224 (3 * p1 + p3) ((cj S 224 (3 * p1 + p3)) - (p4.toInt64))) 224 (3 * p2 + p3)) + (p4.toInt64)))), (sj (sj S 224 (3 * p1 + p3) ((cj S 224 (3 * p1 + p3)) - (p4.toInt64))) 224 (3 * p2 + p3) ((cj (sj S 224 (3 * p1 + p3) ((cj S 224 (3 * p1 + p3)) - (p4.toInt64))) 224 (3 * p2 + p3)) + (p4.toInt64))))
          else
          .inr "java/lang/IllegalStateException"
        else
        .inr "java/lang/IllegalArgumentException"
      else
      .inr "java/lang/IndexOutOfBoundsException"
    else
    .inr "java/lang/IndexOutOfBoundsException"
abbrev rm_X10_transfer : Room := { frames := 9, cells := 0, slots := 0, locals := 154 }
abbrev rmt_X10_transfer : Room := { frames := 9, cells := 1, slots := 6, locals := 154 }
set_option maxRecDepth 100000 in
set_option maxHeartbeats 4000000 in
theorem ck_transfer {l : Launch} {k : KC} (hl : l.stackTraces = false) {X : CX} {S : CT} (hX : XOK X) {p1 : Int32} {p2 : Int32} {p3 : Int32} {p4 : Int32}  : MC l k yX10_transfer (.code yX10_transfer cX10_transfer 7 (some .long)) rmt_X10_transfer [(vr X 11 0), .int p1, .int p2, .int p3, .int p4] (cW k X S) (pOl k X S (k_transfer p1 p2 p3 p4 X S)) := by
  refine MC.of 2 hl (by decide) (by simp only [lg_sl_vr, lg_sl_i, lg_sl_l, lg_sl_0]; exact Nat.le_of_ble_eq_true rfl) ?_
  intro p e s m args below meth c A Q G B B2 hout
  simp only [lp_args_vr, lp_args_i, lp_args_l, lp_args_0]
  show Wx p l e rmt_X10_transfer s m args below meth c k A 7 Q 1 6 0 [some ((vr X 11 0)), some (.int p1), some (.int p2), some (.int p3), some (.int p4), none, none] [] (cW k X S)
  refine z_aload0 (pc := 0) G vr_r dX10_transfer_0 ?_
  refine x_iload1 (pc := 1) G dX10_transfer_1 ?_
  refine x_iload3 (pc := 2) G dX10_transfer_2 ?_
  rcases Decidable.em (¬ (P_num p1 (nS X 21 0) ∧ P_num p3 (nS X 28 p1))) with c1 | c1
  · exact z_cVt2 (pc := 3) G kb_11 hX.1 hX.l11 B B2 hout (no_purseAt hl hX  c1) rfl q_ml_X10_126 h_X10_purseAt ⟨Nat.le_of_ble_eq_true rfl, Nat.le_of_ble_eq_true rfl⟩ (Nat.le_of_ble_eq_true rfl) (Nat.le_refl _) (Nat.le_refl _) dX10_transfer_3 (by rw [k_transfer, if_neg c1]; exact ⟨rfl, rfl⟩)
  have c1 := Decidable.not_not.mp c1
  refine z_cV2 (pc := 3) G kb_11 hX.1 hX.l11 (ok_purseAt hl hX  c1) rfl q_ml_X10_126 h_X10_purseAt ⟨Nat.le_of_ble_eq_true rfl, Nat.le_of_ble_eq_true rfl⟩ (Nat.le_of_ble_eq_true rfl) (Nat.le_refl _) (Nat.le_refl _) dX10_transfer_3 ?_
  refine z_astore5 (pc := 6) G vr_r dX10_transfer_6 (Nat.le_of_ble_eq_true rfl) rfl ?_
  refine z_aload0 (pc := 8) G vr_r dX10_transfer_8 ?_
  refine x_iload2 (pc := 9) G dX10_transfer_9 ?_
  refine x_iload3 (pc := 10) G dX10_transfer_10 ?_
  rcases Decidable.em (¬ (P_num p2 (nS X 21 0) ∧ P_num p3 (nS X 28 p2))) with c2 | c2
  · exact z_cVt2 (pc := 11) G kb_11 hX.1 hX.l11 B B2 hout (no_purseAt hl hX  c2) rfl q_ml_X10_126 h_X10_purseAt ⟨Nat.le_of_ble_eq_true rfl, Nat.le_of_ble_eq_true rfl⟩ (Nat.le_of_ble_eq_true rfl) (Nat.le_refl _) (Nat.le_refl _) dX10_transfer_11 (by rw [k_transfer, if_pos c1, if_neg c2]; exact ⟨rfl, rfl⟩)
  have c2 := Decidable.not_not.mp c2
  refine z_cV2 (pc := 11) G kb_11 hX.1 hX.l11 (ok_purseAt hl hX  c2) rfl q_ml_X10_126 h_X10_purseAt ⟨Nat.le_of_ble_eq_true rfl, Nat.le_of_ble_eq_true rfl⟩ (Nat.le_of_ble_eq_true rfl) (Nat.le_refl _) (Nat.le_refl _) dX10_transfer_11 ?_
  refine z_astore6 (pc := 14) G vr_r dX10_transfer_14 (Nat.le_of_ble_eq_true rfl) lp_c2_vr ?_
  refine x_iload4 (pc := 16) G dX10_transfer_16 ?_
  refine x_iconst (pc := 18) (v := 1) G dX10_transfer_18 ic_1 ?_
  refine x_ldc (pc := 19) G q_cs_X10_130 dX10_transfer_19 ?_
  rcases Decidable.em (¬ (P_in p4 1 100000000)) with c3 | c3
  · exact x_cSt3 (pc := 21) G B B2 hout (no_requireRange hl c3) q_ml_X10_92 h_X10_requireRange ⟨Nat.le_of_ble_eq_true rfl, Nat.le_of_ble_eq_true rfl⟩ (Nat.le_of_ble_eq_true rfl) (Nat.le_refl _) (Nat.le_refl _) dX10_transfer_21 (by rw [k_transfer, if_pos c1, if_pos c2, if_neg c3]; exact ⟨rfl, rfl⟩)
  have c3 := Decidable.not_not.mp c3
  refine x_cSv3 (pc := 21) G (ok_requireRange hl c3) q_ml_X10_92 h_X10_requireRange ⟨Nat.le_of_ble_eq_true rfl, Nat.le_of_ble_eq_true rfl⟩ (Nat.le_of_ble_eq_true rfl) (Nat.le_refl _) (Nat.le_refl _) dX10_transfer_21 ?_
  refine z_aload5 (pc := 24) G vr_r dX10_transfer_24 ?_
  refine z_aload6 (pc := 26) G vr_r dX10_transfer_26 ?_
  refine z_acmp_ne (pc := 28) (tgt := 41) (kd := 7) (x := (3 * p1 + p3)) (y := (3 * p2 + p3)) G (Or.inr (hX.el28 (hX.el21 c1.1) c1.2)) (Or.inr (hX.el28 (hX.el21 c2.1) c2.2)) dX10_transfer_28 rfl (fun c4 => ?_) (fun c4 => ?_)
  · refine x_iload4 (pc := 41) G dX10_transfer_41 ?_
    refine x_i2l (pc := 43) G dX10_transfer_43 ?_
    refine z_aload5 (pc := 44) G vr_r dX10_transfer_44 ?_
    refine z_cV0 (pc := 46) G kb_7 hX.1 (hX.el28 (hX.el21 c1.1) c1.2) (ck_free hl hX (hX.el28 (hX.el21 c1.1) c1.2) ) rfl q_ml_X10_138 h_X6_free ⟨Nat.le_of_ble_eq_true rfl, Nat.le_of_ble_eq_true rfl⟩ (Nat.le_of_ble_eq_true rfl) (Nat.le_refl _) (Nat.le_refl _) dX10_transfer_46 ?_
    refine x_lcmp (pc := 49) G dX10_transfer_49 ?_
    refine x_if_le (pc := 50) (y := 0) (tgt := 63) G dX10_transfer_50 rfl (fun c5 => ?_) (fun c5 => ?_)
    · refine z_aload5 (pc := 63) G vr_r dX10_transfer_63 ?_
      refine x_dup (pc := 65) G dX10_transfer_65 vr_cat ?_
      refine z_g (pc := 66) (f := 224) (x := (3 * p1 + p3)) (v := (.long (cj S 224 (3 * p1 + p3)))) G kb_7 gb_X10_131 rfl hX.1 (hX.el28 (hX.el21 c1.1) c1.2) cr_224 dX10_transfer_66 ?_
      refine x_iload4 (pc := 69) G dX10_transfer_69 ?_
      refine x_i2l (pc := 71) G dX10_transfer_71 ?_
      refine x_lsub (pc := 72) G dX10_transfer_72 ?_
      refine z_pJ (pc := 73) (f := 224) G kb_7 gb_X10_131 rfl hX.1 (hX.el28 (hX.el21 c1.1) c1.2) rfl (cr_224.trans (congrArg Value.long cj_ss)) rfl rfl dX10_transfer_73 ?_
      refine z_aload6 (pc := 76) G vr_r dX10_transfer_76 ?_
      refine x_dup (pc := 78) G dX10_transfer_78 vr_cat ?_
      refine z_g (pc := 79) (f := 224) (x := (3 * p2 + p3)) (v := (.long (cj (sj S 224 (3 * p1 + p3) ((cj S 224 (3 * p1 + p3)) - (p4.toInt64))) 224 (3 * p2 + p3)))) G kb_7 gb_X10_131 rfl hX.1 (hX.el28 (hX.el21 c2.1) c2.2) cr_224 dX10_transfer_79 ?_
      refine x_iload4 (pc := 82) G dX10_transfer_82 ?_
      refine x_i2l (pc := 84) G dX10_transfer_84 ?_
      refine x_ladd (pc := 85) G dX10_transfer_85 ?_
      refine z_pJ (pc := 86) (f := 224) G kb_7 gb_X10_131 rfl hX.1 (hX.el28 (hX.el21 c2.1) c2.2) rfl (cr_224.trans (congrArg Value.long cj_ss)) rfl rfl dX10_transfer_86 ?_
      refine z_aload6 (pc := 89) G vr_r dX10_transfer_89 ?_
      refine z_cV0 (pc := 91) G kb_7 hX.1 (hX.el28 (hX.el21 c2.1) c2.2) (ck_free hl hX (hX.el28 (hX.el21 c2.1) c2.2) ) rfl q_ml_X10_138 h_X6_free ⟨Nat.le_of_ble_eq_true rfl, Nat.le_of_ble_eq_true rfl⟩ (Nat.le_of_ble_eq_true rfl) (Nat.le_refl _) (Nat.le_refl _) dX10_transfer_91 ?_
      exact x_lret (pc := 94) G B rfl dX10_transfer_94 (by rw [k_transfer, if_pos c1, if_pos c2, if_pos c3, if_neg c4, if_pos c5]; exact ⟨rfl, rfl⟩)
    exact z_ISE (pc := 53) G B B2 hout (is := 142) (text := "so much is not free") (by decide +kernel) dX10_transfer_53 dX10_transfer_56 (Or.inl ⟨dX10_transfer_57, dX10_transfer_59, dX10_transfer_62⟩) ⟨Nat.le_of_ble_eq_true rfl, Nat.le_of_ble_eq_true rfl⟩ (Nat.le_of_ble_eq_true rfl) (Nat.le_of_ble_eq_true rfl) (by rw [k_transfer, if_pos c1, if_pos c2, if_pos c3, if_neg c4, if_neg c5]; exact ⟨rfl, rfl⟩)
  exact z_IAE (pc := 31) G B B2 hout (is := 136) (text := "both centres are the same") (by decide +kernel) dX10_transfer_31 dX10_transfer_34 (Or.inl ⟨dX10_transfer_35, dX10_transfer_37, dX10_transfer_40⟩) ⟨Nat.le_of_ble_eq_true rfl, Nat.le_of_ble_eq_true rfl⟩ (Nat.le_of_ble_eq_true rfl) (Nat.le_of_ble_eq_true rfl) (by rw [k_transfer, if_pos c1, if_pos c2, if_pos c3, if_pos c4]; exact ⟨rfl, rfl⟩)
theorem dX10_soft_0 : decode cX10_soft 0 = .ok (.aload_n 0, 1) := by decide +kernel
theorem dX10_soft_1 : decode cX10_soft 1 = .ok (.iload_n 1, 1) := by decide +kernel
theorem dX10_soft_2 : decode cX10_soft 2 = .ok (.invokevirtual 144, 3) := by decide +kernel
theorem dX10_soft_5 : decode cX10_soft 5 = .ok (.astore_n 3, 1) := by decide +kernel
theorem dX10_soft_6 : decode cX10_soft 6 = .ok (.aload_n 3, 1) := by decide +kernel
theorem dX10_soft_7 : decode cX10_soft 7 = .ok (.getfield 148, 3) := by decide +kernel
theorem dX10_soft_10 : decode cX10_soft 10 = .ok (.istore 4, 2) := by decide +kernel
theorem dX10_soft_12 : decode cX10_soft 12 = .ok (.aload_n 3, 1) := by decide +kernel
theorem dX10_soft_13 : decode cX10_soft 13 = .ok (.iload_n 2, 1) := by decide +kernel
theorem dX10_soft_14 : decode cX10_soft 14 = .ok (.putfield 148, 3) := by decide +kernel
theorem dX10_soft_17 : decode cX10_soft 17 = .ok (.iload 4, 2) := by decide +kernel
theorem dX10_soft_19 : decode cX10_soft 19 = .ok (.ireturn, 1) := by decide +kernel
def k_soft (p1 : Int32) (p2 : Int32) (X : CX) (S : CT) : (Int32 × CT) ⊕ String :=
    if P_num p1 (nS X 21 0) then
      .inl ((ci S 33 p1), (si S 33 p1 p2))
    else
    .inr "java/lang/IndexOutOfBoundsException"
abbrev rm_X10_soft : Room := { frames := 8, cells := 0, slots := 0, locals := 132 }
abbrev rmt_X10_soft : Room := { frames := 8, cells := 1, slots := 6, locals := 132 }
set_option maxRecDepth 100000 in
set_option maxHeartbeats 4000000 in
theorem ck_soft {l : Launch} {k : KC} (hl : l.stackTraces = false) {X : CX} {S : CT} (hX : XOK X) {p1 : Int32} {p2 : Int32} (hz : narrow .boolean (.int p2) = .int p2 ∧ fits .boolean (.int p2) = true) (hv : P_num p1 (nS X 21 0) → narrow .boolean (.int (ci S 33 p1)) = .int (ci S 33 p1))  : MC l k yX10_soft (.code yX10_soft cX10_soft 5 (some .boolean)) rmt_X10_soft [(vr X 11 0), .int p1, .int p2] (cW k X S) (pOi k X S (k_soft p1 p2 X S)) := by
  refine MC.of 2 hl (by decide) (by simp only [lg_sl_vr, lg_sl_i, lg_sl_l, lg_sl_0]; exact Nat.le_of_ble_eq_true rfl) ?_
  intro p e s m args below meth c A Q G B B2 hout
  simp only [lp_args_vr, lp_args_i, lp_args_l, lp_args_0]
  show Wx p l e rmt_X10_soft s m args below meth c k A 5 Q 1 6 0 [some ((vr X 11 0)), some (.int p1), some (.int p2), none, none] [] (cW k X S)
  refine z_aload0 (pc := 0) G vr_r dX10_soft_0 ?_
  refine x_iload1 (pc := 1) G dX10_soft_1 ?_
  rcases Decidable.em (¬ (P_num p1 (nS X 21 0))) with c1 | c1
  · exact z_cVt1 (pc := 2) G kb_11 hX.1 hX.l11 B B2 hout (no_centreAt hl hX  c1) rfl q_ml_X10_144 h_X10_centreAt ⟨Nat.le_of_ble_eq_true rfl, Nat.le_of_ble_eq_true rfl⟩ (Nat.le_of_ble_eq_true rfl) (Nat.le_refl _) (Nat.le_refl _) dX10_soft_2 (by rw [k_soft, if_neg c1]; exact ⟨rfl, rfl⟩)
  have c1 := Decidable.not_not.mp c1
  refine z_cV1 (pc := 2) G kb_11 hX.1 hX.l11 (ok_centreAt hl hX  c1) rfl q_ml_X10_144 h_X10_centreAt ⟨Nat.le_of_ble_eq_true rfl, Nat.le_of_ble_eq_true rfl⟩ (Nat.le_of_ble_eq_true rfl) (Nat.le_refl _) (Nat.le_refl _) dX10_soft_2 ?_
  refine z_astore3 (pc := 5) G vr_r dX10_soft_5 (Nat.le_of_ble_eq_true rfl) rfl ?_
  refine z_aload3 (pc := 6) G vr_r dX10_soft_6 ?_
  refine z_g (pc := 7) (f := 33) (x := p1) (v := (.int (ci S 33 p1))) G kb_1 gb_X10_148 rfl hX.1 (hX.el21 c1) cr_33 dX10_soft_7 ?_
  refine x_istore4 (pc := 10) G dX10_soft_10 (Nat.le_of_ble_eq_true rfl) lp_c2_vr ?_
  refine z_aload3 (pc := 12) G vr_r dX10_soft_12 ?_
  refine x_iload2 (pc := 13) G dX10_soft_13 ?_
  refine z_pI (pc := 14) (f := 33) G kb_1 gb_X10_148 rfl hX.1 (hX.el21 c1) rfl (cr_33.trans (congrArg Value.int ci_ss)) hz.1 hz.2 dX10_soft_14 ?_
  refine x_iload4 (pc := 17) G dX10_soft_17 ?_
  exact x_zret (pc := 19) G B rfl (by exact hv c1) dX10_soft_19 (by rw [k_soft, if_pos c1]; exact ⟨rfl, rfl⟩)
theorem dX10_carried_0 : decode cX10_carried 0 = .ok (.iload_n 1, 1) := by decide +kernel
theorem dX10_carried_1 : decode cX10_carried 1 = .ok (.iconst 0, 1) := by decide +kernel
theorem dX10_carried_2 : decode cX10_carried 2 = .ok (.bipush 100, 2) := by decide +kernel
theorem dX10_carried_4 : decode cX10_carried 4 = .ok (.invokestatic 92, 3) := by decide +kernel
theorem dX10_carried_7 : decode cX10_carried 7 = .ok (.aload_n 0, 1) := by decide +kernel
theorem dX10_carried_8 : decode cX10_carried 8 = .ok (.getfield 53, 3) := by decide +kernel
theorem dX10_carried_11 : decode cX10_carried 11 = .ok (.istore_n 2, 1) := by decide +kernel
theorem dX10_carried_12 : decode cX10_carried 12 = .ok (.aload_n 0, 1) := by decide +kernel
theorem dX10_carried_13 : decode cX10_carried 13 = .ok (.iload_n 1, 1) := by decide +kernel
theorem dX10_carried_14 : decode cX10_carried 14 = .ok (.putfield 53, 3) := by decide +kernel
theorem dX10_carried_17 : decode cX10_carried 17 = .ok (.iload_n 2, 1) := by decide +kernel
theorem dX10_carried_18 : decode cX10_carried 18 = .ok (.ireturn, 1) := by decide +kernel
def k_carried (p1 : Int32) (X : CX) (S : CT) : (Int32 × CT) ⊕ String :=
    if P_in p1 0 100 then
      .inl ((ci S 364 0), (si S 364 0 p1))
    else
    .inr "java/lang/IllegalArgumentException"
abbrev rm_X10_carried : Room := { frames := 7, cells := 0, slots := 0, locals := 112 }
abbrev rmt_X10_carried : Room := { frames := 7, cells := 1, slots := 6, locals := 112 }
set_option maxRecDepth 100000 in
set_option maxHeartbeats 4000000 in
theorem ck_carried {l : Launch} {k : KC} (hl : l.stackTraces = false) {X : CX} {S : CT} (hX : XOK X) {p1 : Int32}  : MC l k yX10_carried (.code yX10_carried cX10_carried 3 (some .int)) rmt_X10_carried [(vr X 11 0), .int p1] (cW k X S) (pOi k X S (k_carried p1 X S)) := by
  refine MC.of 1 hl (by decide) (by simp only [lg_sl_vr, lg_sl_i, lg_sl_l, lg_sl_0]; exact Nat.le_of_ble_eq_true rfl) ?_
  intro p e s m args below meth c A Q G B B2 hout
  simp only [lp_args_vr, lp_args_i, lp_args_l, lp_args_0]
  show Wx p l e rmt_X10_carried s m args below meth c k A 3 Q 1 6 0 [some ((vr X 11 0)), some (.int p1), none] [] (cW k X S)
  refine x_iload1 (pc := 0) G dX10_carried_0 ?_
  refine x_iconst (pc := 1) (v := 0) G dX10_carried_1 ic_0 ?_
  refine x_bipush (pc := 2) (v := 100) G dX10_carried_2 bp_100 ?_
  rcases Decidable.em (¬ (P_in p1 0 100)) with c1 | c1
  · exact x_cSt3 (pc := 4) G B B2 hout (no_requireRange hl c1) q_ml_X10_92 h_X10_requireRange ⟨Nat.le_of_ble_eq_true rfl, Nat.le_of_ble_eq_true rfl⟩ (Nat.le_of_ble_eq_true rfl) (Nat.le_refl _) (Nat.le_refl _) dX10_carried_4 (by rw [k_carried, if_neg c1]; exact ⟨rfl, rfl⟩)
  have c1 := Decidable.not_not.mp c1
  refine x_cSv3 (pc := 4) G (ok_requireRange hl c1) q_ml_X10_92 h_X10_requireRange ⟨Nat.le_of_ble_eq_true rfl, Nat.le_of_ble_eq_true rfl⟩ (Nat.le_of_ble_eq_true rfl) (Nat.le_refl _) (Nat.le_refl _) dX10_carried_4 ?_
  refine z_aload0 (pc := 7) G vr_r dX10_carried_7 ?_
  refine z_g (pc := 8) (f := 364) (x := 0) (v := (.int (ci S 364 0))) G kb_11 gb_X10_53 rfl hX.1 hX.l11 cr_364 dX10_carried_8 ?_
  refine x_istore2 (pc := 11) G dX10_carried_11 (Nat.le_of_ble_eq_true rfl) rfl ?_
  refine z_aload0 (pc := 12) G vr_r dX10_carried_12 ?_
  refine x_iload1 (pc := 13) G dX10_carried_13 ?_
  refine z_pI (pc := 14) (f := 364) G kb_11 gb_X10_53 rfl hX.1 hX.l11 rfl (cr_364.trans (congrArg Value.int ci_ss)) rfl rfl dX10_carried_14 ?_
  refine x_iload2 (pc := 17) G dX10_carried_17 ?_
  exact x_iret (pc := 18) G B rfl dX10_carried_18 (by rw [k_carried, if_pos c1]; exact ⟨rfl, rfl⟩)
theorem dX10_supplier_0 : decode cX10_supplier 0 = .ok (.aload_n 0, 1) := by decide +kernel
theorem dX10_supplier_1 : decode cX10_supplier 1 = .ok (.iload_n 1, 1) := by decide +kernel
theorem dX10_supplier_2 : decode cX10_supplier 2 = .ok (.invokevirtual 152, 3) := by decide +kernel
theorem dX10_supplier_5 : decode cX10_supplier 5 = .ok (.astore 7, 2) := by decide +kernel
theorem dX10_supplier_7 : decode cX10_supplier 7 = .ok (.iload_n 2, 1) := by decide +kernel
theorem dX10_supplier_8 : decode cX10_supplier 8 = .ok (.iconst 3, 1) := by decide +kernel
theorem dX10_supplier_9 : decode cX10_supplier 9 = .ok (.invokestatic 156, 3) := by decide +kernel
theorem dX10_supplier_12 : decode cX10_supplier 12 = .ok (.aload_n 0, 1) := by decide +kernel
theorem dX10_supplier_13 : decode cX10_supplier 13 = .ok (.iload_n 3, 1) := by decide +kernel
theorem dX10_supplier_14 : decode cX10_supplier 14 = .ok (.invokevirtual 160, 3) := by decide +kernel
theorem dX10_supplier_17 : decode cX10_supplier 17 = .ok (.astore 8, 2) := by decide +kernel
theorem dX10_supplier_19 : decode cX10_supplier 19 = .ok (.iload 4, 2) := by decide +kernel
theorem dX10_supplier_21 : decode cX10_supplier 21 = .ok (.iconst 0, 1) := by decide +kernel
theorem dX10_supplier_22 : decode cX10_supplier 22 = .ok (.bipush 90, 2) := by decide +kernel
theorem dX10_supplier_24 : decode cX10_supplier 24 = .ok (.invokestatic 92, 3) := by decide +kernel
theorem dX10_supplier_27 : decode cX10_supplier 27 = .ok (.iload 5, 2) := by decide +kernel
theorem dX10_supplier_29 : decode cX10_supplier 29 = .ok (.iconst 0, 1) := by decide +kernel
theorem dX10_supplier_30 : decode cX10_supplier 30 = .ok (.bipush 10, 2) := by decide +kernel
theorem dX10_supplier_32 : decode cX10_supplier 32 = .ok (.invokestatic 92, 3) := by decide +kernel
theorem dX10_supplier_35 : decode cX10_supplier 35 = .ok (.iload 6, 2) := by decide +kernel
theorem dX10_supplier_37 : decode cX10_supplier 37 = .ok (.iconst 0, 1) := by decide +kernel
theorem dX10_supplier_38 : decode cX10_supplier 38 = .ok (.bipush 30, 2) := by decide +kernel
theorem dX10_supplier_40 : decode cX10_supplier 40 = .ok (.invokestatic 92, 3) := by decide +kernel
theorem dX10_supplier_43 : decode cX10_supplier 43 = .ok (.aload 7, 2) := by decide +kernel
theorem dX10_supplier_45 : decode cX10_supplier 45 = .ok (.iload_n 2, 1) := by decide +kernel
theorem dX10_supplier_46 : decode cX10_supplier 46 = .ok (.putfield 164, 3) := by decide +kernel
theorem dX10_supplier_49 : decode cX10_supplier 49 = .ok (.aload 7, 2) := by decide +kernel
theorem dX10_supplier_51 : decode cX10_supplier 51 = .ok (.aload 8, 2) := by decide +kernel
theorem dX10_supplier_53 : decode cX10_supplier 53 = .ok (.putfield 167, 3) := by decide +kernel
theorem dX10_supplier_56 : decode cX10_supplier 56 = .ok (.aload 7, 2) := by decide +kernel
theorem dX10_supplier_58 : decode cX10_supplier 58 = .ok (.iload 4, 2) := by decide +kernel
theorem dX10_supplier_60 : decode cX10_supplier 60 = .ok (.putfield 171, 3) := by decide +kernel
theorem dX10_supplier_63 : decode cX10_supplier 63 = .ok (.aload 7, 2) := by decide +kernel
theorem dX10_supplier_65 : decode cX10_supplier 65 = .ok (.iload 5, 2) := by decide +kernel
theorem dX10_supplier_67 : decode cX10_supplier 67 = .ok (.putfield 174, 3) := by decide +kernel
theorem dX10_supplier_70 : decode cX10_supplier 70 = .ok (.aload 7, 2) := by decide +kernel
theorem dX10_supplier_72 : decode cX10_supplier 72 = .ok (.iload 6, 2) := by decide +kernel
theorem dX10_supplier_74 : decode cX10_supplier 74 = .ok (.putfield 177, 3) := by decide +kernel
theorem dX10_supplier_77 : decode cX10_supplier 77 = .ok (.return_, 1) := by decide +kernel
def k_supplier (p1 : Int32) (p2 : Int32) (p3 : Int32) (p4 : Int32) (p5 : Int32) (p6 : Int32) (X : CX) (S : CT) : CT ⊕ String :=
    if P_num p1 (nS X 23 0) then
      if P_num p2 3 then
        if P_num p3 (nS X 22 0) then
          if P_in p4 0 90 then
            if P_in p5 0 10 then
              if P_in p6 0 30 then
                .inl (si (si (si (si (si S 290 p1 p2) 289 p1 p3) 291 p1 p4) 292 p1 p5) 293 p1 p6)
              else
              .inr "java/lang/IllegalArgumentException"
            else
            .inr "java/lang/IllegalArgumentException"
          else
          .inr "java/lang/IllegalArgumentException"
        else
        .inr "java/lang/IndexOutOfBoundsException"
      else
      .inr "java/lang/IndexOutOfBoundsException"
    else
    .inr "java/lang/IndexOutOfBoundsException"
abbrev rm_X10_supplier : Room := { frames := 8, cells := 0, slots := 0, locals := 132 }
abbrev rmt_X10_supplier : Room := { frames := 8, cells := 1, slots := 6, locals := 132 }
set_option maxRecDepth 100000 in
set_option maxHeartbeats 4000000 in
theorem ck_supplier {l : Launch} {k : KC} (hl : l.stackTraces = false) {X : CX} {S : CT} (hX : XOK X) {p1 : Int32} {p2 : Int32} {p3 : Int32} {p4 : Int32} {p5 : Int32} {p6 : Int32}  : MC l k yX10_supplier (.code yX10_supplier cX10_supplier 9 none) rmt_X10_supplier [(vr X 11 0), .int p1, .int p2, .int p3, .int p4, .int p5, .int p6] (cW k X S) (pOv k X S (k_supplier p1 p2 p3 p4 p5 p6 X S)) := by
  refine MC.of 2 hl (by decide) (by simp only [lg_sl_vr, lg_sl_i, lg_sl_l, lg_sl_0]; exact Nat.le_of_ble_eq_true rfl) ?_
  intro p e s m args below meth c A Q G B B2 hout
  simp only [lp_args_vr, lp_args_i, lp_args_l, lp_args_0]
  show Wx p l e rmt_X10_supplier s m args below meth c k A 9 Q 1 6 0 [some ((vr X 11 0)), some (.int p1), some (.int p2), some (.int p3), some (.int p4), some (.int p5), some (.int p6), none, none] [] (cW k X S)
  refine z_aload0 (pc := 0) G vr_r dX10_supplier_0 ?_
  refine x_iload1 (pc := 1) G dX10_supplier_1 ?_
  rcases Decidable.em (¬ (P_num p1 (nS X 23 0))) with c1 | c1
  · exact z_cVt1 (pc := 2) G kb_11 hX.1 hX.l11 B B2 hout (no_supplierAt hl hX  c1) rfl q_ml_X10_152 h_X10_supplierAt ⟨Nat.le_of_ble_eq_true rfl, Nat.le_of_ble_eq_true rfl⟩ (Nat.le_of_ble_eq_true rfl) (Nat.le_refl _) (Nat.le_refl _) dX10_supplier_2 (by rw [k_supplier, if_neg c1]; exact ⟨rfl, rfl⟩)
  have c1 := Decidable.not_not.mp c1
  refine z_cV1 (pc := 2) G kb_11 hX.1 hX.l11 (ok_supplierAt hl hX  c1) rfl q_ml_X10_152 h_X10_supplierAt ⟨Nat.le_of_ble_eq_true rfl, Nat.le_of_ble_eq_true rfl⟩ (Nat.le_of_ble_eq_true rfl) (Nat.le_refl _) (Nat.le_refl _) dX10_supplier_2 ?_
  refine z_astore7 (pc := 5) G vr_r dX10_supplier_5 (Nat.le_of_ble_eq_true rfl) rfl ?_
  refine x_iload2 (pc := 7) G dX10_supplier_7 ?_
  refine x_iconst (pc := 8) (v := 3) G dX10_supplier_8 ic_3 ?_
  rcases Decidable.em (¬ (P_num p2 3)) with c2 | c2
  · exact x_cSt2 (pc := 9) G B B2 hout (no_requireNumber hl c2) q_ml_X10_156 h_X10_requireNumber ⟨Nat.le_of_ble_eq_true rfl, Nat.le_of_ble_eq_true rfl⟩ (Nat.le_of_ble_eq_true rfl) (Nat.le_refl _) (Nat.le_refl _) dX10_supplier_9 (by rw [k_supplier, if_pos c1, if_neg c2]; exact ⟨rfl, rfl⟩)
  have c2 := Decidable.not_not.mp c2
  refine x_cSv2 (pc := 9) G (ok_requireNumber hl c2) q_ml_X10_156 h_X10_requireNumber ⟨Nat.le_of_ble_eq_true rfl, Nat.le_of_ble_eq_true rfl⟩ (Nat.le_of_ble_eq_true rfl) (Nat.le_refl _) (Nat.le_refl _) dX10_supplier_9 ?_
  refine z_aload0 (pc := 12) G vr_r dX10_supplier_12 ?_
  refine x_iload3 (pc := 13) G dX10_supplier_13 ?_
  rcases Decidable.em (¬ (P_num p3 (nS X 22 0))) with c3 | c3
  · exact z_cVt1 (pc := 14) G kb_11 hX.1 hX.l11 B B2 hout (no_moneyAt hl hX  c3) rfl q_ml_X10_160 h_X10_moneyAt ⟨Nat.le_of_ble_eq_true rfl, Nat.le_of_ble_eq_true rfl⟩ (Nat.le_of_ble_eq_true rfl) (Nat.le_refl _) (Nat.le_refl _) dX10_supplier_14 (by rw [k_supplier, if_pos c1, if_pos c2, if_neg c3]; exact ⟨rfl, rfl⟩)
  have c3 := Decidable.not_not.mp c3
  refine z_cV1 (pc := 14) G kb_11 hX.1 hX.l11 (ok_moneyAt hl hX  c3) rfl q_ml_X10_160 h_X10_moneyAt ⟨Nat.le_of_ble_eq_true rfl, Nat.le_of_ble_eq_true rfl⟩ (Nat.le_of_ble_eq_true rfl) (Nat.le_refl _) (Nat.le_refl _) dX10_supplier_14 ?_
  refine z_astore8 (pc := 17) G vr_r dX10_supplier_17 (Nat.le_of_ble_eq_true rfl) lp_c2_vr ?_
  refine x_iload4 (pc := 19) G dX10_supplier_19 ?_
  refine x_iconst (pc := 21) (v := 0) G dX10_supplier_21 ic_0 ?_
  refine x_bipush (pc := 22) (v := 90) G dX10_supplier_22 bp_90 ?_
  rcases Decidable.em (¬ (P_in p4 0 90)) with c4 | c4
  · exact x_cSt3 (pc := 24) G B B2 hout (no_requireRange hl c4) q_ml_X10_92 h_X10_requireRange ⟨Nat.le_of_ble_eq_true rfl, Nat.le_of_ble_eq_true rfl⟩ (Nat.le_of_ble_eq_true rfl) (Nat.le_refl _) (Nat.le_refl _) dX10_supplier_24 (by rw [k_supplier, if_pos c1, if_pos c2, if_pos c3, if_neg c4]; exact ⟨rfl, rfl⟩)
  have c4 := Decidable.not_not.mp c4
  refine x_cSv3 (pc := 24) G (ok_requireRange hl c4) q_ml_X10_92 h_X10_requireRange ⟨Nat.le_of_ble_eq_true rfl, Nat.le_of_ble_eq_true rfl⟩ (Nat.le_of_ble_eq_true rfl) (Nat.le_refl _) (Nat.le_refl _) dX10_supplier_24 ?_
  refine x_iload5 (pc := 27) G dX10_supplier_27 ?_
  refine x_iconst (pc := 29) (v := 0) G dX10_supplier_29 ic_0 ?_
  refine x_bipush (pc := 30) (v := 10) G dX10_supplier_30 bp_10 ?_
  rcases Decidable.em (¬ (P_in p5 0 10)) with c5 | c5
  · exact x_cSt3 (pc := 32) G B B2 hout (no_requireRange hl c5) q_ml_X10_92 h_X10_requireRange ⟨Nat.le_of_ble_eq_true rfl, Nat.le_of_ble_eq_true rfl⟩ (Nat.le_of_ble_eq_true rfl) (Nat.le_refl _) (Nat.le_refl _) dX10_supplier_32 (by rw [k_supplier, if_pos c1, if_pos c2, if_pos c3, if_pos c4, if_neg c5]; exact ⟨rfl, rfl⟩)
  have c5 := Decidable.not_not.mp c5
  refine x_cSv3 (pc := 32) G (ok_requireRange hl c5) q_ml_X10_92 h_X10_requireRange ⟨Nat.le_of_ble_eq_true rfl, Nat.le_of_ble_eq_true rfl⟩ (Nat.le_of_ble_eq_true rfl) (Nat.le_refl _) (Nat.le_refl _) dX10_supplier_32 ?_
  refine x_iload6 (pc := 35) G dX10_supplier_35 ?_
  refine x_iconst (pc := 37) (v := 0) G dX10_supplier_37 ic_0 ?_
  refine x_bipush (pc := 38) (v := 30) G dX10_supplier_38 bp_30 ?_
  rcases Decidable.em (¬ (P_in p6 0 30)) with c6 | c6
  · exact x_cSt3 (pc := 40) G B B2 hout (no_requireRange hl c6) q_ml_X10_92 h_X10_requireRange ⟨Nat.le_of_ble_eq_true rfl, Nat.le_of_ble_eq_true rfl⟩ (Nat.le_of_ble_eq_true rfl) (Nat.le_refl _) (Nat.le_refl _) dX10_supplier_40 (by rw [k_supplier, if_pos c1, if_pos c2, if_pos c3, if_pos c4, if_pos c5, if_neg c6]; exact ⟨rfl, rfl⟩)
  have c6 := Decidable.not_not.mp c6
  refine x_cSv3 (pc := 40) G (ok_requireRange hl c6) q_ml_X10_92 h_X10_requireRange ⟨Nat.le_of_ble_eq_true rfl, Nat.le_of_ble_eq_true rfl⟩ (Nat.le_of_ble_eq_true rfl) (Nat.le_refl _) (Nat.le_refl _) dX10_supplier_40 ?_
  refine z_aload7 (pc := 43) G vr_r dX10_supplier_43 ?_
  refine x_iload2 (pc := 45) G dX10_supplier_45 ?_
  refine z_pI (pc := 46) (f := 290) G kb_9 gb_X10_164 rfl hX.1 (hX.el23 c1) rfl (cr_290.trans (congrArg Value.int ci_ss)) rfl rfl dX10_supplier_46 ?_
  refine z_aload7 (pc := 49) G vr_r dX10_supplier_49 ?_
  refine z_aload8 (pc := 51) G vr_r dX10_supplier_51 ?_
  refine z_pR (pc := 53) (f := 289) G kb_9 gb_X10_167 rfl hX.1 (hX.el23 c1) rfl (cr_289.trans (congrArg (vr X 5) ci_ss)) (Or.inl ⟨_, rfl⟩) dX10_supplier_53 ?_
  refine z_aload7 (pc := 56) G vr_r dX10_supplier_56 ?_
  refine x_iload4 (pc := 58) G dX10_supplier_58 ?_
  refine z_pI (pc := 60) (f := 291) G kb_9 gb_X10_171 rfl hX.1 (hX.el23 c1) rfl (cr_291.trans (congrArg Value.int ci_ss)) rfl rfl dX10_supplier_60 ?_
  refine z_aload7 (pc := 63) G vr_r dX10_supplier_63 ?_
  refine x_iload5 (pc := 65) G dX10_supplier_65 ?_
  refine z_pI (pc := 67) (f := 292) G kb_9 gb_X10_174 rfl hX.1 (hX.el23 c1) rfl (cr_292.trans (congrArg Value.int ci_ss)) rfl rfl dX10_supplier_67 ?_
  refine z_aload7 (pc := 70) G vr_r dX10_supplier_70 ?_
  refine x_iload6 (pc := 72) G dX10_supplier_72 ?_
  refine z_pI (pc := 74) (f := 293) G kb_9 gb_X10_177 rfl hX.1 (hX.el23 c1) rfl (cr_293.trans (congrArg Value.int ci_ss)) rfl rfl dX10_supplier_74 ?_
  exact x_vret (pc := 77) G B rfl dX10_supplier_77 (by rw [k_supplier, if_pos c1, if_pos c2, if_pos c3, if_pos c4, if_pos c5, if_pos c6]; exact ⟨rfl, rfl⟩)
theorem dX10_rate_0 : decode cX10_rate 0 = .ok (.aload_n 0, 1) := by decide +kernel
theorem dX10_rate_1 : decode cX10_rate 1 = .ok (.iload_n 1, 1) := by decide +kernel
theorem dX10_rate_2 : decode cX10_rate 2 = .ok (.invokevirtual 160, 3) := by decide +kernel
theorem dX10_rate_5 : decode cX10_rate 5 = .ok (.astore_n 3, 1) := by decide +kernel
theorem dX10_rate_6 : decode cX10_rate 6 = .ok (.iload_n 1, 1) := by decide +kernel
theorem dX10_rate_7 : decode cX10_rate 7 = .ok (.ifCond .ne 13, 3) := by decide +kernel
theorem dX10_rate_10 : decode cX10_rate 10 = .ok (.new 180, 3) := by decide +kernel
theorem dX10_rate_13 : decode cX10_rate 13 = .ok (.dup, 1) := by decide +kernel
theorem dX10_rate_14 : decode cX10_rate 14 = .ok (.ldc 182, 2) := by decide +kernel
theorem dX10_rate_16 : decode cX10_rate 16 = .ok (.invokespecial 184, 3) := by decide +kernel
theorem dX10_rate_19 : decode cX10_rate 19 = .ok (.athrow, 1) := by decide +kernel
theorem dX10_rate_20 : decode cX10_rate 20 = .ok (.iload_n 2, 1) := by decide +kernel
theorem dX10_rate_21 : decode cX10_rate 21 = .ok (.bipush 100, 2) := by decide +kernel
theorem dX10_rate_23 : decode cX10_rate 23 = .ok (.sipush 10000, 3) := by decide +kernel
theorem dX10_rate_26 : decode cX10_rate 26 = .ok (.invokestatic 92, 3) := by decide +kernel
theorem dX10_rate_29 : decode cX10_rate 29 = .ok (.aload_n 3, 1) := by decide +kernel
theorem dX10_rate_30 : decode cX10_rate 30 = .ok (.getfield 185, 3) := by decide +kernel
theorem dX10_rate_33 : decode cX10_rate 33 = .ok (.istore 4, 2) := by decide +kernel
theorem dX10_rate_35 : decode cX10_rate 35 = .ok (.aload_n 3, 1) := by decide +kernel
theorem dX10_rate_36 : decode cX10_rate 36 = .ok (.iload_n 2, 1) := by decide +kernel
theorem dX10_rate_37 : decode cX10_rate 37 = .ok (.putfield 185, 3) := by decide +kernel
theorem dX10_rate_40 : decode cX10_rate 40 = .ok (.iload 4, 2) := by decide +kernel
theorem dX10_rate_42 : decode cX10_rate 42 = .ok (.ireturn, 1) := by decide +kernel
def k_rate (p1 : Int32) (p2 : Int32) (X : CX) (S : CT) : (Int32 × CT) ⊕ String :=
    if P_num p1 (nS X 22 0) then
      if p1 = 0 then
        .inr "java/lang/IndexOutOfBoundsException"
      else
      if P_in p2 100 10000 then
        .inl ((ci S 160 p1), (si S 160 p1 p2))
      else
      .inr "java/lang/IllegalArgumentException"
    else
    .inr "java/lang/IndexOutOfBoundsException"
abbrev rm_X10_rate : Room := { frames := 8, cells := 0, slots := 0, locals := 132 }
abbrev rmt_X10_rate : Room := { frames := 8, cells := 1, slots := 6, locals := 132 }
set_option maxRecDepth 100000 in
set_option maxHeartbeats 4000000 in
theorem ck_rate {l : Launch} {k : KC} (hl : l.stackTraces = false) {X : CX} {S : CT} (hX : XOK X) {p1 : Int32} {p2 : Int32}  : MC l k yX10_rate (.code yX10_rate cX10_rate 5 (some .int)) rmt_X10_rate [(vr X 11 0), .int p1, .int p2] (cW k X S) (pOi k X S (k_rate p1 p2 X S)) := by
  refine MC.of 2 hl (by decide) (by simp only [lg_sl_vr, lg_sl_i, lg_sl_l, lg_sl_0]; exact Nat.le_of_ble_eq_true rfl) ?_
  intro p e s m args below meth c A Q G B B2 hout
  simp only [lp_args_vr, lp_args_i, lp_args_l, lp_args_0]
  show Wx p l e rmt_X10_rate s m args below meth c k A 5 Q 1 6 0 [some ((vr X 11 0)), some (.int p1), some (.int p2), none, none] [] (cW k X S)
  refine z_aload0 (pc := 0) G vr_r dX10_rate_0 ?_
  refine x_iload1 (pc := 1) G dX10_rate_1 ?_
  rcases Decidable.em (¬ (P_num p1 (nS X 22 0))) with c1 | c1
  · exact z_cVt1 (pc := 2) G kb_11 hX.1 hX.l11 B B2 hout (no_moneyAt hl hX  c1) rfl q_ml_X10_160 h_X10_moneyAt ⟨Nat.le_of_ble_eq_true rfl, Nat.le_of_ble_eq_true rfl⟩ (Nat.le_of_ble_eq_true rfl) (Nat.le_refl _) (Nat.le_refl _) dX10_rate_2 (by rw [k_rate, if_neg c1]; exact ⟨rfl, rfl⟩)
  have c1 := Decidable.not_not.mp c1
  refine z_cV1 (pc := 2) G kb_11 hX.1 hX.l11 (ok_moneyAt hl hX  c1) rfl q_ml_X10_160 h_X10_moneyAt ⟨Nat.le_of_ble_eq_true rfl, Nat.le_of_ble_eq_true rfl⟩ (Nat.le_of_ble_eq_true rfl) (Nat.le_refl _) (Nat.le_refl _) dX10_rate_2 ?_
  refine z_astore3 (pc := 5) G vr_r dX10_rate_5 (Nat.le_of_ble_eq_true rfl) rfl ?_
  refine x_iload1 (pc := 6) G dX10_rate_6 ?_
  refine x_if_ne (pc := 7) (y := 0) (tgt := 20) G dX10_rate_7 rfl (fun c2 => ?_) (fun c2 => ?_)
  · refine x_iload2 (pc := 20) G dX10_rate_20 ?_
    refine x_bipush (pc := 21) (v := 100) G dX10_rate_21 bp_100 ?_
    refine x_sipush (pc := 23) (v := 10000) G dX10_rate_23 sp_10000 ?_
    rcases Decidable.em (¬ (P_in p2 100 10000)) with c3 | c3
    · exact x_cSt3 (pc := 26) G B B2 hout (no_requireRange hl c3) q_ml_X10_92 h_X10_requireRange ⟨Nat.le_of_ble_eq_true rfl, Nat.le_of_ble_eq_true rfl⟩ (Nat.le_of_ble_eq_true rfl) (Nat.le_refl _) (Nat.le_refl _) dX10_rate_26 (by rw [k_rate, if_pos c1, if_neg c2, if_neg c3]; exact ⟨rfl, rfl⟩)
    have c3 := Decidable.not_not.mp c3
    refine x_cSv3 (pc := 26) G (ok_requireRange hl c3) q_ml_X10_92 h_X10_requireRange ⟨Nat.le_of_ble_eq_true rfl, Nat.le_of_ble_eq_true rfl⟩ (Nat.le_of_ble_eq_true rfl) (Nat.le_refl _) (Nat.le_refl _) dX10_rate_26 ?_
    refine z_aload3 (pc := 29) G vr_r dX10_rate_29 ?_
    refine z_g (pc := 30) (f := 160) (x := p1) (v := (.int (ci S 160 p1))) G kb_5 gb_X10_185 rfl hX.1 (hX.el22 c1) cr_160 dX10_rate_30 ?_
    refine x_istore4 (pc := 33) G dX10_rate_33 (Nat.le_of_ble_eq_true rfl) lp_c2_vr ?_
    refine z_aload3 (pc := 35) G vr_r dX10_rate_35 ?_
    refine x_iload2 (pc := 36) G dX10_rate_36 ?_
    refine z_pI (pc := 37) (f := 160) G kb_5 gb_X10_185 rfl hX.1 (hX.el22 c1) rfl (cr_160.trans (congrArg Value.int ci_ss)) rfl rfl dX10_rate_37 ?_
    refine x_iload4 (pc := 40) G dX10_rate_40 ?_
    exact x_iret (pc := 42) G B rfl dX10_rate_42 (by rw [k_rate, if_pos c1, if_neg c2, if_pos c3]; exact ⟨rfl, rfl⟩)
  exact z_IOOBE (pc := 10) G B B2 hout (is := 182) (text := "the home money has no rate to be told") (by decide +kernel) dX10_rate_10 dX10_rate_13 (Or.inl ⟨dX10_rate_14, dX10_rate_16, dX10_rate_19⟩) ⟨Nat.le_of_ble_eq_true rfl, Nat.le_of_ble_eq_true rfl⟩ (Nat.le_of_ble_eq_true rfl) (Nat.le_of_ble_eq_true rfl) (by rw [k_rate, if_pos c1, if_pos c2]; exact ⟨rfl, rfl⟩)
theorem dX10_taxes_0 : decode cX10_taxes 0 = .ok (.iload_n 1, 1) := by decide +kernel
theorem dX10_taxes_1 : decode cX10_taxes 1 = .ok (.iconst 0, 1) := by decide +kernel
theorem dX10_taxes_2 : decode cX10_taxes 2 = .ok (.bipush 30, 2) := by decide +kernel
theorem dX10_taxes_4 : decode cX10_taxes 4 = .ok (.invokestatic 92, 3) := by decide +kernel
theorem dX10_taxes_7 : decode cX10_taxes 7 = .ok (.iload_n 2, 1) := by decide +kernel
theorem dX10_taxes_8 : decode cX10_taxes 8 = .ok (.iconst 0, 1) := by decide +kernel
theorem dX10_taxes_9 : decode cX10_taxes 9 = .ok (.bipush 100, 2) := by decide +kernel
theorem dX10_taxes_11 : decode cX10_taxes 11 = .ok (.invokestatic 92, 3) := by decide +kernel
theorem dX10_taxes_14 : decode cX10_taxes 14 = .ok (.aload_n 0, 1) := by decide +kernel
theorem dX10_taxes_15 : decode cX10_taxes 15 = .ok (.iload_n 1, 1) := by decide +kernel
theorem dX10_taxes_16 : decode cX10_taxes 16 = .ok (.putfield 56, 3) := by decide +kernel
theorem dX10_taxes_19 : decode cX10_taxes 19 = .ok (.aload_n 0, 1) := by decide +kernel
theorem dX10_taxes_20 : decode cX10_taxes 20 = .ok (.iload_n 2, 1) := by decide +kernel
theorem dX10_taxes_21 : decode cX10_taxes 21 = .ok (.putfield 59, 3) := by decide +kernel
theorem dX10_taxes_24 : decode cX10_taxes 24 = .ok (.return_, 1) := by decide +kernel
def k_taxes (p1 : Int32) (p2 : Int32) (X : CX) (S : CT) : CT ⊕ String :=
    if P_in p1 0 30 then
      if P_in p2 0 100 then
        .inl (si (si S 365 0 p1) 366 0 p2)
      else
      .inr "java/lang/IllegalArgumentException"
    else
    .inr "java/lang/IllegalArgumentException"
abbrev rm_X10_taxes : Room := { frames := 7, cells := 0, slots := 0, locals := 112 }
abbrev rmt_X10_taxes : Room := { frames := 7, cells := 1, slots := 6, locals := 112 }
set_option maxRecDepth 100000 in
set_option maxHeartbeats 4000000 in
theorem ck_taxes {l : Launch} {k : KC} (hl : l.stackTraces = false) {X : CX} {S : CT} (hX : XOK X) {p1 : Int32} {p2 : Int32}  : MC l k yX10_taxes (.code yX10_taxes cX10_taxes 3 none) rmt_X10_taxes [(vr X 11 0), .int p1, .int p2] (cW k X S) (pOv k X S (k_taxes p1 p2 X S)) := by
  refine MC.of 0 hl (by decide) (by simp only [lg_sl_vr, lg_sl_i, lg_sl_l, lg_sl_0]; exact Nat.le_of_ble_eq_true rfl) ?_
  intro p e s m args below meth c A Q G B B2 hout
  simp only [lp_args_vr, lp_args_i, lp_args_l, lp_args_0]
  show Wx p l e rmt_X10_taxes s m args below meth c k A 3 Q 1 6 0 [some ((vr X 11 0)), some (.int p1), some (.int p2)] [] (cW k X S)
  refine x_iload1 (pc := 0) G dX10_taxes_0 ?_
  refine x_iconst (pc := 1) (v := 0) G dX10_taxes_1 ic_0 ?_
  refine x_bipush (pc := 2) (v := 30) G dX10_taxes_2 bp_30 ?_
  rcases Decidable.em (¬ (P_in p1 0 30)) with c1 | c1
  · exact x_cSt3 (pc := 4) G B B2 hout (no_requireRange hl c1) q_ml_X10_92 h_X10_requireRange ⟨Nat.le_of_ble_eq_true rfl, Nat.le_of_ble_eq_true rfl⟩ (Nat.le_of_ble_eq_true rfl) (Nat.le_refl _) (Nat.le_refl _) dX10_taxes_4 (by rw [k_taxes, if_neg c1]; exact ⟨rfl, rfl⟩)
  have c1 := Decidable.not_not.mp c1
  refine x_cSv3 (pc := 4) G (ok_requireRange hl c1) q_ml_X10_92 h_X10_requireRange ⟨Nat.le_of_ble_eq_true rfl, Nat.le_of_ble_eq_true rfl⟩ (Nat.le_of_ble_eq_true rfl) (Nat.le_refl _) (Nat.le_refl _) dX10_taxes_4 ?_
  refine x_iload2 (pc := 7) G dX10_taxes_7 ?_
  refine x_iconst (pc := 8) (v := 0) G dX10_taxes_8 ic_0 ?_
  refine x_bipush (pc := 9) (v := 100) G dX10_taxes_9 bp_100 ?_
  rcases Decidable.em (¬ (P_in p2 0 100)) with c2 | c2
  · exact x_cSt3 (pc := 11) G B B2 hout (no_requireRange hl c2) q_ml_X10_92 h_X10_requireRange ⟨Nat.le_of_ble_eq_true rfl, Nat.le_of_ble_eq_true rfl⟩ (Nat.le_of_ble_eq_true rfl) (Nat.le_refl _) (Nat.le_refl _) dX10_taxes_11 (by rw [k_taxes, if_pos c1, if_neg c2]; exact ⟨rfl, rfl⟩)
  have c2 := Decidable.not_not.mp c2
  refine x_cSv3 (pc := 11) G (ok_requireRange hl c2) q_ml_X10_92 h_X10_requireRange ⟨Nat.le_of_ble_eq_true rfl, Nat.le_of_ble_eq_true rfl⟩ (Nat.le_of_ble_eq_true rfl) (Nat.le_refl _) (Nat.le_refl _) dX10_taxes_11 ?_
  refine z_aload0 (pc := 14) G vr_r dX10_taxes_14 ?_
  refine x_iload1 (pc := 15) G dX10_taxes_15 ?_
  refine z_pI (pc := 16) (f := 365) G kb_11 gb_X10_56 rfl hX.1 hX.l11 rfl (cr_365.trans (congrArg Value.int ci_ss)) rfl rfl dX10_taxes_16 ?_
  refine z_aload0 (pc := 19) G vr_r dX10_taxes_19 ?_
  refine x_iload2 (pc := 20) G dX10_taxes_20 ?_
  refine z_pI (pc := 21) (f := 366) G kb_11 gb_X10_59 rfl hX.1 hX.l11 rfl (cr_366.trans (congrArg Value.int ci_ss)) rfl rfl dX10_taxes_21 ?_
  exact x_vret (pc := 24) G B rfl dX10_taxes_24 (by rw [k_taxes, if_pos c1, if_pos c2]; exact ⟨rfl, rfl⟩)
theorem dX10_pass_0 : decode cX10_pass 0 = .ok (.iload_n 1, 1) := by decide +kernel
theorem dX10_pass_1 : decode cX10_pass 1 = .ok (.iconst 1, 1) := by decide +kernel
theorem dX10_pass_2 : decode cX10_pass 2 = .ok (.sipush 360, 3) := by decide +kernel
theorem dX10_pass_5 : decode cX10_pass 5 = .ok (.invokestatic 92, 3) := by decide +kernel
theorem dX10_pass_8 : decode cX10_pass 8 = .ok (.aload_n 0, 1) := by decide +kernel
theorem dX10_pass_9 : decode cX10_pass 9 = .ok (.getfield 49, 3) := by decide +kernel
theorem dX10_pass_12 : decode cX10_pass 12 = .ok (.iload_n 1, 1) := by decide +kernel
theorem dX10_pass_13 : decode cX10_pass 13 = .ok (.iadd, 1) := by decide +kernel
theorem dX10_pass_14 : decode cX10_pass 14 = .ok (.sipush 1079, 3) := by decide +kernel
theorem dX10_pass_17 : decode cX10_pass 17 = .ok (.if_icmp .le 13, 3) := by decide +kernel
theorem dX10_pass_20 : decode cX10_pass 20 = .ok (.new 100, 3) := by decide +kernel
theorem dX10_pass_23 : decode cX10_pass 23 = .ok (.dup, 1) := by decide +kernel
theorem dX10_pass_24 : decode cX10_pass 24 = .ok (.ldc 188, 2) := by decide +kernel
theorem dX10_pass_26 : decode cX10_pass 26 = .ok (.invokespecial 104, 3) := by decide +kernel
theorem dX10_pass_29 : decode cX10_pass 29 = .ok (.athrow, 1) := by decide +kernel
theorem dX10_pass_30 : decode cX10_pass 30 = .ok (.aload_n 0, 1) := by decide +kernel
theorem dX10_pass_31 : decode cX10_pass 31 = .ok (.invokevirtual 190, 3) := by decide +kernel
theorem dX10_pass_34 : decode cX10_pass 34 = .ok (.istore_n 2, 1) := by decide +kernel
theorem dX10_pass_35 : decode cX10_pass 35 = .ok (.aload_n 0, 1) := by decide +kernel
theorem dX10_pass_36 : decode cX10_pass 36 = .ok (.dup, 1) := by decide +kernel
theorem dX10_pass_37 : decode cX10_pass 37 = .ok (.getfield 49, 3) := by decide +kernel
theorem dX10_pass_40 : decode cX10_pass 40 = .ok (.iload_n 1, 1) := by decide +kernel
theorem dX10_pass_41 : decode cX10_pass 41 = .ok (.iadd, 1) := by decide +kernel
theorem dX10_pass_42 : decode cX10_pass 42 = .ok (.putfield 49, 3) := by decide +kernel
theorem dX10_pass_45 : decode cX10_pass 45 = .ok (.aload_n 0, 1) := by decide +kernel
theorem dX10_pass_46 : decode cX10_pass 46 = .ok (.invokevirtual 190, 3) := by decide +kernel
theorem dX10_pass_49 : decode cX10_pass 49 = .ok (.iload_n 2, 1) := by decide +kernel
theorem dX10_pass_50 : decode cX10_pass 50 = .ok (.if_icmp .le 8, 3) := by decide +kernel
theorem dX10_pass_53 : decode cX10_pass 53 = .ok (.aload_n 0, 1) := by decide +kernel
theorem dX10_pass_54 : decode cX10_pass 54 = .ok (.iload_n 2, 1) := by decide +kernel
theorem dX10_pass_55 : decode cX10_pass 55 = .ok (.invokevirtual 193, 3) := by decide +kernel
theorem dX10_pass_58 : decode cX10_pass 58 = .ok (.aload_n 0, 1) := by decide +kernel
theorem dX10_pass_59 : decode cX10_pass 59 = .ok (.getfield 49, 3) := by decide +kernel
theorem dX10_pass_62 : decode cX10_pass 62 = .ok (.ireturn, 1) := by decide +kernel
def k_pass (p1 : Int32) (X : CX) (S : CT) : (Int32 × CT) ⊕ String :=
    if P_in p1 1 360 then
      if ((ci S 363 0) + p1) ≤ 1079 then
        if (k_thisYear X (si S 363 0 ((ci S 363 0) + p1))) ≤ (k_thisYear X S) then
          .inl (((ci S 363 0) + p1), (si S 363 0 ((ci S 363 0) + p1)))
        else
        .inl ((ci (k_closeYear (k_thisYear X S) X (si S 363 0 ((ci S 363 0) + p1))) 363 0), (k_closeYear (k_thisYear X S) X (si S 363 0 ((ci S 363 0) + p1))))
      else
      .inr "java/lang/IllegalStateException"
    else
    .inr "java/lang/IllegalArgumentException"
abbrev rm_X10_pass : Room := { frames := 10, cells := 0, slots := 0, locals := 178 }
abbrev rmt_X10_pass : Room := { frames := 10, cells := 1, slots := 6, locals := 178 }
set_option maxRecDepth 100000 in
set_option maxHeartbeats 4000000 in
theorem ck_pass {l : Launch} {k : KC} (hl : l.stackTraces = false) {X : CX} {S : CT} (hX : XOK X) {p1 : Int32} (h2 : P_in p1 1 360 → (ci S 363 0) + p1 ≤ 1079 → ¬ (k_thisYear X (si S 363 0 ((ci S 363 0) + p1))) ≤ (k_thisYear X S) → ∀ x, lI X 1 x → P_num (k_thisYear X S) (nS X 28 x) ∧ P_num ((k_thisYear X S) + 1) (nS X 28 x))  : MC l k yX10_pass (.code yX10_pass cX10_pass 3 (some .int)) rmt_X10_pass [(vr X 11 0), .int p1] (cW k X S) (pOi k X S (k_pass p1 X S)) := by
  refine MC.of 1 hl (by decide) (by simp only [lg_sl_vr, lg_sl_i, lg_sl_l, lg_sl_0]; exact Nat.le_of_ble_eq_true rfl) ?_
  intro p e s m args below meth c A Q G B B2 hout
  simp only [lp_args_vr, lp_args_i, lp_args_l, lp_args_0]
  show Wx p l e rmt_X10_pass s m args below meth c k A 3 Q 1 6 0 [some ((vr X 11 0)), some (.int p1), none] [] (cW k X S)
  refine x_iload1 (pc := 0) G dX10_pass_0 ?_
  refine x_iconst (pc := 1) (v := 1) G dX10_pass_1 ic_1 ?_
  refine x_sipush (pc := 2) (v := 360) G dX10_pass_2 sp_360 ?_
  rcases Decidable.em (¬ (P_in p1 1 360)) with c1 | c1
  · exact x_cSt3 (pc := 5) G B B2 hout (no_requireRange hl c1) q_ml_X10_92 h_X10_requireRange ⟨Nat.le_of_ble_eq_true rfl, Nat.le_of_ble_eq_true rfl⟩ (Nat.le_of_ble_eq_true rfl) (Nat.le_refl _) (Nat.le_refl _) dX10_pass_5 (by rw [k_pass, if_neg c1]; exact ⟨rfl, rfl⟩)
  have c1 := Decidable.not_not.mp c1
  refine x_cSv3 (pc := 5) G (ok_requireRange hl c1) q_ml_X10_92 h_X10_requireRange ⟨Nat.le_of_ble_eq_true rfl, Nat.le_of_ble_eq_true rfl⟩ (Nat.le_of_ble_eq_true rfl) (Nat.le_refl _) (Nat.le_refl _) dX10_pass_5 ?_
  refine z_aload0 (pc := 8) G vr_r dX10_pass_8 ?_
  refine z_g (pc := 9) (f := 363) (x := 0) (v := (.int (ci S 363 0))) G kb_11 gb_X10_49 rfl hX.1 hX.l11 cr_363 dX10_pass_9 ?_
  refine x_iload1 (pc := 12) G dX10_pass_12 ?_
  refine x_iadd (pc := 13) G dX10_pass_13 ?_
  refine x_sipush (pc := 14) (v := 1079) G dX10_pass_14 sp_1079 ?_
  refine x_icmp_le (pc := 17) (tgt := 30) G dX10_pass_17 rfl (fun c2 => ?_) (fun c2 => ?_)
  · refine z_aload0 (pc := 30) G vr_r dX10_pass_30 ?_
    refine z_cV0 (pc := 31) G kb_11 hX.1 hX.l11 (ck_thisYear hl hX  ) rfl q_ml_X10_190 h_X10_thisYear ⟨Nat.le_of_ble_eq_true rfl, Nat.le_of_ble_eq_true rfl⟩ (Nat.le_of_ble_eq_true rfl) (Nat.le_refl _) (Nat.le_refl _) dX10_pass_31 ?_
    refine x_istore2 (pc := 34) G dX10_pass_34 (Nat.le_of_ble_eq_true rfl) rfl ?_
    refine z_aload0 (pc := 35) G vr_r dX10_pass_35 ?_
    refine x_dup (pc := 36) G dX10_pass_36 vr_cat ?_
    refine z_g (pc := 37) (f := 363) (x := 0) (v := (.int (ci S 363 0))) G kb_11 gb_X10_49 rfl hX.1 hX.l11 cr_363 dX10_pass_37 ?_
    refine x_iload1 (pc := 40) G dX10_pass_40 ?_
    refine x_iadd (pc := 41) G dX10_pass_41 ?_
    refine z_pI (pc := 42) (f := 363) G kb_11 gb_X10_49 rfl hX.1 hX.l11 rfl (cr_363.trans (congrArg Value.int ci_ss)) rfl rfl dX10_pass_42 ?_
    refine z_aload0 (pc := 45) G vr_r dX10_pass_45 ?_
    refine z_cV0 (pc := 46) G kb_11 hX.1 hX.l11 (ck_thisYear hl hX  ) rfl q_ml_X10_190 h_X10_thisYear ⟨Nat.le_of_ble_eq_true rfl, Nat.le_of_ble_eq_true rfl⟩ (Nat.le_of_ble_eq_true rfl) (Nat.le_refl _) (Nat.le_refl _) dX10_pass_46 ?_
    refine x_iload2 (pc := 49) G dX10_pass_49 ?_
    refine x_icmp_le (pc := 50) (tgt := 58) G dX10_pass_50 rfl (fun c3 => ?_) (fun c3 => ?_)
    · refine z_aload0 (pc := 58) G vr_r dX10_pass_58 ?_
      refine z_g (pc := 59) (f := 363) (x := 0) (v := (.int ((ci S 363 0) + p1))) G kb_11 gb_X10_49 rfl hX.1 hX.l11 (cr_363.trans (congrArg Value.int ci_ss)) dX10_pass_59 ?_
      exact x_iret (pc := 62) G B rfl dX10_pass_62 (by rw [k_pass, if_pos c1, if_pos c2, if_pos c3]; exact ⟨rfl, rfl⟩)
    refine z_aload0 (pc := 53) G vr_r dX10_pass_53 ?_
    refine x_iload2 (pc := 54) G dX10_pass_54 ?_
    refine z_cVv1 (pc := 55) G kb_11 hX.1 hX.l11 (ck_closeYear hl hX (h2 c1 c2 c3)) rfl q_ml_X10_193 h_X10_closeYear ⟨Nat.le_of_ble_eq_true rfl, Nat.le_of_ble_eq_true rfl⟩ (Nat.le_of_ble_eq_true rfl) (Nat.le_refl _) (Nat.le_refl _) dX10_pass_55 ?_
    refine z_aload0 (pc := 58) G vr_r dX10_pass_58 ?_
    refine z_g (pc := 59) (f := 363) (x := 0) (v := (.int (ci (k_closeYear (k_thisYear X S) X (si S 363 0 ((ci S 363 0) + p1))) 363 0))) G kb_11 gb_X10_49 rfl hX.1 hX.l11 cr_363 dX10_pass_59 ?_
    exact x_iret (pc := 62) G B rfl dX10_pass_62 (by rw [k_pass, if_pos c1, if_pos c2, if_neg c3]; exact ⟨rfl, rfl⟩)
  exact z_ISE (pc := 20) G B B2 hout (is := 188) (text := "the last day is 1079") (by decide +kernel) dX10_pass_20 dX10_pass_23 (Or.inl ⟨dX10_pass_24, dX10_pass_26, dX10_pass_29⟩) ⟨Nat.le_of_ble_eq_true rfl, Nat.le_of_ble_eq_true rfl⟩ (Nat.le_of_ble_eq_true rfl) (Nat.le_of_ble_eq_true rfl) (by rw [k_pass, if_pos c1, if_neg c2]; exact ⟨rfl, rfl⟩)
theorem dX10_send_0 : decode cX10_send 0 = .ok (.aload_n 0, 1) := by decide +kernel
theorem dX10_send_1 : decode cX10_send 1 = .ok (.iload_n 1, 1) := by decide +kernel
theorem dX10_send_2 : decode cX10_send 2 = .ok (.invokevirtual 204, 3) := by decide +kernel
theorem dX10_send_5 : decode cX10_send 5 = .ok (.astore_n 2, 1) := by decide +kernel
theorem dX10_send_6 : decode cX10_send 6 = .ok (.aload_n 2, 1) := by decide +kernel
theorem dX10_send_7 : decode cX10_send 7 = .ok (.getfield 209, 3) := by decide +kernel
theorem dX10_send_10 : decode cX10_send 10 = .ok (.ifCond .ne 13, 3) := by decide +kernel
theorem dX10_send_13 : decode cX10_send 13 = .ok (.aload_n 2, 1) := by decide +kernel
theorem dX10_send_14 : decode cX10_send 14 = .ok (.getfield 212, 3) := by decide +kernel
theorem dX10_send_17 : decode cX10_send 17 = .ok (.invokevirtual 222, 3) := by decide +kernel
theorem dX10_send_20 : decode cX10_send 20 = .ok (.ifCond .eq 13, 3) := by decide +kernel
theorem dX10_send_23 : decode cX10_send 23 = .ok (.new 100, 3) := by decide +kernel
theorem dX10_send_26 : decode cX10_send 26 = .ok (.dup, 1) := by decide +kernel
theorem dX10_send_27 : decode cX10_send 27 = .ok (.ldc 226, 2) := by decide +kernel
theorem dX10_send_29 : decode cX10_send 29 = .ok (.invokespecial 104, 3) := by decide +kernel
theorem dX10_send_32 : decode cX10_send 32 = .ok (.athrow, 1) := by decide +kernel
theorem dX10_send_33 : decode cX10_send 33 = .ok (.aload_n 2, 1) := by decide +kernel
theorem dX10_send_34 : decode cX10_send 34 = .ok (.invokevirtual 228, 3) := by decide +kernel
theorem dX10_send_37 : decode cX10_send 37 = .ok (.lstore_n 3, 1) := by decide +kernel
theorem dX10_send_38 : decode cX10_send 38 = .ok (.aload_n 2, 1) := by decide +kernel
theorem dX10_send_39 : decode cX10_send 39 = .ok (.getfield 231, 3) := by decide +kernel
theorem dX10_send_42 : decode cX10_send 42 = .ok (.aload_n 0, 1) := by decide +kernel
theorem dX10_send_43 : decode cX10_send 43 = .ok (.invokevirtual 190, 3) := by decide +kernel
theorem dX10_send_46 : decode cX10_send 46 = .ok (.lload_n 3, 1) := by decide +kernel
theorem dX10_send_47 : decode cX10_send 47 = .ok (.invokestatic 235, 3) := by decide +kernel
theorem dX10_send_50 : decode cX10_send 50 = .ok (.aload_n 2, 1) := by decide +kernel
theorem dX10_send_51 : decode cX10_send 51 = .ok (.aload_n 0, 1) := by decide +kernel
theorem dX10_send_52 : decode cX10_send 52 = .ok (.invokevirtual 190, 3) := by decide +kernel
theorem dX10_send_55 : decode cX10_send 55 = .ok (.putfield 239, 3) := by decide +kernel
theorem dX10_send_58 : decode cX10_send 58 = .ok (.aload_n 2, 1) := by decide +kernel
theorem dX10_send_59 : decode cX10_send 59 = .ok (.lload_n 3, 1) := by decide +kernel
theorem dX10_send_60 : decode cX10_send 60 = .ok (.invokestatic 242, 3) := by decide +kernel
theorem dX10_send_63 : decode cX10_send 63 = .ok (.aload_n 0, 1) := by decide +kernel
theorem dX10_send_64 : decode cX10_send 64 = .ok (.aload_n 2, 1) := by decide +kernel
theorem dX10_send_65 : decode cX10_send 65 = .ok (.lload_n 3, 1) := by decide +kernel
theorem dX10_send_66 : decode cX10_send 66 = .ok (.invokevirtual 246, 3) := by decide +kernel
theorem dX10_send_69 : decode cX10_send 69 = .ok (.aload_n 2, 1) := by decide +kernel
theorem dX10_send_70 : decode cX10_send 70 = .ok (.iconst 1, 1) := by decide +kernel
theorem dX10_send_71 : decode cX10_send 71 = .ok (.putfield 209, 3) := by decide +kernel
theorem dX10_send_74 : decode cX10_send 74 = .ok (.aload_n 2, 1) := by decide +kernel
theorem dX10_send_75 : decode cX10_send 75 = .ok (.invokestatic 249, 3) := by decide +kernel
theorem dX10_send_78 : decode cX10_send 78 = .ok (.ireturn, 1) := by decide +kernel
def k_send (p1 : Int32) (X : CX) (S : CT) : (Int32 × CT) ⊕ String :=
    if P_num p1 (nS X 24 0) then
      if (ci S 259 p1) = 0 then
        if nS X 29 p1 = 0 then
          .inr "java/lang/IllegalStateException"
        else
        if ¬ ci S 33 (xi X 257 p1) = 0 ∨ (k_total p1 X S) ≤ k_free (3 * (xi X 257 p1) + (k_thisYear X S)) X S then
          .inl ((k_waitOrApprove p1 X (si (k_startChain p1 (k_total p1 X S) X (k_commit p1 (k_total p1 X S) X (si S 260 p1 (k_thisYear X S)))) 259 p1 1)).1, (k_waitOrApprove p1 X (si (k_startChain p1 (k_total p1 X S) X (k_commit p1 (k_total p1 X S) X (si S 260 p1 (k_thisYear X S)))) 259 p1 1)).2)
        else
        .inr "java/lang/IllegalStateException"
      else
      .inr "java/lang/IllegalStateException"
    else
    .inr "java/lang/IndexOutOfBoundsException"
abbrev rm_X10_send : Room := { frames := 9, cells := 0, slots := 0, locals := 155 }
abbrev rmt_X10_send : Room := { frames := 9, cells := 1, slots := 6, locals := 155 }
set_option maxRecDepth 100000 in
set_option maxHeartbeats 4000000 in
theorem ck_send {l : Launch} {k : KC} (hl : l.stackTraces = false) {X : CX} {S : CT} (hX : XOK X) {p1 : Int32} (hB : BS X) (hT : TS X S) (hC : LC X S)  : MC l k yX10_send (.code yX10_send cX10_send 5 (some .int)) rmt_X10_send [(vr X 11 0), .int p1] (cW k X S) (pOi k X S (k_send p1 X S)) := by
  refine MC.of 3 hl (by decide) (by simp only [lg_sl_vr, lg_sl_i, lg_sl_l, lg_sl_0]; exact Nat.le_of_ble_eq_true rfl) ?_
  intro p e s m args below meth c A Q G B B2 hout
  simp only [lp_args_vr, lp_args_i, lp_args_l, lp_args_0]
  show Wx p l e rmt_X10_send s m args below meth c k A 5 Q 1 6 0 [some ((vr X 11 0)), some (.int p1), none, none, none] [] (cW k X S)
  refine z_aload0 (pc := 0) G vr_r dX10_send_0 ?_
  refine x_iload1 (pc := 1) G dX10_send_1 ?_
  rcases Decidable.em (¬ (P_num p1 (nS X 24 0))) with c1 | c1
  · exact z_cVt1 (pc := 2) G kb_11 hX.1 hX.l11 B B2 hout (no_requestAt hl hX  c1) rfl q_ml_X10_204 h_X10_requestAt ⟨Nat.le_of_ble_eq_true rfl, Nat.le_of_ble_eq_true rfl⟩ (Nat.le_of_ble_eq_true rfl) (Nat.le_refl _) (Nat.le_refl _) dX10_send_2 (by rw [k_send, if_neg c1]; exact ⟨rfl, rfl⟩)
  have c1 := Decidable.not_not.mp c1
  refine z_cV1 (pc := 2) G kb_11 hX.1 hX.l11 (ok_requestAt hl hX  c1) rfl q_ml_X10_204 h_X10_requestAt ⟨Nat.le_of_ble_eq_true rfl, Nat.le_of_ble_eq_true rfl⟩ (Nat.le_of_ble_eq_true rfl) (Nat.le_refl _) (Nat.le_refl _) dX10_send_2 ?_
  refine z_astore2 (pc := 5) G vr_r dX10_send_5 (Nat.le_of_ble_eq_true rfl) rfl ?_
  refine z_aload2 (pc := 6) G vr_r dX10_send_6 ?_
  refine z_g (pc := 7) (f := 259) (x := p1) (v := (.int (ci S 259 p1))) G kb_8 gb_X10_209 rfl hX.1 (hX.el24 c1) cr_259 dX10_send_7 ?_
  refine x_if_ne (pc := 10) (y := 0) (tgt := 23) G dX10_send_10 rfl (fun c2 => ?_) (fun c2 => ?_)
  · exact z_ISE (pc := 23) G B B2 hout (is := 226) (text := "it is no DRAFT, or has no line") (by decide +kernel) dX10_send_23 dX10_send_26 (Or.inl ⟨dX10_send_27, dX10_send_29, dX10_send_32⟩) ⟨Nat.le_of_ble_eq_true rfl, Nat.le_of_ble_eq_true rfl⟩ (Nat.le_of_ble_eq_true rfl) (Nat.le_of_ble_eq_true rfl) (by rw [k_send, if_pos c1, if_neg c2]; exact ⟨rfl, rfl⟩)
  refine z_aload2 (pc := 13) G vr_r dX10_send_13 ?_
  refine z_g (pc := 14) (f := 258) (x := p1) (v := (aR X 29 p1)) G kb_8 gb_X10_212 rfl hX.1 (hX.el24 c1) cr_258 dX10_send_14 ?_
  refine z_isEmpty (pc := 17) (Li := 29) (x := p1) G hX.1 (hX.lw29 (hX.el24 c1)) q_ml_X10_222 ⟨Nat.le_of_ble_eq_true rfl, Nat.le_of_ble_eq_true rfl⟩ (Nat.le_of_ble_eq_true rfl) dX10_send_17 ?_
  rcases Decidable.em (nS X 29 p1 = 0) with c3 | c3
  · rw [if_pos c3]
    refine x_if_eq (pc := 20) (y := 0) (tgt := 33) G dX10_send_20 rfl (fun q => absurd q (by decide)) (fun _ => ?_)
    exact z_ISE (pc := 23) G B B2 hout (is := 226) (text := "it is no DRAFT, or has no line") (by decide +kernel) dX10_send_23 dX10_send_26 (Or.inl ⟨dX10_send_27, dX10_send_29, dX10_send_32⟩) ⟨Nat.le_of_ble_eq_true rfl, Nat.le_of_ble_eq_true rfl⟩ (Nat.le_of_ble_eq_true rfl) (Nat.le_of_ble_eq_true rfl) (by rw [k_send, if_pos c1, if_pos c2, if_pos c3]; exact ⟨rfl, rfl⟩)
  rw [if_neg c3]
  refine x_if_eq (pc := 20) (y := 0) (tgt := 33) G dX10_send_20 rfl (fun _ => ?_) (fun q => absurd q (by decide))
  refine z_aload2 (pc := 33) G vr_r dX10_send_33 ?_
  refine z_cV0 (pc := 34) G kb_8 hX.1 (hX.el24 c1) (ck_total hl hX (hX.el24 c1) ) rfl q_ml_X10_228 h_X7_total ⟨Nat.le_of_ble_eq_true rfl, Nat.le_of_ble_eq_true rfl⟩ (Nat.le_of_ble_eq_true rfl) (Nat.le_refl _) (Nat.le_refl _) dX10_send_34 ?_
  refine x_lstore3 (pc := 37) G dX10_send_37 (Nat.le_of_ble_eq_true rfl) lp_c2_vr ?_
  refine z_aload2 (pc := 38) G vr_r dX10_send_38 ?_
  refine z_g (pc := 39) (f := 257) (x := p1) (v := (vr X 1 (xi X 257 p1))) G kb_8 gb_X10_231 rfl hX.1 (hX.el24 c1) cr_257 dX10_send_39 ?_
  refine z_aload0 (pc := 42) G vr_r dX10_send_42 ?_
  refine z_cV0 (pc := 43) G kb_11 hX.1 hX.l11 (ck_thisYear hl hX  ) rfl q_ml_X10_190 h_X10_thisYear ⟨Nat.le_of_ble_eq_true rfl, Nat.le_of_ble_eq_true rfl⟩ (by simp only [List.map_cons, List.map_nil, vr_cat]; exact Nat.le_of_ble_eq_true rfl) (Nat.le_refl _) (Nat.le_refl _) dX10_send_43 ?_
  refine x_lload3 (pc := 46) G dX10_send_46 ?_
  rcases Decidable.em (¬ (¬ ci S 33 (xi X 257 p1) = 0 ∨ (k_total p1 X S) ≤ k_free (3 * (xi X 257 p1) + (k_thisYear X S)) X S)) with c4 | c4
  · exact x_cSt3 (pc := 47) G B B2 hout (no_requireFree hl hX (hX.cent (hX.el24 c1)) (hC.1 _ (hX.cent (hX.el24 c1))) c4) q_ml_X10_235 h_X10_requireFree ⟨Nat.le_of_ble_eq_true rfl, Nat.le_of_ble_eq_true rfl⟩ (Nat.le_of_ble_eq_true rfl) (Nat.le_refl _) (Nat.le_refl _) dX10_send_47 (by rw [k_send, if_pos c1, if_pos c2, if_neg c3, if_neg c4]; exact ⟨rfl, rfl⟩)
  have c4 := Decidable.not_not.mp c4
  refine x_cSv3 (pc := 47) G (ok_requireFree hl hX (hX.cent (hX.el24 c1)) (hC.1 _ (hX.cent (hX.el24 c1))) c4) q_ml_X10_235 h_X10_requireFree ⟨Nat.le_of_ble_eq_true rfl, Nat.le_of_ble_eq_true rfl⟩ (Nat.le_of_ble_eq_true rfl) (Nat.le_refl _) (Nat.le_refl _) dX10_send_47 ?_
  refine z_aload2 (pc := 50) G vr_r dX10_send_50 ?_
  refine z_aload0 (pc := 51) G vr_r dX10_send_51 ?_
  refine z_cV0 (pc := 52) G kb_11 hX.1 hX.l11 (ck_thisYear hl hX  ) rfl q_ml_X10_190 h_X10_thisYear ⟨Nat.le_of_ble_eq_true rfl, Nat.le_of_ble_eq_true rfl⟩ (by simp only [List.map_cons, List.map_nil, vr_cat]; exact Nat.le_of_ble_eq_true rfl) (Nat.le_refl _) (Nat.le_refl _) dX10_send_52 ?_
  refine z_pI (pc := 55) (f := 260) G kb_8 gb_X10_239 rfl hX.1 (hX.el24 c1) rfl (cr_260.trans (congrArg Value.int ci_ss)) rfl rfl dX10_send_55 ?_
  refine z_aload2 (pc := 58) G vr_r dX10_send_58 ?_
  refine x_lload3 (pc := 59) G dX10_send_59 ?_
  refine x_cSv2 (pc := 60) G (ck_commit hl hX (hX.el24 c1) (by rw [ci_ss]; exact hC.1 _ (hX.cent (hX.el24 c1)))) q_ml_X10_242 h_X10_commit ⟨Nat.le_of_ble_eq_true rfl, Nat.le_of_ble_eq_true rfl⟩ (Nat.le_of_ble_eq_true rfl) (Nat.le_refl _) (Nat.le_refl _) dX10_send_60 ?_
  refine z_aload0 (pc := 63) G vr_r dX10_send_63 ?_
  refine z_aload2 (pc := 64) G vr_r dX10_send_64 ?_
  refine x_lload3 (pc := 65) G dX10_send_65 ?_
  refine z_cVv2 (pc := 66) G kb_11 hX.1 hX.l11 (ck_startChain hl hX (hX.el24 c1) hB (hT.of fun f x hf => by rcases hf with rfl | rfl | rfl | rfl | rfl | rfl <;> rw [ci_commit, ci_sn rfl])) rfl q_ml_X10_246 h_X10_startChain ⟨Nat.le_of_ble_eq_true rfl, Nat.le_of_ble_eq_true rfl⟩ (Nat.le_of_ble_eq_true rfl) (Nat.le_refl _) (Nat.le_refl _) dX10_send_66 ?_
  refine z_aload2 (pc := 69) G vr_r dX10_send_69 ?_
  refine x_iconst (pc := 70) (v := 1) G dX10_send_70 ic_1 ?_
  refine z_pI (pc := 71) (f := 259) G kb_8 gb_X10_209 rfl hX.1 (hX.el24 c1) rfl (cr_259.trans (congrArg Value.int ci_ss)) rfl rfl dX10_send_71 ?_
  refine z_aload2 (pc := 74) G vr_r dX10_send_74 ?_
  refine x_cS1 (pc := 75) G (ck_waitOrApprove hl hX (hX.el24 c1) hB (by rw [ci_sn rfl, ci_startChain_turn]; exact hX.boss (hX.asker (hX.el24 c1)))) q_ml_X10_249 h_X10_waitOrApprove ⟨Nat.le_of_ble_eq_true rfl, Nat.le_of_ble_eq_true rfl⟩ (Nat.le_of_ble_eq_true rfl) (Nat.le_refl _) (Nat.le_refl _) dX10_send_75 ?_
  exact x_iret (pc := 78) G B rfl dX10_send_78 (by rw [k_send, if_pos c1, if_pos c2, if_neg c3, if_pos c4]; exact ⟨rfl, rfl⟩)
theorem dX10_approve_0 : decode cX10_approve 0 = .ok (.aload_n 0, 1) := by decide +kernel
theorem dX10_approve_1 : decode cX10_approve 1 = .ok (.iload_n 1, 1) := by decide +kernel
theorem dX10_approve_2 : decode cX10_approve 2 = .ok (.invokevirtual 204, 3) := by decide +kernel
theorem dX10_approve_5 : decode cX10_approve 5 = .ok (.astore_n 3, 1) := by decide +kernel
theorem dX10_approve_6 : decode cX10_approve 6 = .ok (.aload_n 0, 1) := by decide +kernel
theorem dX10_approve_7 : decode cX10_approve 7 = .ok (.iload_n 2, 1) := by decide +kernel
theorem dX10_approve_8 : decode cX10_approve 8 = .ok (.invokevirtual 87, 3) := by decide +kernel
theorem dX10_approve_11 : decode cX10_approve 11 = .ok (.astore 4, 2) := by decide +kernel
theorem dX10_approve_13 : decode cX10_approve 13 = .ok (.aload_n 3, 1) := by decide +kernel
theorem dX10_approve_14 : decode cX10_approve 14 = .ok (.getfield 209, 3) := by decide +kernel
theorem dX10_approve_17 : decode cX10_approve 17 = .ok (.iconst 1, 1) := by decide +kernel
theorem dX10_approve_18 : decode cX10_approve 18 = .ok (.if_icmp .eq 13, 3) := by decide +kernel
theorem dX10_approve_21 : decode cX10_approve 21 = .ok (.new 100, 3) := by decide +kernel
theorem dX10_approve_24 : decode cX10_approve 24 = .ok (.dup, 1) := by decide +kernel
theorem dX10_approve_25 : decode cX10_approve 25 = .ok (.ldc 253, 2) := by decide +kernel
theorem dX10_approve_27 : decode cX10_approve 27 = .ok (.invokespecial 104, 3) := by decide +kernel
theorem dX10_approve_30 : decode cX10_approve 30 = .ok (.athrow, 1) := by decide +kernel
theorem dX10_approve_31 : decode cX10_approve 31 = .ok (.aload_n 3, 1) := by decide +kernel
theorem dX10_approve_32 : decode cX10_approve 32 = .ok (.getfield 255, 3) := by decide +kernel
theorem dX10_approve_35 : decode cX10_approve 35 = .ok (.astore 5, 2) := by decide +kernel
theorem dX10_approve_37 : decode cX10_approve 37 = .ok (.aload 5, 2) := by decide +kernel
theorem dX10_approve_39 : decode cX10_approve 39 = .ok (.ifnull 31, 3) := by decide +kernel
theorem dX10_approve_42 : decode cX10_approve 42 = .ok (.aload 4, 2) := by decide +kernel
theorem dX10_approve_44 : decode cX10_approve 44 = .ok (.aload_n 0, 1) := by decide +kernel
theorem dX10_approve_45 : decode cX10_approve 45 = .ok (.aload_n 3, 1) := by decide +kernel
theorem dX10_approve_46 : decode cX10_approve 46 = .ok (.aload 5, 2) := by decide +kernel
theorem dX10_approve_48 : decode cX10_approve 48 = .ok (.invokevirtual 258, 3) := by decide +kernel
theorem dX10_approve_51 : decode cX10_approve 51 = .ok (.if_acmp .ne 19, 3) := by decide +kernel
theorem dX10_approve_54 : decode cX10_approve 54 = .ok (.aload_n 3, 1) := by decide +kernel
theorem dX10_approve_55 : decode cX10_approve 55 = .ok (.aload 5, 2) := by decide +kernel
theorem dX10_approve_57 : decode cX10_approve 57 = .ok (.aload_n 3, 1) := by decide +kernel
theorem dX10_approve_58 : decode cX10_approve 58 = .ok (.invokevirtual 228, 3) := by decide +kernel
theorem dX10_approve_61 : decode cX10_approve 61 = .ok (.invokestatic 262, 3) := by decide +kernel
theorem dX10_approve_64 : decode cX10_approve 64 = .ok (.putfield 255, 3) := by decide +kernel
theorem dX10_approve_67 : decode cX10_approve 67 = .ok (.goto 36, 3) := by decide +kernel
theorem dX10_approve_70 : decode cX10_approve 70 = .ok (.aload 4, 2) := by decide +kernel
theorem dX10_approve_72 : decode cX10_approve 72 = .ok (.aload_n 0, 1) := by decide +kernel
theorem dX10_approve_73 : decode cX10_approve 73 = .ok (.aload_n 3, 1) := by decide +kernel
theorem dX10_approve_74 : decode cX10_approve 74 = .ok (.aload_n 3, 1) := by decide +kernel
theorem dX10_approve_75 : decode cX10_approve 75 = .ok (.getfield 266, 3) := by decide +kernel
theorem dX10_approve_78 : decode cX10_approve 78 = .ok (.invokevirtual 258, 3) := by decide +kernel
theorem dX10_approve_81 : decode cX10_approve 81 = .ok (.if_acmp .ne 11, 3) := by decide +kernel
theorem dX10_approve_84 : decode cX10_approve 84 = .ok (.aload_n 3, 1) := by decide +kernel
theorem dX10_approve_85 : decode cX10_approve 85 = .ok (.aconst_null, 1) := by decide +kernel
theorem dX10_approve_86 : decode cX10_approve 86 = .ok (.putfield 266, 3) := by decide +kernel
theorem dX10_approve_89 : decode cX10_approve 89 = .ok (.goto 14, 3) := by decide +kernel
theorem dX10_approve_92 : decode cX10_approve 92 = .ok (.new 100, 3) := by decide +kernel
theorem dX10_approve_95 : decode cX10_approve 95 = .ok (.dup, 1) := by decide +kernel
theorem dX10_approve_96 : decode cX10_approve 96 = .ok (.ldc_w 269, 3) := by decide +kernel
theorem dX10_approve_99 : decode cX10_approve 99 = .ok (.invokespecial 104, 3) := by decide +kernel
theorem dX10_approve_102 : decode cX10_approve 102 = .ok (.athrow, 1) := by decide +kernel
theorem dX10_approve_103 : decode cX10_approve 103 = .ok (.aload_n 3, 1) := by decide +kernel
theorem dX10_approve_104 : decode cX10_approve 104 = .ok (.invokestatic 249, 3) := by decide +kernel
theorem dX10_approve_107 : decode cX10_approve 107 = .ok (.ireturn, 1) := by decide +kernel
def k_approve (p1 : Int32) (p2 : Int32) (X : CX) (S : CT) : (Int32 × CT) ⊕ String :=
    if P_num p1 (nS X 24 0) then
      if P_num p2 (nS X 20 0) then
        if (ci S 259 p1) = 1 then
          if (ci S 262 p1) = -1 then
            if p2 = (k_approverFor p1 (ci S 263 p1) X S) then
              .inl ((k_waitOrApprove p1 X (si S 263 p1 (-1))).1, (k_waitOrApprove p1 X (si S 263 p1 (-1))).2)
            else
            .inr "java/lang/IllegalStateException"
          else
          if p2 = (k_approverFor p1 (ci S 262 p1) X S) then
            .inl ((k_waitOrApprove p1 X (si S 262 p1 (k_bossAfter (ci S 262 p1) (k_total p1 X S) X S))).1, (k_waitOrApprove p1 X (si S 262 p1 (k_bossAfter (ci S 262 p1) (k_total p1 X S) X S))).2)
          else
          if p2 = (k_approverFor p1 (ci S 263 p1) X S) then
            .inl ((k_waitOrApprove p1 X (si S 263 p1 (-1))).1, (k_waitOrApprove p1 X (si S 263 p1 (-1))).2)
          else
          .inr "java/lang/IllegalStateException"
        else
        .inr "java/lang/IllegalStateException"
      else
      .inr "java/lang/IndexOutOfBoundsException"
    else
    .inr "java/lang/IndexOutOfBoundsException"
abbrev rm_X10_approve : Room := { frames := 8, cells := 0, slots := 0, locals := 133 }
abbrev rmt_X10_approve : Room := { frames := 8, cells := 1, slots := 6, locals := 133 }
set_option maxRecDepth 100000 in
set_option maxHeartbeats 4000000 in
theorem ck_approve {l : Launch} {k : KC} (hl : l.stackTraces = false) {X : CX} {S : CT} (hX : XOK X) {p1 : Int32} {p2 : Int32} (hB : BS X) (hT : TS X S)  : MC l k yX10_approve (.code yX10_approve cX10_approve 6 (some .int)) rmt_X10_approve [(vr X 11 0), .int p1, .int p2] (cW k X S) (pOi k X S (k_approve p1 p2 X S)) := by
  refine MC.of 3 hl (by decide) (by simp only [lg_sl_vr, lg_sl_i, lg_sl_l, lg_sl_0]; exact Nat.le_of_ble_eq_true rfl) ?_
  intro p e s m args below meth c A Q G B B2 hout
  simp only [lp_args_vr, lp_args_i, lp_args_l, lp_args_0]
  show Wx p l e rmt_X10_approve s m args below meth c k A 6 Q 1 6 0 [some ((vr X 11 0)), some (.int p1), some (.int p2), none, none, none] [] (cW k X S)
  refine z_aload0 (pc := 0) G vr_r dX10_approve_0 ?_
  refine x_iload1 (pc := 1) G dX10_approve_1 ?_
  rcases Decidable.em (¬ (P_num p1 (nS X 24 0))) with c1 | c1
  · exact z_cVt1 (pc := 2) G kb_11 hX.1 hX.l11 B B2 hout (no_requestAt hl hX  c1) rfl q_ml_X10_204 h_X10_requestAt ⟨Nat.le_of_ble_eq_true rfl, Nat.le_of_ble_eq_true rfl⟩ (Nat.le_of_ble_eq_true rfl) (Nat.le_refl _) (Nat.le_refl _) dX10_approve_2 (by rw [k_approve, if_neg c1]; exact ⟨rfl, rfl⟩)
  have c1 := Decidable.not_not.mp c1
  refine z_cV1 (pc := 2) G kb_11 hX.1 hX.l11 (ok_requestAt hl hX  c1) rfl q_ml_X10_204 h_X10_requestAt ⟨Nat.le_of_ble_eq_true rfl, Nat.le_of_ble_eq_true rfl⟩ (Nat.le_of_ble_eq_true rfl) (Nat.le_refl _) (Nat.le_refl _) dX10_approve_2 ?_
  refine z_astore3 (pc := 5) G vr_r dX10_approve_5 (Nat.le_of_ble_eq_true rfl) rfl ?_
  refine z_aload0 (pc := 6) G vr_r dX10_approve_6 ?_
  refine x_iload2 (pc := 7) G dX10_approve_7 ?_
  rcases Decidable.em (¬ (P_num p2 (nS X 20 0))) with c2 | c2
  · exact z_cVt1 (pc := 8) G kb_11 hX.1 hX.l11 B B2 hout (no_personAt hl hX  c2) rfl q_ml_X10_87 h_X10_personAt ⟨Nat.le_of_ble_eq_true rfl, Nat.le_of_ble_eq_true rfl⟩ (Nat.le_of_ble_eq_true rfl) (Nat.le_refl _) (Nat.le_refl _) dX10_approve_8 (by rw [k_approve, if_pos c1, if_neg c2]; exact ⟨rfl, rfl⟩)
  have c2 := Decidable.not_not.mp c2
  refine z_cV1 (pc := 8) G kb_11 hX.1 hX.l11 (ok_personAt hl hX  c2) rfl q_ml_X10_87 h_X10_personAt ⟨Nat.le_of_ble_eq_true rfl, Nat.le_of_ble_eq_true rfl⟩ (Nat.le_of_ble_eq_true rfl) (Nat.le_refl _) (Nat.le_refl _) dX10_approve_8 ?_
  refine z_astore4 (pc := 11) G vr_r dX10_approve_11 (Nat.le_of_ble_eq_true rfl) lp_c2_vr ?_
  refine z_aload3 (pc := 13) G vr_r dX10_approve_13 ?_
  refine z_g (pc := 14) (f := 259) (x := p1) (v := (.int (ci S 259 p1))) G kb_8 gb_X10_209 rfl hX.1 (hX.el24 c1) cr_259 dX10_approve_14 ?_
  refine x_iconst (pc := 17) (v := 1) G dX10_approve_17 ic_1 ?_
  refine x_icmp_eq (pc := 18) (tgt := 31) G dX10_approve_18 rfl (fun c3 => ?_) (fun c3 => ?_)
  · refine z_aload3 (pc := 31) G vr_r dX10_approve_31 ?_
    refine z_g (pc := 32) (f := 262) (x := p1) (v := (vr X 6 (ci S 262 p1))) G kb_8 gb_X10_255 rfl hX.1 (hX.el24 c1) cr_262 dX10_approve_32 ?_
    refine z_astore5 (pc := 35) G vr_r dX10_approve_35 (Nat.le_of_ble_eq_true rfl) lp_c2_vr ?_
    refine z_aload5 (pc := 37) G vr_r dX10_approve_37 ?_
    refine z_ifnull (pc := 39) (tgt := 70) (kd := 6) (x := (ci S 262 p1)) G dX10_approve_39 rfl (fun c4 => ?_) (fun c4 => ?_)
    · refine z_aload4 (pc := 70) G vr_r dX10_approve_70 ?_
      refine z_aload0 (pc := 72) G vr_r dX10_approve_72 ?_
      refine z_aload3 (pc := 73) G vr_r dX10_approve_73 ?_
      refine z_aload3 (pc := 74) G vr_r dX10_approve_74 ?_
      refine z_g (pc := 75) (f := 263) (x := p1) (v := (vr X 6 (ci S 263 p1))) G kb_8 gb_X10_266 rfl hX.1 (hX.el24 c1) cr_263 dX10_approve_75 ?_
      refine z_cV2 (pc := 78) G kb_11 hX.1 hX.l11 (ck_approverFor hl hX (hX.el24 c1) (hT.ext (hX.el24 c1)) hT) rfl q_ml_X10_258 h_X10_approverFor ⟨Nat.le_of_ble_eq_true rfl, Nat.le_of_ble_eq_true rfl⟩ (by simp only [List.map_cons, List.map_nil, vr_cat]; exact Nat.le_of_ble_eq_true rfl) (Nat.le_refl _) (Nat.le_refl _) dX10_approve_78 ?_
      refine z_acmp_ne (pc := 81) (tgt := 92) (kd := 6) (x := p2) (y := (k_approverFor p1 (ci S 263 p1) X S)) G (Or.inr (hX.el20 c2)) (op_approverFor2 hT (hX.el24 c1) (hT.ext (hX.el24 c1))) dX10_approve_81 rfl (fun c5 => ?_) (fun c5 => ?_)
      · exact z_ISE (pc := 92) G B B2 hout (is := 269) (text := "that person cannot approve it now") (by decide +kernel) dX10_approve_92 dX10_approve_95 (Or.inr ⟨dX10_approve_96, dX10_approve_99, dX10_approve_102⟩) ⟨Nat.le_of_ble_eq_true rfl, Nat.le_of_ble_eq_true rfl⟩ (Nat.le_of_ble_eq_true rfl) (Nat.le_of_ble_eq_true rfl) (by rw [k_approve, if_pos c1, if_pos c2, if_pos c3, if_pos c4, if_neg c5]; exact ⟨rfl, rfl⟩)
      refine z_aload3 (pc := 84) G vr_r dX10_approve_84 ?_
      refine z_null (pc := 85) 6 X G dX10_approve_85 ?_
      refine z_pR (pc := 86) (f := 263) G kb_8 gb_X10_266 rfl hX.1 (hX.el24 c1) rfl (cr_263.trans (congrArg (vr X 6) ci_ss)) (Or.inl ⟨_, rfl⟩) dX10_approve_86 ?_
      refine x_goto (pc := 89) (tgt := 103) G dX10_approve_89 rfl ?_
      refine z_aload3 (pc := 103) G vr_r dX10_approve_103 ?_
      refine x_cS1 (pc := 104) G (ck_waitOrApprove hl hX (hX.el24 c1) hB (by rw [(ci_sn rfl)]; exact hT.turn (hX.el24 c1))) q_ml_X10_249 h_X10_waitOrApprove ⟨Nat.le_of_ble_eq_true rfl, Nat.le_of_ble_eq_true rfl⟩ (Nat.le_of_ble_eq_true rfl) (Nat.le_refl _) (Nat.le_refl _) dX10_approve_104 ?_
      exact x_iret (pc := 107) G B rfl dX10_approve_107 (by rw [k_approve, if_pos c1, if_pos c2, if_pos c3, if_pos c4, if_pos c5]; exact ⟨rfl, rfl⟩)
    refine z_aload4 (pc := 42) G vr_r dX10_approve_42 ?_
    refine z_aload0 (pc := 44) G vr_r dX10_approve_44 ?_
    refine z_aload3 (pc := 45) G vr_r dX10_approve_45 ?_
    refine z_aload5 (pc := 46) G vr_r dX10_approve_46 ?_
    refine z_cV2 (pc := 48) G kb_11 hX.1 hX.l11 (ck_approverFor hl hX (hX.el24 c1) (hT.turn (hX.el24 c1)) hT) rfl q_ml_X10_258 h_X10_approverFor ⟨Nat.le_of_ble_eq_true rfl, Nat.le_of_ble_eq_true rfl⟩ (by simp only [List.map_cons, List.map_nil, vr_cat]; exact Nat.le_of_ble_eq_true rfl) (Nat.le_refl _) (Nat.le_refl _) dX10_approve_48 ?_
    refine z_acmp_ne (pc := 51) (tgt := 70) (kd := 6) (x := p2) (y := (k_approverFor p1 (ci S 262 p1) X S)) G (Or.inr (hX.el20 c2)) (op_approverFor2 hT (hX.el24 c1) (hT.turn (hX.el24 c1))) dX10_approve_51 rfl (fun c6 => ?_) (fun c6 => ?_)
    · refine z_aload4 (pc := 70) G vr_r dX10_approve_70 ?_
      refine z_aload0 (pc := 72) G vr_r dX10_approve_72 ?_
      refine z_aload3 (pc := 73) G vr_r dX10_approve_73 ?_
      refine z_aload3 (pc := 74) G vr_r dX10_approve_74 ?_
      refine z_g (pc := 75) (f := 263) (x := p1) (v := (vr X 6 (ci S 263 p1))) G kb_8 gb_X10_266 rfl hX.1 (hX.el24 c1) cr_263 dX10_approve_75 ?_
      refine z_cV2 (pc := 78) G kb_11 hX.1 hX.l11 (ck_approverFor hl hX (hX.el24 c1) (hT.ext (hX.el24 c1)) hT) rfl q_ml_X10_258 h_X10_approverFor ⟨Nat.le_of_ble_eq_true rfl, Nat.le_of_ble_eq_true rfl⟩ (by simp only [List.map_cons, List.map_nil, vr_cat]; exact Nat.le_of_ble_eq_true rfl) (Nat.le_refl _) (Nat.le_refl _) dX10_approve_78 ?_
      refine z_acmp_ne (pc := 81) (tgt := 92) (kd := 6) (x := p2) (y := (k_approverFor p1 (ci S 263 p1) X S)) G (Or.inr (hX.el20 c2)) (op_approverFor2 hT (hX.el24 c1) (hT.ext (hX.el24 c1))) dX10_approve_81 rfl (fun c7 => ?_) (fun c7 => ?_)
      · exact z_ISE (pc := 92) G B B2 hout (is := 269) (text := "that person cannot approve it now") (by decide +kernel) dX10_approve_92 dX10_approve_95 (Or.inr ⟨dX10_approve_96, dX10_approve_99, dX10_approve_102⟩) ⟨Nat.le_of_ble_eq_true rfl, Nat.le_of_ble_eq_true rfl⟩ (Nat.le_of_ble_eq_true rfl) (Nat.le_of_ble_eq_true rfl) (by rw [k_approve, if_pos c1, if_pos c2, if_pos c3, if_neg c4, if_neg c6, if_neg c7]; exact ⟨rfl, rfl⟩)
      refine z_aload3 (pc := 84) G vr_r dX10_approve_84 ?_
      refine z_null (pc := 85) 6 X G dX10_approve_85 ?_
      refine z_pR (pc := 86) (f := 263) G kb_8 gb_X10_266 rfl hX.1 (hX.el24 c1) rfl (cr_263.trans (congrArg (vr X 6) ci_ss)) (Or.inl ⟨_, rfl⟩) dX10_approve_86 ?_
      refine x_goto (pc := 89) (tgt := 103) G dX10_approve_89 rfl ?_
      refine z_aload3 (pc := 103) G vr_r dX10_approve_103 ?_
      refine x_cS1 (pc := 104) G (ck_waitOrApprove hl hX (hX.el24 c1) hB (by rw [(ci_sn rfl)]; exact hT.turn (hX.el24 c1))) q_ml_X10_249 h_X10_waitOrApprove ⟨Nat.le_of_ble_eq_true rfl, Nat.le_of_ble_eq_true rfl⟩ (Nat.le_of_ble_eq_true rfl) (Nat.le_refl _) (Nat.le_refl _) dX10_approve_104 ?_
      exact x_iret (pc := 107) G B rfl dX10_approve_107 (by rw [k_approve, if_pos c1, if_pos c2, if_pos c3, if_neg c4, if_neg c6, if_pos c7]; exact ⟨rfl, rfl⟩)
    refine z_aload3 (pc := 54) G vr_r dX10_approve_54 ?_
    refine z_aload5 (pc := 55) G vr_r dX10_approve_55 ?_
    refine z_aload3 (pc := 57) G vr_r dX10_approve_57 ?_
    refine z_cV0 (pc := 58) G kb_8 hX.1 (hX.el24 c1) (ck_total hl hX (hX.el24 c1) ) rfl q_ml_X10_228 h_X7_total ⟨Nat.le_of_ble_eq_true rfl, Nat.le_of_ble_eq_true rfl⟩ (by simp only [List.map_cons, List.map_nil, vr_cat]; exact Nat.le_of_ble_eq_true rfl) (Nat.le_refl _) (Nat.le_refl _) dX10_approve_58 ?_
    refine x_cS2 (pc := 61) G (ck_bossAfter hl hX (oI.lI (hT.turn (hX.el24 c1)) c4) ) q_ml_X10_262 h_X10_bossAfter ⟨Nat.le_of_ble_eq_true rfl, Nat.le_of_ble_eq_true rfl⟩ (by simp only [List.map_cons, List.map_nil, vr_cat]; exact Nat.le_of_ble_eq_true rfl) (Nat.le_refl _) (Nat.le_refl _) dX10_approve_61 ?_
    refine z_pR (pc := 64) (f := 262) G kb_8 gb_X10_255 rfl hX.1 (hX.el24 c1) rfl (cr_262.trans (congrArg (vr X 6) ci_ss)) (Or.inl ⟨_, rfl⟩) dX10_approve_64 ?_
    refine x_goto (pc := 67) (tgt := 103) G dX10_approve_67 rfl ?_
    refine z_aload3 (pc := 103) G vr_r dX10_approve_103 ?_
    refine x_cS1 (pc := 104) G (ck_waitOrApprove hl hX (hX.el24 c1) hB (by rw [ci_ss]; exact (op_bossAfter hX (oI.lI (hT.turn (hX.el24 c1)) c4)))) q_ml_X10_249 h_X10_waitOrApprove ⟨Nat.le_of_ble_eq_true rfl, Nat.le_of_ble_eq_true rfl⟩ (Nat.le_of_ble_eq_true rfl) (Nat.le_refl _) (Nat.le_refl _) dX10_approve_104 ?_
    exact x_iret (pc := 107) G B rfl dX10_approve_107 (by rw [k_approve, if_pos c1, if_pos c2, if_pos c3, if_neg c4, if_pos c6]; exact ⟨rfl, rfl⟩)
  exact z_ISE (pc := 21) G B B2 hout (is := 253) (text := "it is not SENT") (by decide +kernel) dX10_approve_21 dX10_approve_24 (Or.inl ⟨dX10_approve_25, dX10_approve_27, dX10_approve_30⟩) ⟨Nat.le_of_ble_eq_true rfl, Nat.le_of_ble_eq_true rfl⟩ (Nat.le_of_ble_eq_true rfl) (Nat.le_of_ble_eq_true rfl) (by rw [k_approve, if_pos c1, if_pos c2, if_neg c3]; exact ⟨rfl, rfl⟩)
theorem dX10_refuse_0 : decode cX10_refuse 0 = .ok (.aload_n 0, 1) := by decide +kernel
theorem dX10_refuse_1 : decode cX10_refuse 1 = .ok (.iload_n 1, 1) := by decide +kernel
theorem dX10_refuse_2 : decode cX10_refuse 2 = .ok (.invokevirtual 204, 3) := by decide +kernel
theorem dX10_refuse_5 : decode cX10_refuse 5 = .ok (.astore_n 3, 1) := by decide +kernel
theorem dX10_refuse_6 : decode cX10_refuse 6 = .ok (.aload_n 0, 1) := by decide +kernel
theorem dX10_refuse_7 : decode cX10_refuse 7 = .ok (.iload_n 2, 1) := by decide +kernel
theorem dX10_refuse_8 : decode cX10_refuse 8 = .ok (.invokevirtual 87, 3) := by decide +kernel
theorem dX10_refuse_11 : decode cX10_refuse 11 = .ok (.astore 4, 2) := by decide +kernel
theorem dX10_refuse_13 : decode cX10_refuse 13 = .ok (.aload_n 3, 1) := by decide +kernel
theorem dX10_refuse_14 : decode cX10_refuse 14 = .ok (.getfield 209, 3) := by decide +kernel
theorem dX10_refuse_17 : decode cX10_refuse 17 = .ok (.iconst 1, 1) := by decide +kernel
theorem dX10_refuse_18 : decode cX10_refuse 18 = .ok (.if_icmp .eq 13, 3) := by decide +kernel
theorem dX10_refuse_21 : decode cX10_refuse 21 = .ok (.new 100, 3) := by decide +kernel
theorem dX10_refuse_24 : decode cX10_refuse 24 = .ok (.dup, 1) := by decide +kernel
theorem dX10_refuse_25 : decode cX10_refuse 25 = .ok (.ldc 253, 2) := by decide +kernel
theorem dX10_refuse_27 : decode cX10_refuse 27 = .ok (.invokespecial 104, 3) := by decide +kernel
theorem dX10_refuse_30 : decode cX10_refuse 30 = .ok (.athrow, 1) := by decide +kernel
theorem dX10_refuse_31 : decode cX10_refuse 31 = .ok (.aload 4, 2) := by decide +kernel
theorem dX10_refuse_33 : decode cX10_refuse 33 = .ok (.aload_n 0, 1) := by decide +kernel
theorem dX10_refuse_34 : decode cX10_refuse 34 = .ok (.aload_n 3, 1) := by decide +kernel
theorem dX10_refuse_35 : decode cX10_refuse 35 = .ok (.aload_n 3, 1) := by decide +kernel
theorem dX10_refuse_36 : decode cX10_refuse 36 = .ok (.getfield 255, 3) := by decide +kernel
theorem dX10_refuse_39 : decode cX10_refuse 39 = .ok (.invokevirtual 258, 3) := by decide +kernel
theorem dX10_refuse_42 : decode cX10_refuse 42 = .ok (.if_acmp .eq 28, 3) := by decide +kernel
theorem dX10_refuse_45 : decode cX10_refuse 45 = .ok (.aload 4, 2) := by decide +kernel
theorem dX10_refuse_47 : decode cX10_refuse 47 = .ok (.aload_n 0, 1) := by decide +kernel
theorem dX10_refuse_48 : decode cX10_refuse 48 = .ok (.aload_n 3, 1) := by decide +kernel
theorem dX10_refuse_49 : decode cX10_refuse 49 = .ok (.aload_n 3, 1) := by decide +kernel
theorem dX10_refuse_50 : decode cX10_refuse 50 = .ok (.getfield 266, 3) := by decide +kernel
theorem dX10_refuse_53 : decode cX10_refuse 53 = .ok (.invokevirtual 258, 3) := by decide +kernel
theorem dX10_refuse_56 : decode cX10_refuse 56 = .ok (.if_acmp .eq 14, 3) := by decide +kernel
theorem dX10_refuse_59 : decode cX10_refuse 59 = .ok (.new 100, 3) := by decide +kernel
theorem dX10_refuse_62 : decode cX10_refuse 62 = .ok (.dup, 1) := by decide +kernel
theorem dX10_refuse_63 : decode cX10_refuse 63 = .ok (.ldc_w 271, 3) := by decide +kernel
theorem dX10_refuse_66 : decode cX10_refuse 66 = .ok (.invokespecial 104, 3) := by decide +kernel
theorem dX10_refuse_69 : decode cX10_refuse 69 = .ok (.athrow, 1) := by decide +kernel
theorem dX10_refuse_70 : decode cX10_refuse 70 = .ok (.aload_n 3, 1) := by decide +kernel
theorem dX10_refuse_71 : decode cX10_refuse 71 = .ok (.aload_n 3, 1) := by decide +kernel
theorem dX10_refuse_72 : decode cX10_refuse 72 = .ok (.getfield 273, 3) := by decide +kernel
theorem dX10_refuse_75 : decode cX10_refuse 75 = .ok (.invokestatic 276, 3) := by decide +kernel
theorem dX10_refuse_78 : decode cX10_refuse 78 = .ok (.pop2, 1) := by decide +kernel
theorem dX10_refuse_79 : decode cX10_refuse 79 = .ok (.aload_n 3, 1) := by decide +kernel
theorem dX10_refuse_80 : decode cX10_refuse 80 = .ok (.iconst 3, 1) := by decide +kernel
theorem dX10_refuse_81 : decode cX10_refuse 81 = .ok (.putfield 209, 3) := by decide +kernel
theorem dX10_refuse_84 : decode cX10_refuse 84 = .ok (.return_, 1) := by decide +kernel
def k_refuse (p1 : Int32) (p2 : Int32) (X : CX) (S : CT) : CT ⊕ String :=
    if P_num p1 (nS X 24 0) then
      if P_num p2 (nS X 20 0) then
        if (ci S 259 p1) = 1 then
          if p2 = (k_approverFor p1 (ci S 262 p1) X S) then
            .inl (si (k_release p1 (cj S 261 p1) X S).2 259 p1 3)
          else
          if p2 = (k_approverFor p1 (ci S 263 p1) X S) then
            .inl (si (k_release p1 (cj S 261 p1) X S).2 259 p1 3)
          else
          .inr "java/lang/IllegalStateException"
        else
        .inr "java/lang/IllegalStateException"
      else
      .inr "java/lang/IndexOutOfBoundsException"
    else
    .inr "java/lang/IndexOutOfBoundsException"
abbrev rm_X10_refuse : Room := { frames := 10, cells := 0, slots := 0, locals := 178 }
abbrev rmt_X10_refuse : Room := { frames := 10, cells := 1, slots := 6, locals := 178 }
set_option maxRecDepth 100000 in
set_option maxHeartbeats 4000000 in
theorem ck_refuse {l : Launch} {k : KC} (hl : l.stackTraces = false) {X : CX} {S : CT} (hX : XOK X) {p1 : Int32} {p2 : Int32} (hT : TS X S) (hC : LC X S)  : MC l k yX10_refuse (.code yX10_refuse cX10_refuse 5 none) rmt_X10_refuse [(vr X 11 0), .int p1, .int p2] (cW k X S) (pOv k X S (k_refuse p1 p2 X S)) := by
  refine MC.of 2 hl (by decide) (by simp only [lg_sl_vr, lg_sl_i, lg_sl_l, lg_sl_0]; exact Nat.le_of_ble_eq_true rfl) ?_
  intro p e s m args below meth c A Q G B B2 hout
  simp only [lp_args_vr, lp_args_i, lp_args_l, lp_args_0]
  show Wx p l e rmt_X10_refuse s m args below meth c k A 5 Q 1 6 0 [some ((vr X 11 0)), some (.int p1), some (.int p2), none, none] [] (cW k X S)
  refine z_aload0 (pc := 0) G vr_r dX10_refuse_0 ?_
  refine x_iload1 (pc := 1) G dX10_refuse_1 ?_
  rcases Decidable.em (¬ (P_num p1 (nS X 24 0))) with c1 | c1
  · exact z_cVt1 (pc := 2) G kb_11 hX.1 hX.l11 B B2 hout (no_requestAt hl hX  c1) rfl q_ml_X10_204 h_X10_requestAt ⟨Nat.le_of_ble_eq_true rfl, Nat.le_of_ble_eq_true rfl⟩ (Nat.le_of_ble_eq_true rfl) (Nat.le_refl _) (Nat.le_refl _) dX10_refuse_2 (by rw [k_refuse, if_neg c1]; exact ⟨rfl, rfl⟩)
  have c1 := Decidable.not_not.mp c1
  refine z_cV1 (pc := 2) G kb_11 hX.1 hX.l11 (ok_requestAt hl hX  c1) rfl q_ml_X10_204 h_X10_requestAt ⟨Nat.le_of_ble_eq_true rfl, Nat.le_of_ble_eq_true rfl⟩ (Nat.le_of_ble_eq_true rfl) (Nat.le_refl _) (Nat.le_refl _) dX10_refuse_2 ?_
  refine z_astore3 (pc := 5) G vr_r dX10_refuse_5 (Nat.le_of_ble_eq_true rfl) rfl ?_
  refine z_aload0 (pc := 6) G vr_r dX10_refuse_6 ?_
  refine x_iload2 (pc := 7) G dX10_refuse_7 ?_
  rcases Decidable.em (¬ (P_num p2 (nS X 20 0))) with c2 | c2
  · exact z_cVt1 (pc := 8) G kb_11 hX.1 hX.l11 B B2 hout (no_personAt hl hX  c2) rfl q_ml_X10_87 h_X10_personAt ⟨Nat.le_of_ble_eq_true rfl, Nat.le_of_ble_eq_true rfl⟩ (Nat.le_of_ble_eq_true rfl) (Nat.le_refl _) (Nat.le_refl _) dX10_refuse_8 (by rw [k_refuse, if_pos c1, if_neg c2]; exact ⟨rfl, rfl⟩)
  have c2 := Decidable.not_not.mp c2
  refine z_cV1 (pc := 8) G kb_11 hX.1 hX.l11 (ok_personAt hl hX  c2) rfl q_ml_X10_87 h_X10_personAt ⟨Nat.le_of_ble_eq_true rfl, Nat.le_of_ble_eq_true rfl⟩ (Nat.le_of_ble_eq_true rfl) (Nat.le_refl _) (Nat.le_refl _) dX10_refuse_8 ?_
  refine z_astore4 (pc := 11) G vr_r dX10_refuse_11 (Nat.le_of_ble_eq_true rfl) lp_c2_vr ?_
  refine z_aload3 (pc := 13) G vr_r dX10_refuse_13 ?_
  refine z_g (pc := 14) (f := 259) (x := p1) (v := (.int (ci S 259 p1))) G kb_8 gb_X10_209 rfl hX.1 (hX.el24 c1) cr_259 dX10_refuse_14 ?_
  refine x_iconst (pc := 17) (v := 1) G dX10_refuse_17 ic_1 ?_
  refine x_icmp_eq (pc := 18) (tgt := 31) G dX10_refuse_18 rfl (fun c3 => ?_) (fun c3 => ?_)
  · refine z_aload4 (pc := 31) G vr_r dX10_refuse_31 ?_
    refine z_aload0 (pc := 33) G vr_r dX10_refuse_33 ?_
    refine z_aload3 (pc := 34) G vr_r dX10_refuse_34 ?_
    refine z_aload3 (pc := 35) G vr_r dX10_refuse_35 ?_
    refine z_g (pc := 36) (f := 262) (x := p1) (v := (vr X 6 (ci S 262 p1))) G kb_8 gb_X10_255 rfl hX.1 (hX.el24 c1) cr_262 dX10_refuse_36 ?_
    refine z_cV2 (pc := 39) G kb_11 hX.1 hX.l11 (ck_approverFor hl hX (hX.el24 c1) (hT.turn (hX.el24 c1)) hT) rfl q_ml_X10_258 h_X10_approverFor ⟨Nat.le_of_ble_eq_true rfl, Nat.le_of_ble_eq_true rfl⟩ (by simp only [List.map_cons, List.map_nil, vr_cat]; exact Nat.le_of_ble_eq_true rfl) (Nat.le_refl _) (Nat.le_refl _) dX10_refuse_39 ?_
    refine z_acmp_eq (pc := 42) (tgt := 70) (kd := 6) (x := p2) (y := (k_approverFor p1 (ci S 262 p1) X S)) G (Or.inr (hX.el20 c2)) (op_approverFor2 hT (hX.el24 c1) (hT.turn (hX.el24 c1))) dX10_refuse_42 rfl (fun c4 => ?_) (fun c4 => ?_)
    · refine z_aload3 (pc := 70) G vr_r dX10_refuse_70 ?_
      refine z_aload3 (pc := 71) G vr_r dX10_refuse_71 ?_
      refine z_g (pc := 72) (f := 261) (x := p1) (v := (.long (cj S 261 p1))) G kb_8 gb_X10_273 rfl hX.1 (hX.el24 c1) cr_261 dX10_refuse_72 ?_
      refine x_cS2 (pc := 75) G (ck_release hl hX (hX.el24 c1) (rel_of rfl rfl (hC.2 _ (hX.el24 c1)))) q_ml_X10_276 h_X10_release ⟨Nat.le_of_ble_eq_true rfl, Nat.le_of_ble_eq_true rfl⟩ (Nat.le_of_ble_eq_true rfl) (Nat.le_refl _) (Nat.le_refl _) dX10_refuse_75 ?_
      refine x_pop2 (pc := 78) G dX10_refuse_78 rfl ?_
      refine z_aload3 (pc := 79) G vr_r dX10_refuse_79 ?_
      refine x_iconst (pc := 80) (v := 3) G dX10_refuse_80 ic_3 ?_
      refine z_pI (pc := 81) (f := 259) G kb_8 gb_X10_209 rfl hX.1 (hX.el24 c1) rfl (cr_259.trans (congrArg Value.int ci_ss)) rfl rfl dX10_refuse_81 ?_
      exact x_vret (pc := 84) G B rfl dX10_refuse_84 (by rw [k_refuse, if_pos c1, if_pos c2, if_pos c3, if_pos c4]; exact ⟨rfl, rfl⟩)
    refine z_aload4 (pc := 45) G vr_r dX10_refuse_45 ?_
    refine z_aload0 (pc := 47) G vr_r dX10_refuse_47 ?_
    refine z_aload3 (pc := 48) G vr_r dX10_refuse_48 ?_
    refine z_aload3 (pc := 49) G vr_r dX10_refuse_49 ?_
    refine z_g (pc := 50) (f := 263) (x := p1) (v := (vr X 6 (ci S 263 p1))) G kb_8 gb_X10_266 rfl hX.1 (hX.el24 c1) cr_263 dX10_refuse_50 ?_
    refine z_cV2 (pc := 53) G kb_11 hX.1 hX.l11 (ck_approverFor hl hX (hX.el24 c1) (hT.ext (hX.el24 c1)) hT) rfl q_ml_X10_258 h_X10_approverFor ⟨Nat.le_of_ble_eq_true rfl, Nat.le_of_ble_eq_true rfl⟩ (by simp only [List.map_cons, List.map_nil, vr_cat]; exact Nat.le_of_ble_eq_true rfl) (Nat.le_refl _) (Nat.le_refl _) dX10_refuse_53 ?_
    refine z_acmp_eq (pc := 56) (tgt := 70) (kd := 6) (x := p2) (y := (k_approverFor p1 (ci S 263 p1) X S)) G (Or.inr (hX.el20 c2)) (op_approverFor2 hT (hX.el24 c1) (hT.ext (hX.el24 c1))) dX10_refuse_56 rfl (fun c5 => ?_) (fun c5 => ?_)
    · refine z_aload3 (pc := 70) G vr_r dX10_refuse_70 ?_
      refine z_aload3 (pc := 71) G vr_r dX10_refuse_71 ?_
      refine z_g (pc := 72) (f := 261) (x := p1) (v := (.long (cj S 261 p1))) G kb_8 gb_X10_273 rfl hX.1 (hX.el24 c1) cr_261 dX10_refuse_72 ?_
      refine x_cS2 (pc := 75) G (ck_release hl hX (hX.el24 c1) (rel_of rfl rfl (hC.2 _ (hX.el24 c1)))) q_ml_X10_276 h_X10_release ⟨Nat.le_of_ble_eq_true rfl, Nat.le_of_ble_eq_true rfl⟩ (Nat.le_of_ble_eq_true rfl) (Nat.le_refl _) (Nat.le_refl _) dX10_refuse_75 ?_
      refine x_pop2 (pc := 78) G dX10_refuse_78 rfl ?_
      refine z_aload3 (pc := 79) G vr_r dX10_refuse_79 ?_
      refine x_iconst (pc := 80) (v := 3) G dX10_refuse_80 ic_3 ?_
      refine z_pI (pc := 81) (f := 259) G kb_8 gb_X10_209 rfl hX.1 (hX.el24 c1) rfl (cr_259.trans (congrArg Value.int ci_ss)) rfl rfl dX10_refuse_81 ?_
      exact x_vret (pc := 84) G B rfl dX10_refuse_84 (by rw [k_refuse, if_pos c1, if_pos c2, if_pos c3, if_neg c4, if_pos c5]; exact ⟨rfl, rfl⟩)
    exact z_ISE (pc := 59) G B B2 hout (is := 271) (text := "that person cannot refuse it now") (by decide +kernel) dX10_refuse_59 dX10_refuse_62 (Or.inr ⟨dX10_refuse_63, dX10_refuse_66, dX10_refuse_69⟩) ⟨Nat.le_of_ble_eq_true rfl, Nat.le_of_ble_eq_true rfl⟩ (Nat.le_of_ble_eq_true rfl) (Nat.le_of_ble_eq_true rfl) (by rw [k_refuse, if_pos c1, if_pos c2, if_pos c3, if_neg c4, if_neg c5]; exact ⟨rfl, rfl⟩)
  exact z_ISE (pc := 21) G B B2 hout (is := 253) (text := "it is not SENT") (by decide +kernel) dX10_refuse_21 dX10_refuse_24 (Or.inl ⟨dX10_refuse_25, dX10_refuse_27, dX10_refuse_30⟩) ⟨Nat.le_of_ble_eq_true rfl, Nat.le_of_ble_eq_true rfl⟩ (Nat.le_of_ble_eq_true rfl) (Nat.le_of_ble_eq_true rfl) (by rw [k_refuse, if_pos c1, if_pos c2, if_neg c3]; exact ⟨rfl, rfl⟩)
theorem dX10_edit_0 : decode cX10_edit 0 = .ok (.aload_n 0, 1) := by decide +kernel
theorem dX10_edit_1 : decode cX10_edit 1 = .ok (.iload_n 1, 1) := by decide +kernel
theorem dX10_edit_2 : decode cX10_edit 2 = .ok (.invokevirtual 204, 3) := by decide +kernel
theorem dX10_edit_5 : decode cX10_edit 5 = .ok (.astore 4, 2) := by decide +kernel
theorem dX10_edit_7 : decode cX10_edit 7 = .ok (.aload 4, 2) := by decide +kernel
theorem dX10_edit_9 : decode cX10_edit 9 = .ok (.iload_n 2, 1) := by decide +kernel
theorem dX10_edit_10 : decode cX10_edit 10 = .ok (.invokestatic 280, 3) := by decide +kernel
theorem dX10_edit_13 : decode cX10_edit 13 = .ok (.astore 5, 2) := by decide +kernel
theorem dX10_edit_15 : decode cX10_edit 15 = .ok (.iload_n 3, 1) := by decide +kernel
theorem dX10_edit_16 : decode cX10_edit 16 = .ok (.iconst 1, 1) := by decide +kernel
theorem dX10_edit_17 : decode cX10_edit 17 = .ok (.bipush 99, 2) := by decide +kernel
theorem dX10_edit_19 : decode cX10_edit 19 = .ok (.invokestatic 92, 3) := by decide +kernel
theorem dX10_edit_22 : decode cX10_edit 22 = .ok (.aload 4, 2) := by decide +kernel
theorem dX10_edit_24 : decode cX10_edit 24 = .ok (.getfield 209, 3) := by decide +kernel
theorem dX10_edit_27 : decode cX10_edit 27 = .ok (.iconst 4, 1) := by decide +kernel
theorem dX10_edit_28 : decode cX10_edit 28 = .ok (.if_icmp .eq 12, 3) := by decide +kernel
theorem dX10_edit_31 : decode cX10_edit 31 = .ok (.aload 4, 2) := by decide +kernel
theorem dX10_edit_33 : decode cX10_edit 33 = .ok (.getfield 209, 3) := by decide +kernel
theorem dX10_edit_36 : decode cX10_edit 36 = .ok (.iconst 5, 1) := by decide +kernel
theorem dX10_edit_37 : decode cX10_edit 37 = .ok (.if_icmp .ne 14, 3) := by decide +kernel
theorem dX10_edit_40 : decode cX10_edit 40 = .ok (.new 100, 3) := by decide +kernel
theorem dX10_edit_43 : decode cX10_edit 43 = .ok (.dup, 1) := by decide +kernel
theorem dX10_edit_44 : decode cX10_edit 44 = .ok (.ldc_w 284, 3) := by decide +kernel
theorem dX10_edit_47 : decode cX10_edit 47 = .ok (.invokespecial 104, 3) := by decide +kernel
theorem dX10_edit_50 : decode cX10_edit 50 = .ok (.athrow, 1) := by decide +kernel
theorem dX10_edit_51 : decode cX10_edit 51 = .ok (.aload 4, 2) := by decide +kernel
theorem dX10_edit_53 : decode cX10_edit 53 = .ok (.aload 4, 2) := by decide +kernel
theorem dX10_edit_55 : decode cX10_edit 55 = .ok (.getfield 273, 3) := by decide +kernel
theorem dX10_edit_58 : decode cX10_edit 58 = .ok (.invokestatic 276, 3) := by decide +kernel
theorem dX10_edit_61 : decode cX10_edit 61 = .ok (.pop2, 1) := by decide +kernel
theorem dX10_edit_62 : decode cX10_edit 62 = .ok (.aload 4, 2) := by decide +kernel
theorem dX10_edit_64 : decode cX10_edit 64 = .ok (.iconst 0, 1) := by decide +kernel
theorem dX10_edit_65 : decode cX10_edit 65 = .ok (.putfield 209, 3) := by decide +kernel
theorem dX10_edit_68 : decode cX10_edit 68 = .ok (.aload 5, 2) := by decide +kernel
theorem dX10_edit_70 : decode cX10_edit 70 = .ok (.getfield 286, 3) := by decide +kernel
theorem dX10_edit_73 : decode cX10_edit 73 = .ok (.istore 6, 2) := by decide +kernel
theorem dX10_edit_75 : decode cX10_edit 75 = .ok (.aload 5, 2) := by decide +kernel
theorem dX10_edit_77 : decode cX10_edit 77 = .ok (.iload_n 3, 1) := by decide +kernel
theorem dX10_edit_78 : decode cX10_edit 78 = .ok (.putfield 286, 3) := by decide +kernel
theorem dX10_edit_81 : decode cX10_edit 81 = .ok (.iload 6, 2) := by decide +kernel
theorem dX10_edit_83 : decode cX10_edit 83 = .ok (.ireturn, 1) := by decide +kernel
def k_edit (p1 : Int32) (p2 : Int32) (p3 : Int32) (X : CX) (S : CT) : (Int32 × CT) ⊕ String :=
    if P_num p1 (nS X 24 0) then
      if P_num p2 (nS X 29 p1) then
        if P_in p3 1 99 then
          if (ci S 259 p1) = 4 then
            .inr "java/lang/IllegalStateException"
          else
          if (ci S 259 p1) = 5 then
            .inr "java/lang/IllegalStateException"
          else
          .inl ((ci S 130 (4 * p1 + p2)), (si (si (k_release p1 (cj S 261 p1) X S).2 259 p1 0) 130 (4 * p1 + p2) p3))
        else
        .inr "java/lang/IllegalArgumentException"
      else
      .inr "java/lang/IndexOutOfBoundsException"
    else
    .inr "java/lang/IndexOutOfBoundsException"
abbrev rm_X10_edit : Room := { frames := 10, cells := 0, slots := 0, locals := 178 }
abbrev rmt_X10_edit : Room := { frames := 10, cells := 1, slots := 6, locals := 178 }
set_option maxRecDepth 100000 in
set_option maxHeartbeats 4000000 in
theorem ck_edit {l : Launch} {k : KC} (hl : l.stackTraces = false) {X : CX} {S : CT} (hX : XOK X) {p1 : Int32} {p2 : Int32} {p3 : Int32} (hC : LC X S)  : MC l k yX10_edit (.code yX10_edit cX10_edit 7 (some .int)) rmt_X10_edit [(vr X 11 0), .int p1, .int p2, .int p3] (cW k X S) (pOi k X S (k_edit p1 p2 p3 X S)) := by
  refine MC.of 3 hl (by decide) (by simp only [lg_sl_vr, lg_sl_i, lg_sl_l, lg_sl_0]; exact Nat.le_of_ble_eq_true rfl) ?_
  intro p e s m args below meth c A Q G B B2 hout
  simp only [lp_args_vr, lp_args_i, lp_args_l, lp_args_0]
  show Wx p l e rmt_X10_edit s m args below meth c k A 7 Q 1 6 0 [some ((vr X 11 0)), some (.int p1), some (.int p2), some (.int p3), none, none, none] [] (cW k X S)
  refine z_aload0 (pc := 0) G vr_r dX10_edit_0 ?_
  refine x_iload1 (pc := 1) G dX10_edit_1 ?_
  rcases Decidable.em (¬ (P_num p1 (nS X 24 0))) with c1 | c1
  · exact z_cVt1 (pc := 2) G kb_11 hX.1 hX.l11 B B2 hout (no_requestAt hl hX  c1) rfl q_ml_X10_204 h_X10_requestAt ⟨Nat.le_of_ble_eq_true rfl, Nat.le_of_ble_eq_true rfl⟩ (Nat.le_of_ble_eq_true rfl) (Nat.le_refl _) (Nat.le_refl _) dX10_edit_2 (by rw [k_edit, if_neg c1]; exact ⟨rfl, rfl⟩)
  have c1 := Decidable.not_not.mp c1
  refine z_cV1 (pc := 2) G kb_11 hX.1 hX.l11 (ok_requestAt hl hX  c1) rfl q_ml_X10_204 h_X10_requestAt ⟨Nat.le_of_ble_eq_true rfl, Nat.le_of_ble_eq_true rfl⟩ (Nat.le_of_ble_eq_true rfl) (Nat.le_refl _) (Nat.le_refl _) dX10_edit_2 ?_
  refine z_astore4 (pc := 5) G vr_r dX10_edit_5 (Nat.le_of_ble_eq_true rfl) rfl ?_
  refine z_aload4 (pc := 7) G vr_r dX10_edit_7 ?_
  refine x_iload2 (pc := 9) G dX10_edit_9 ?_
  rcases Decidable.em (¬ (P_num p2 (nS X 29 p1))) with c2 | c2
  · exact x_cSt2 (pc := 10) G B B2 hout (no_lineAt hl hX (hX.el24 c1) c2) q_ml_X10_280 h_X10_lineAt ⟨Nat.le_of_ble_eq_true rfl, Nat.le_of_ble_eq_true rfl⟩ (Nat.le_of_ble_eq_true rfl) (Nat.le_refl _) (Nat.le_refl _) dX10_edit_10 (by rw [k_edit, if_pos c1, if_neg c2]; exact ⟨rfl, rfl⟩)
  have c2 := Decidable.not_not.mp c2
  refine x_cS2 (pc := 10) G (ok_lineAt hl hX (hX.el24 c1) c2) q_ml_X10_280 h_X10_lineAt ⟨Nat.le_of_ble_eq_true rfl, Nat.le_of_ble_eq_true rfl⟩ (Nat.le_of_ble_eq_true rfl) (Nat.le_refl _) (Nat.le_refl _) dX10_edit_10 ?_
  refine z_astore5 (pc := 13) G vr_r dX10_edit_13 (Nat.le_of_ble_eq_true rfl) lp_c2_vr ?_
  refine x_iload3 (pc := 15) G dX10_edit_15 ?_
  refine x_iconst (pc := 16) (v := 1) G dX10_edit_16 ic_1 ?_
  refine x_bipush (pc := 17) (v := 99) G dX10_edit_17 bp_99 ?_
  rcases Decidable.em (¬ (P_in p3 1 99)) with c3 | c3
  · exact x_cSt3 (pc := 19) G B B2 hout (no_requireRange hl c3) q_ml_X10_92 h_X10_requireRange ⟨Nat.le_of_ble_eq_true rfl, Nat.le_of_ble_eq_true rfl⟩ (Nat.le_of_ble_eq_true rfl) (Nat.le_refl _) (Nat.le_refl _) dX10_edit_19 (by rw [k_edit, if_pos c1, if_pos c2, if_neg c3]; exact ⟨rfl, rfl⟩)
  have c3 := Decidable.not_not.mp c3
  refine x_cSv3 (pc := 19) G (ok_requireRange hl c3) q_ml_X10_92 h_X10_requireRange ⟨Nat.le_of_ble_eq_true rfl, Nat.le_of_ble_eq_true rfl⟩ (Nat.le_of_ble_eq_true rfl) (Nat.le_refl _) (Nat.le_refl _) dX10_edit_19 ?_
  refine z_aload4 (pc := 22) G vr_r dX10_edit_22 ?_
  refine z_g (pc := 24) (f := 259) (x := p1) (v := (.int (ci S 259 p1))) G kb_8 gb_X10_209 rfl hX.1 (hX.el24 c1) cr_259 dX10_edit_24 ?_
  refine x_iconst (pc := 27) (v := 4) G dX10_edit_27 ic_4 ?_
  refine x_icmp_eq (pc := 28) (tgt := 40) G dX10_edit_28 rfl (fun c4 => ?_) (fun c4 => ?_)
  · exact z_ISE (pc := 40) G B B2 hout (is := 284) (text := "it was ordered") (by decide +kernel) dX10_edit_40 dX10_edit_43 (Or.inr ⟨dX10_edit_44, dX10_edit_47, dX10_edit_50⟩) ⟨Nat.le_of_ble_eq_true rfl, Nat.le_of_ble_eq_true rfl⟩ (Nat.le_of_ble_eq_true rfl) (Nat.le_of_ble_eq_true rfl) (by rw [k_edit, if_pos c1, if_pos c2, if_pos c3, if_pos c4]; exact ⟨rfl, rfl⟩)
  refine z_aload4 (pc := 31) G vr_r dX10_edit_31 ?_
  refine z_g (pc := 33) (f := 259) (x := p1) (v := (.int (ci S 259 p1))) G kb_8 gb_X10_209 rfl hX.1 (hX.el24 c1) cr_259 dX10_edit_33 ?_
  refine x_iconst (pc := 36) (v := 5) G dX10_edit_36 ic_5 ?_
  refine x_icmp_ne (pc := 37) (tgt := 51) G dX10_edit_37 rfl (fun c5 => ?_) (fun c5 => ?_)
  · refine z_aload4 (pc := 51) G vr_r dX10_edit_51 ?_
    refine z_aload4 (pc := 53) G vr_r dX10_edit_53 ?_
    refine z_g (pc := 55) (f := 261) (x := p1) (v := (.long (cj S 261 p1))) G kb_8 gb_X10_273 rfl hX.1 (hX.el24 c1) cr_261 dX10_edit_55 ?_
    refine x_cS2 (pc := 58) G (ck_release hl hX (hX.el24 c1) (rel_of rfl rfl (hC.2 _ (hX.el24 c1)))) q_ml_X10_276 h_X10_release ⟨Nat.le_of_ble_eq_true rfl, Nat.le_of_ble_eq_true rfl⟩ (Nat.le_of_ble_eq_true rfl) (Nat.le_refl _) (Nat.le_refl _) dX10_edit_58 ?_
    refine x_pop2 (pc := 61) G dX10_edit_61 rfl ?_
    refine z_aload4 (pc := 62) G vr_r dX10_edit_62 ?_
    refine x_iconst (pc := 64) (v := 0) G dX10_edit_64 ic_0 ?_
    refine z_pI (pc := 65) (f := 259) G kb_8 gb_X10_209 rfl hX.1 (hX.el24 c1) rfl (cr_259.trans (congrArg Value.int ci_ss)) rfl rfl dX10_edit_65 ?_
    refine z_aload5 (pc := 68) G vr_r dX10_edit_68 ?_
    refine z_g (pc := 70) (f := 130) (x := (4 * p1 + p2)) (v := (.int (ci S 130 (4 * p1 + p2)))) G kb_4 gb_X10_286 rfl hX.1 (hX.el29 (hX.el24 c1) c2) (cr_130.trans (congrArg Value.int ((ci_sn rfl).trans (ci_release)))) dX10_edit_70 ?_
    refine x_istore6 (pc := 73) G dX10_edit_73 (Nat.le_of_ble_eq_true rfl) lp_c2_vr ?_
    refine z_aload5 (pc := 75) G vr_r dX10_edit_75 ?_
    refine x_iload3 (pc := 77) G dX10_edit_77 ?_
    refine z_pI (pc := 78) (f := 130) G kb_4 gb_X10_286 rfl hX.1 (hX.el29 (hX.el24 c1) c2) rfl (cr_130.trans (congrArg Value.int ci_ss)) rfl rfl dX10_edit_78 ?_
    refine x_iload6 (pc := 81) G dX10_edit_81 ?_
    exact x_iret (pc := 83) G B rfl dX10_edit_83 (by rw [k_edit, if_pos c1, if_pos c2, if_pos c3, if_neg c4, if_neg c5]; exact ⟨rfl, rfl⟩)
  exact z_ISE (pc := 40) G B B2 hout (is := 284) (text := "it was ordered") (by decide +kernel) dX10_edit_40 dX10_edit_43 (Or.inr ⟨dX10_edit_44, dX10_edit_47, dX10_edit_50⟩) ⟨Nat.le_of_ble_eq_true rfl, Nat.le_of_ble_eq_true rfl⟩ (Nat.le_of_ble_eq_true rfl) (Nat.le_of_ble_eq_true rfl) (by rw [k_edit, if_pos c1, if_pos c2, if_pos c3, if_neg c4, if_pos c5]; exact ⟨rfl, rfl⟩)
