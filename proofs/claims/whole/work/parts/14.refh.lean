section XD
variable {p : Program} {l : Launch} {e : Env} {R : Room} {s : State} {m : MethodId} {args : Array Value} {below : List Frame} {meth : Method} {c : Code}
variable {k : KC} {A : Nat → Prop} {nL : Nat} {Q : State → Prop} {bc bs pc : Nat} {st : List Value} {h : Wd}
theorem Wx_sub {L L9 : List (Option Value)} (hs : ∀ (i : Nat) (v : Value), L9[i]? = some (some v) → L[i]? = some (some v)) (kk : Wx p l e R s m args below meth c k A nL Q bc bs pc L9 st h) : Wx p l e R s m args below meth c k A nL Q bc bs pc L st h := fun H locs ls cells slots h1 h2 hP hS hl => kk H locs ls cells slots h1 h2 hP hS (hl.sub hs)
theorem lp_drop {P t : List (Option Value)} {o : Option Value} (i : Nat) (v : Value) (h : (P ++ none :: t)[i]? = some (some v)) : (P ++ o :: t)[i]? = some (some v) := by
  rcases Nat.lt_trichotomy i P.length with z | z | z
  · rwa [List.getElem?_append_left z] at h ⊢
  · subst z; simp at h
  · rw [List.getElem?_append_right (by omega)] at h ⊢
    have h0 : i - P.length = (i - P.length - 1) + 1 := by omega
    rw [h0, List.getElem?_cons_succ] at h ⊢
    exact h
theorem xdrop0 { o : Option Value} {t : List (Option Value)} (kk : Wx p l e R s m args below meth c k A nL Q bc bs pc (none :: t) st h) : Wx p l e R s m args below meth c k A nL Q bc bs pc (o :: t) st h := Wx_sub (lp_drop (P := [])) kk
theorem xdrop1 {a0 o : Option Value} {t : List (Option Value)} (kk : Wx p l e R s m args below meth c k A nL Q bc bs pc (a0 :: none :: t) st h) : Wx p l e R s m args below meth c k A nL Q bc bs pc (a0 :: o :: t) st h := Wx_sub (lp_drop (P := [a0])) kk
theorem xdrop2 {a0 a1 o : Option Value} {t : List (Option Value)} (kk : Wx p l e R s m args below meth c k A nL Q bc bs pc (a0 :: a1 :: none :: t) st h) : Wx p l e R s m args below meth c k A nL Q bc bs pc (a0 :: a1 :: o :: t) st h := Wx_sub (lp_drop (P := [a0, a1])) kk
theorem xdrop3 {a0 a1 a2 o : Option Value} {t : List (Option Value)} (kk : Wx p l e R s m args below meth c k A nL Q bc bs pc (a0 :: a1 :: a2 :: none :: t) st h) : Wx p l e R s m args below meth c k A nL Q bc bs pc (a0 :: a1 :: a2 :: o :: t) st h := Wx_sub (lp_drop (P := [a0, a1, a2])) kk
theorem xdrop4 {a0 a1 a2 a3 o : Option Value} {t : List (Option Value)} (kk : Wx p l e R s m args below meth c k A nL Q bc bs pc (a0 :: a1 :: a2 :: a3 :: none :: t) st h) : Wx p l e R s m args below meth c k A nL Q bc bs pc (a0 :: a1 :: a2 :: a3 :: o :: t) st h := Wx_sub (lp_drop (P := [a0, a1, a2, a3])) kk
theorem xdrop5 {a0 a1 a2 a3 a4 o : Option Value} {t : List (Option Value)} (kk : Wx p l e R s m args below meth c k A nL Q bc bs pc (a0 :: a1 :: a2 :: a3 :: a4 :: none :: t) st h) : Wx p l e R s m args below meth c k A nL Q bc bs pc (a0 :: a1 :: a2 :: a3 :: a4 :: o :: t) st h := Wx_sub (lp_drop (P := [a0, a1, a2, a3, a4])) kk
theorem xdrop6 {a0 a1 a2 a3 a4 a5 o : Option Value} {t : List (Option Value)} (kk : Wx p l e R s m args below meth c k A nL Q bc bs pc (a0 :: a1 :: a2 :: a3 :: a4 :: a5 :: none :: t) st h) : Wx p l e R s m args below meth c k A nL Q bc bs pc (a0 :: a1 :: a2 :: a3 :: a4 :: a5 :: o :: t) st h := Wx_sub (lp_drop (P := [a0, a1, a2, a3, a4, a5])) kk
theorem xdrop7 {a0 a1 a2 a3 a4 a5 a6 o : Option Value} {t : List (Option Value)} (kk : Wx p l e R s m args below meth c k A nL Q bc bs pc (a0 :: a1 :: a2 :: a3 :: a4 :: a5 :: a6 :: none :: t) st h) : Wx p l e R s m args below meth c k A nL Q bc bs pc (a0 :: a1 :: a2 :: a3 :: a4 :: a5 :: a6 :: o :: t) st h := Wx_sub (lp_drop (P := [a0, a1, a2, a3, a4, a5, a6])) kk
theorem xdrop8 {a0 a1 a2 a3 a4 a5 a6 a7 o : Option Value} {t : List (Option Value)} (kk : Wx p l e R s m args below meth c k A nL Q bc bs pc (a0 :: a1 :: a2 :: a3 :: a4 :: a5 :: a6 :: a7 :: none :: t) st h) : Wx p l e R s m args below meth c k A nL Q bc bs pc (a0 :: a1 :: a2 :: a3 :: a4 :: a5 :: a6 :: a7 :: o :: t) st h := Wx_sub (lp_drop (P := [a0, a1, a2, a3, a4, a5, a6, a7])) kk
theorem xdrop9 {a0 a1 a2 a3 a4 a5 a6 a7 a8 o : Option Value} {t : List (Option Value)} (kk : Wx p l e R s m args below meth c k A nL Q bc bs pc (a0 :: a1 :: a2 :: a3 :: a4 :: a5 :: a6 :: a7 :: a8 :: none :: t) st h) : Wx p l e R s m args below meth c k A nL Q bc bs pc (a0 :: a1 :: a2 :: a3 :: a4 :: a5 :: a6 :: a7 :: a8 :: o :: t) st h := Wx_sub (lp_drop (P := [a0, a1, a2, a3, a4, a5, a6, a7, a8])) kk
theorem xdrop10 {a0 a1 a2 a3 a4 a5 a6 a7 a8 a9 o : Option Value} {t : List (Option Value)} (kk : Wx p l e R s m args below meth c k A nL Q bc bs pc (a0 :: a1 :: a2 :: a3 :: a4 :: a5 :: a6 :: a7 :: a8 :: a9 :: none :: t) st h) : Wx p l e R s m args below meth c k A nL Q bc bs pc (a0 :: a1 :: a2 :: a3 :: a4 :: a5 :: a6 :: a7 :: a8 :: a9 :: o :: t) st h := Wx_sub (lp_drop (P := [a0, a1, a2, a3, a4, a5, a6, a7, a8, a9])) kk
theorem xdrop11 {a0 a1 a2 a3 a4 a5 a6 a7 a8 a9 a10 o : Option Value} {t : List (Option Value)} (kk : Wx p l e R s m args below meth c k A nL Q bc bs pc (a0 :: a1 :: a2 :: a3 :: a4 :: a5 :: a6 :: a7 :: a8 :: a9 :: a10 :: none :: t) st h) : Wx p l e R s m args below meth c k A nL Q bc bs pc (a0 :: a1 :: a2 :: a3 :: a4 :: a5 :: a6 :: a7 :: a8 :: a9 :: a10 :: o :: t) st h := Wx_sub (lp_drop (P := [a0, a1, a2, a3, a4, a5, a6, a7, a8, a9, a10])) kk
theorem xdrop12 {a0 a1 a2 a3 a4 a5 a6 a7 a8 a9 a10 a11 o : Option Value} {t : List (Option Value)} (kk : Wx p l e R s m args below meth c k A nL Q bc bs pc (a0 :: a1 :: a2 :: a3 :: a4 :: a5 :: a6 :: a7 :: a8 :: a9 :: a10 :: a11 :: none :: t) st h) : Wx p l e R s m args below meth c k A nL Q bc bs pc (a0 :: a1 :: a2 :: a3 :: a4 :: a5 :: a6 :: a7 :: a8 :: a9 :: a10 :: a11 :: o :: t) st h := Wx_sub (lp_drop (P := [a0, a1, a2, a3, a4, a5, a6, a7, a8, a9, a10, a11])) kk
theorem xdrop13 {a0 a1 a2 a3 a4 a5 a6 a7 a8 a9 a10 a11 a12 o : Option Value} {t : List (Option Value)} (kk : Wx p l e R s m args below meth c k A nL Q bc bs pc (a0 :: a1 :: a2 :: a3 :: a4 :: a5 :: a6 :: a7 :: a8 :: a9 :: a10 :: a11 :: a12 :: none :: t) st h) : Wx p l e R s m args below meth c k A nL Q bc bs pc (a0 :: a1 :: a2 :: a3 :: a4 :: a5 :: a6 :: a7 :: a8 :: a9 :: a10 :: a11 :: a12 :: o :: t) st h := Wx_sub (lp_drop (P := [a0, a1, a2, a3, a4, a5, a6, a7, a8, a9, a10, a11, a12])) kk
theorem xdrop14 {a0 a1 a2 a3 a4 a5 a6 a7 a8 a9 a10 a11 a12 a13 o : Option Value} {t : List (Option Value)} (kk : Wx p l e R s m args below meth c k A nL Q bc bs pc (a0 :: a1 :: a2 :: a3 :: a4 :: a5 :: a6 :: a7 :: a8 :: a9 :: a10 :: a11 :: a12 :: a13 :: none :: t) st h) : Wx p l e R s m args below meth c k A nL Q bc bs pc (a0 :: a1 :: a2 :: a3 :: a4 :: a5 :: a6 :: a7 :: a8 :: a9 :: a10 :: a11 :: a12 :: a13 :: o :: t) st h := Wx_sub (lp_drop (P := [a0, a1, a2, a3, a4, a5, a6, a7, a8, a9, a10, a11, a12, a13])) kk
end XD
theorem dX11_looksAgain_0 : decode cX11_looksAgain 0 = .ok (.iconst 0, 1) := by decide +kernel
theorem dX11_looksAgain_1 : decode cX11_looksAgain 1 = .ok (.istore_n 2, 1) := by decide +kernel
theorem dX11_looksAgain_2 : decode cX11_looksAgain 2 = .ok (.iconst 0, 1) := by decide +kernel
theorem dX11_looksAgain_3 : decode cX11_looksAgain 3 = .ok (.istore_n 3, 1) := by decide +kernel
theorem dX11_looksAgain_4 : decode cX11_looksAgain 4 = .ok (.iload_n 3, 1) := by decide +kernel
theorem dX11_looksAgain_5 : decode cX11_looksAgain 5 = .ok (.aload_n 0, 1) := by decide +kernel
theorem dX11_looksAgain_6 : decode cX11_looksAgain 6 = .ok (.getfield 192, 3) := by decide +kernel
theorem dX11_looksAgain_9 : decode cX11_looksAgain 9 = .ok (.if_icmp .ge 44, 3) := by decide +kernel
theorem dX11_looksAgain_12 : decode cX11_looksAgain 12 = .ok (.aload_n 0, 1) := by decide +kernel
theorem dX11_looksAgain_13 : decode cX11_looksAgain 13 = .ok (.getfield 112, 3) := by decide +kernel
theorem dX11_looksAgain_16 : decode cX11_looksAgain 16 = .ok (.iload_n 3, 1) := by decide +kernel
theorem dX11_looksAgain_17 : decode cX11_looksAgain 17 = .ok (.iaload, 1) := by decide +kernel
theorem dX11_looksAgain_18 : decode cX11_looksAgain 18 = .ok (.iload_n 1, 1) := by decide +kernel
theorem dX11_looksAgain_19 : decode cX11_looksAgain 19 = .ok (.if_icmp .ne 28, 3) := by decide +kernel
theorem dX11_looksAgain_22 : decode cX11_looksAgain 22 = .ok (.aload_n 0, 1) := by decide +kernel
theorem dX11_looksAgain_23 : decode cX11_looksAgain 23 = .ok (.getfield 124, 3) := by decide +kernel
theorem dX11_looksAgain_26 : decode cX11_looksAgain 26 = .ok (.iload_n 3, 1) := by decide +kernel
theorem dX11_looksAgain_27 : decode cX11_looksAgain 27 = .ok (.iaload, 1) := by decide +kernel
theorem dX11_looksAgain_28 : decode cX11_looksAgain 28 = .ok (.ifCond .ne 19, 3) := by decide +kernel
theorem dX11_looksAgain_31 : decode cX11_looksAgain 31 = .ok (.aload_n 0, 1) := by decide +kernel
theorem dX11_looksAgain_32 : decode cX11_looksAgain 32 = .ok (.iload_n 3, 1) := by decide +kernel
theorem dX11_looksAgain_33 : decode cX11_looksAgain 33 = .ok (.invokevirtual 283, 3) := by decide +kernel
theorem dX11_looksAgain_36 : decode cX11_looksAgain 36 = .ok (.ifCond .ne 11, 3) := by decide +kernel
theorem dX11_looksAgain_39 : decode cX11_looksAgain 39 = .ok (.aload_n 0, 1) := by decide +kernel
theorem dX11_looksAgain_40 : decode cX11_looksAgain 40 = .ok (.iload_n 3, 1) := by decide +kernel
theorem dX11_looksAgain_41 : decode cX11_looksAgain 41 = .ok (.invokevirtual 286, 3) := by decide +kernel
theorem dX11_looksAgain_44 : decode cX11_looksAgain 44 = .ok (.iinc 2 1, 3) := by decide +kernel
theorem dX11_looksAgain_47 : decode cX11_looksAgain 47 = .ok (.iinc 3 1, 3) := by decide +kernel
theorem dX11_looksAgain_50 : decode cX11_looksAgain 50 = .ok (.goto (-46), 3) := by decide +kernel
theorem dX11_looksAgain_53 : decode cX11_looksAgain 53 = .ok (.iload_n 2, 1) := by decide +kernel
theorem dX11_looksAgain_54 : decode cX11_looksAgain 54 = .ok (.ireturn, 1) := by decide +kernel
def st_looksAgain (p1 : Int32) (x : Int32) (a0 : Int32) (Mi : MS) : Int32 × MS :=
    if (gI Mi 40 x) = p1 then
      if (gI Mi 44 x) = 0 then
        if (f_why x Mi) = 0 then
          ((a0 + 1), (f_books x Mi))
        else
        (a0, Mi)
      else
      (a0, Mi)
    else
    (a0, Mi)
def it_looksAgain (p1 : Int32) (M : MS) : Nat → Int32 × MS
  | 0 => (0, M)
  | i + 1 => st_looksAgain p1 (nI i) (it_looksAgain p1 M i).1 (it_looksAgain p1 M i).2
def f_looksAgain (p1 : Int32) (M : MS) : Int32 × MS :=
    it_looksAgain p1 M (mI M 39).toNatClampNeg
abbrev rm_X11_looksAgain : Room := { frames := 4, cells := 0, slots := 0, locals := 102 }
set_option maxRecDepth 100000 in
set_option maxHeartbeats 40000000 in
theorem c_looksAgain {l : Launch} {k : KC} {mo : Nat} {ad : Nat → Nat} (hl : l.stackTraces = false) (hM : HM mo ad) {M : MS} {p1 : Int32} (h39 : LE (mI M 39) 60) (hy : P_isYear (f_yearNow M)) (hv : ∀ v, P_isInvoice v M → IvOK M v) : CM l k mo ad yX11_looksAgain (.code yX11_looksAgain cX11_looksAgain 4 (some .int)) rm_X11_looksAgain [.int p1] M (some (.int (f_looksAgain p1 M).1)) (f_looksAgain p1 M).2 := by
  refine MC.of 2 hl (by decide) (Nat.le_of_ble_eq_true rfl) ?_
  intro p e s m args below meth c A Q G B _ _
  show Wx p l e rm_X11_looksAgain s m args below meth c k A 4 Q 0 0 0 [some (.ref mo), some (.int p1), none, none] [] (mW k mo ad M)
  obtain ⟨n, hn, e39⟩ := h39
  refine x_iconst (pc := 0) (v := 0) G dX11_looksAgain_0 ic_0 ?_
  refine x_istore2 (pc := 1) G dX11_looksAgain_1 (Nat.le_of_ble_eq_true rfl) rfl ?_
  refine x_iconst (pc := 2) (v := 0) G dX11_looksAgain_2 ic_0 ?_
  refine x_istore3 (pc := 3) G dX11_looksAgain_3 (Nat.le_of_ble_eq_true rfl) rfl ?_
  have hF : f_looksAgain p1 M = it_looksAgain p1 M n := by rw [f_looksAgain, e39, nI_clamp (by omega)]
  have loop : ∀ (f i : Nat) (a0 : Int32) (Mi : MS), i ≤ n → n - i < f → it_looksAgain p1 M i = (a0, Mi) → LpOK n Mi → Wx p l e rm_X11_looksAgain s m args below meth c k A 4 Q 0 0 4 [some (.ref mo), some (.int p1), some (.int a0), some (.int (nI i))] [] (mW k mo ad Mi) := by
    intro f
    induction f with
    | zero => intro i a0 Mi _ h9 _ _; omega
    | succ f ih =>
      intro i a0 Mi hi hf hit hI
      refine x_iload3 (pc := 4) G dX11_looksAgain_4 ?_
      refine x_aload0 (pc := 5) G dX11_looksAgain_5 ?_
      refine y_gI (pc := 6) (v := (mI Mi 39)) G g_192 mG_39 rfl dX11_looksAgain_6 ?_
      refine x_icmp_ge (pc := 9) (tgt := 53) G dX11_looksAgain_9 rfl (fun c1 => ?_) (fun c1 => ?_)
      · have ei : i = n := lp_end hI.1 c1 hi (by omega)
        refine x_iload2 (pc := 53) G dX11_looksAgain_53 ?_
        exact x_iret (pc := 54) G B rfl dX11_looksAgain_54 ⟨by rw [hF, ← ei, hit], by rw [hF, ← ei, hit]⟩
      have hlt := lp_lt hI.1 c1 hi (by omega)
      refine x_aload0 (pc := 12) G dX11_looksAgain_12 ?_
      refine y_gA (pc := 13) G g_112 mG_40 dX11_looksAgain_13 ?_
      refine x_iload3 (pc := 16) G dX11_looksAgain_16 ?_
      refine y_iald (pc := 17) (v := (gI Mi 40 (nI i))) G hM a_40 (vp_in_nI (by omega) (by decide)) rfl dX11_looksAgain_17 ?_
      refine x_iload1 (pc := 18) G dX11_looksAgain_18 ?_
      refine x_icmp_ne (pc := 19) (tgt := 47) G dX11_looksAgain_19 rfl (fun c2 => ?_) (fun c2 => ?_)
      · refine x_iinc3 (pc := 47) (v := ((nI i) + 1)) G dX11_looksAgain_47 (by rfl) (Nat.le_of_ble_eq_true rfl) rfl ?_
        refine x_goto (pc := 50) (tgt := 4) G dX11_looksAgain_50 rfl ?_
        have h9 := ih (i + 1) a0 Mi (by omega) (by omega) (by show st_looksAgain p1 (nI i) (it_looksAgain p1 M i).1 (it_looksAgain p1 M i).2 = _; rw [hit]; show st_looksAgain p1 (nI i) a0 Mi = _; rw [st_looksAgain, if_neg c2]) (hI)
        rw [← nI_1 i] at h9
        exact h9
      refine x_aload0 (pc := 22) G dX11_looksAgain_22 ?_
      refine y_gA (pc := 23) G g_124 mG_44 dX11_looksAgain_23 ?_
      refine x_iload3 (pc := 26) G dX11_looksAgain_26 ?_
      refine y_iald (pc := 27) (v := (gI Mi 44 (nI i))) G hM a_44 (vp_in_nI (by omega) (by decide)) rfl dX11_looksAgain_27 ?_
      refine x_if_ne (pc := 28) (y := 0) (tgt := 47) G dX11_looksAgain_28 rfl (fun c3 => ?_) (fun c3 => ?_)
      · refine x_iinc3 (pc := 47) (v := ((nI i) + 1)) G dX11_looksAgain_47 (by rfl) (Nat.le_of_ble_eq_true rfl) rfl ?_
        refine x_goto (pc := 50) (tgt := 4) G dX11_looksAgain_50 rfl ?_
        have h9 := ih (i + 1) a0 Mi (by omega) (by omega) (by show st_looksAgain p1 (nI i) (it_looksAgain p1 M i).1 (it_looksAgain p1 M i).2 = _; rw [hit]; show st_looksAgain p1 (nI i) a0 Mi = _; rw [st_looksAgain, if_pos c2, if_neg c3]) (hI)
        rw [← nI_1 i] at h9
        exact h9
      refine x_aload0 (pc := 31) G dX11_looksAgain_31 ?_
      refine x_iload3 (pc := 32) G dX11_looksAgain_32 ?_
      refine y_c1 (pc := 33) G (c_why hl hM (hI.2.2 i hlt) ⟨n, hn, hI.1⟩) q_ml_X11_283 h_X11_why rfl ⟨Nat.le_of_ble_eq_true rfl, Nat.le_of_ble_eq_true rfl⟩ (Nat.le_of_ble_eq_true rfl) (Nat.le_refl _) (Nat.le_refl _) dX11_looksAgain_33 ?_
      refine x_if_ne (pc := 36) (y := 0) (tgt := 47) G dX11_looksAgain_36 rfl (fun c4 => ?_) (fun c4 => ?_)
      · refine x_iinc3 (pc := 47) (v := ((nI i) + 1)) G dX11_looksAgain_47 (by rfl) (Nat.le_of_ble_eq_true rfl) rfl ?_
        refine x_goto (pc := 50) (tgt := 4) G dX11_looksAgain_50 rfl ?_
        have h9 := ih (i + 1) a0 Mi (by omega) (by omega) (by show st_looksAgain p1 (nI i) (it_looksAgain p1 M i).1 (it_looksAgain p1 M i).2 = _; rw [hit]; show st_looksAgain p1 (nI i) a0 Mi = _; rw [st_looksAgain, if_pos c2, if_pos c3, if_neg c4]) (hI)
        rw [← nI_1 i] at h9
        exact h9
      refine x_aload0 (pc := 39) G dX11_looksAgain_39 ?_
      refine x_iload3 (pc := 40) G dX11_looksAgain_40 ?_
      refine y_cv1 (pc := 41) G (c_books hl hM (hI.2.2 i hlt) hI.2.1) q_ml_X11_286 h_X11_books rfl ⟨Nat.le_of_ble_eq_true rfl, Nat.le_of_ble_eq_true rfl⟩ (Nat.le_of_ble_eq_true rfl) (Nat.le_refl _) (Nat.le_refl _) dX11_looksAgain_41 ?_
      refine x_iinc2 (pc := 44) (v := (a0 + 1)) G dX11_looksAgain_44 (by rfl) (Nat.le_of_ble_eq_true rfl) rfl ?_
      refine x_iinc3 (pc := 47) (v := ((nI i) + 1)) G dX11_looksAgain_47 (by rfl) (Nat.le_of_ble_eq_true rfl) rfl ?_
      refine x_goto (pc := 50) (tgt := 4) G dX11_looksAgain_50 rfl ?_
      have h9 := ih (i + 1) (a0 + 1) (f_books (nI i) Mi) (by omega) (by omega) (by show st_looksAgain p1 (nI i) (it_looksAgain p1 M i).1 (it_looksAgain p1 M i).2 = _; rw [hit]; show st_looksAgain p1 (nI i) a0 Mi = _; rw [st_looksAgain, if_pos c2, if_pos c3, if_pos c4]) (LpOK.books hI)
      rw [← nI_1 i] at h9
      exact h9
  exact loop (n + 1) 0 0 M (by omega) (by omega) rfl (LpOK.of hn e39 hy hv)
theorem dX11_run_0 : decode cX11_run 0 = .ok (.aload_n 0, 1) := by decide +kernel
theorem dX11_run_1 : decode cX11_run 1 = .ok (.iload_n 1, 1) := by decide +kernel
theorem dX11_run_2 : decode cX11_run 2 = .ok (.iconst 0, 1) := by decide +kernel
theorem dX11_run_3 : decode cX11_run 3 = .ok (.sipush 2000, 3) := by decide +kernel
theorem dX11_run_6 : decode cX11_run 6 = .ok (.invokestatic 181, 3) := by decide +kernel
theorem dX11_run_9 : decode cX11_run 9 = .ok (.ifCond .eq 7, 3) := by decide +kernel
theorem dX11_run_12 : decode cX11_run 12 = .ok (.iconst 0, 1) := by decide +kernel
theorem dX11_run_13 : decode cX11_run 13 = .ok (.goto 4, 3) := by decide +kernel
theorem dX11_run_16 : decode cX11_run 16 = .ok (.iconst 1, 1) := by decide +kernel
theorem dX11_run_17 : decode cX11_run 17 = .ok (.invokevirtual 210, 3) := by decide +kernel
theorem dX11_run_20 : decode cX11_run 20 = .ok (.ifCond .ne 5, 3) := by decide +kernel
theorem dX11_run_23 : decode cX11_run 23 = .ok (.iconst 0, 1) := by decide +kernel
theorem dX11_run_24 : decode cX11_run 24 = .ok (.ireturn, 1) := by decide +kernel
theorem dX11_run_25 : decode cX11_run 25 = .ok (.iconst 0, 1) := by decide +kernel
theorem dX11_run_26 : decode cX11_run 26 = .ok (.istore_n 3, 1) := by decide +kernel
theorem dX11_run_27 : decode cX11_run 27 = .ok (.iconst 0, 1) := by decide +kernel
theorem dX11_run_28 : decode cX11_run 28 = .ok (.istore 4, 2) := by decide +kernel
theorem dX11_run_30 : decode cX11_run 30 = .ok (.iload 4, 2) := by decide +kernel
theorem dX11_run_32 : decode cX11_run 32 = .ok (.aload_n 0, 1) := by decide +kernel
theorem dX11_run_33 : decode cX11_run 33 = .ok (.getfield 192, 3) := by decide +kernel
theorem dX11_run_36 : decode cX11_run 36 = .ok (.if_icmp .ge 97, 3) := by decide +kernel
theorem dX11_run_39 : decode cX11_run 39 = .ok (.aload_n 0, 1) := by decide +kernel
theorem dX11_run_40 : decode cX11_run 40 = .ok (.getfield 124, 3) := by decide +kernel
theorem dX11_run_43 : decode cX11_run 43 = .ok (.iload 4, 2) := by decide +kernel
theorem dX11_run_45 : decode cX11_run 45 = .ok (.iaload, 1) := by decide +kernel
theorem dX11_run_46 : decode cX11_run 46 = .ok (.iconst 1, 1) := by decide +kernel
theorem dX11_run_47 : decode cX11_run 47 = .ok (.if_icmp .ne 80, 3) := by decide +kernel
theorem dX11_run_50 : decode cX11_run 50 = .ok (.aload_n 0, 1) := by decide +kernel
theorem dX11_run_51 : decode cX11_run 51 = .ok (.getfield 151, 3) := by decide +kernel
theorem dX11_run_54 : decode cX11_run 54 = .ok (.iload 4, 2) := by decide +kernel
theorem dX11_run_56 : decode cX11_run 56 = .ok (.baload, 1) := by decide +kernel
theorem dX11_run_57 : decode cX11_run 57 = .ok (.ifCond .ne 70, 3) := by decide +kernel
theorem dX11_run_60 : decode cX11_run 60 = .ok (.iload_n 2, 1) := by decide +kernel
theorem dX11_run_61 : decode cX11_run 61 = .ok (.ifCond .eq 38, 3) := by decide +kernel
theorem dX11_run_64 : decode cX11_run 64 = .ok (.aload_n 0, 1) := by decide +kernel
theorem dX11_run_65 : decode cX11_run 65 = .ok (.iload 4, 2) := by decide +kernel
theorem dX11_run_67 : decode cX11_run 67 = .ok (.invokevirtual 306, 3) := by decide +kernel
theorem dX11_run_70 : decode cX11_run 70 = .ok (.ifCond .eq 29, 3) := by decide +kernel
theorem dX11_run_73 : decode cX11_run 73 = .ok (.aload_n 0, 1) := by decide +kernel
theorem dX11_run_74 : decode cX11_run 74 = .ok (.getfield 96, 3) := by decide +kernel
theorem dX11_run_77 : decode cX11_run 77 = .ok (.aload_n 0, 1) := by decide +kernel
theorem dX11_run_78 : decode cX11_run 78 = .ok (.getfield 57, 3) := by decide +kernel
theorem dX11_run_81 : decode cX11_run 81 = .ok (.aload_n 0, 1) := by decide +kernel
theorem dX11_run_82 : decode cX11_run 82 = .ok (.getfield 112, 3) := by decide +kernel
theorem dX11_run_85 : decode cX11_run 85 = .ok (.iload 4, 2) := by decide +kernel
theorem dX11_run_87 : decode cX11_run 87 = .ok (.iaload, 1) := by decide +kernel
theorem dX11_run_88 : decode cX11_run 88 = .ok (.iconst 4, 1) := by decide +kernel
theorem dX11_run_89 : decode cX11_run 89 = .ok (.idiv, 1) := by decide +kernel
theorem dX11_run_90 : decode cX11_run 90 = .ok (.iaload, 1) := by decide +kernel
theorem dX11_run_91 : decode cX11_run 91 = .ok (.iaload, 1) := by decide +kernel
theorem dX11_run_92 : decode cX11_run 92 = .ok (.ifCond .le 7, 3) := by decide +kernel
theorem dX11_run_95 : decode cX11_run 95 = .ok (.iconst 1, 1) := by decide +kernel
theorem dX11_run_96 : decode cX11_run 96 = .ok (.goto 4, 3) := by decide +kernel
theorem dX11_run_99 : decode cX11_run 99 = .ok (.iconst 0, 1) := by decide +kernel
theorem dX11_run_100 : decode cX11_run 100 = .ok (.istore 5, 2) := by decide +kernel
theorem dX11_run_102 : decode cX11_run 102 = .ok (.aload_n 0, 1) := by decide +kernel
theorem dX11_run_103 : decode cX11_run 103 = .ok (.getfield 142, 3) := by decide +kernel
theorem dX11_run_106 : decode cX11_run 106 = .ok (.iload 4, 2) := by decide +kernel
theorem dX11_run_108 : decode cX11_run 108 = .ok (.iaload, 1) := by decide +kernel
theorem dX11_run_109 : decode cX11_run 109 = .ok (.iload_n 1, 1) := by decide +kernel
theorem dX11_run_110 : decode cX11_run 110 = .ok (.if_icmp .le 8, 3) := by decide +kernel
theorem dX11_run_113 : decode cX11_run 113 = .ok (.iload 5, 2) := by decide +kernel
theorem dX11_run_115 : decode cX11_run 115 = .ok (.ifCond .eq 12, 3) := by decide +kernel
theorem dX11_run_118 : decode cX11_run 118 = .ok (.aload_n 0, 1) := by decide +kernel
theorem dX11_run_119 : decode cX11_run 119 = .ok (.iload 4, 2) := by decide +kernel
theorem dX11_run_121 : decode cX11_run 121 = .ok (.invokevirtual 309, 3) := by decide +kernel
theorem dX11_run_124 : decode cX11_run 124 = .ok (.iinc 3 1, 3) := by decide +kernel
theorem dX11_run_127 : decode cX11_run 127 = .ok (.iinc 4 1, 3) := by decide +kernel
theorem dX11_run_130 : decode cX11_run 130 = .ok (.goto (-100), 3) := by decide +kernel
theorem dX11_run_133 : decode cX11_run 133 = .ok (.iload_n 3, 1) := by decide +kernel
theorem dX11_run_134 : decode cX11_run 134 = .ok (.ireturn, 1) := by decide +kernel
def st_run (p1 : Int32) (p2 : Int32) (x : Int32) (a0 : Int32) (Mi : MS) : Int32 × MS :=
    if (gI Mi 44 x) = 1 then
      if (gI Mi 53 x) = 0 then
        if p2 = 0 then
          if (gI Mi 50 x) ≤ p1 then
            ((a0 + 1), (f_pays x Mi))
          else
          (a0, Mi)
        else
        if P_isEarly x Mi then
          if (gI Mi 34 (gI Mi 21 ((gI Mi 40 x) / 4))) ≤ 0 then
            if (gI Mi 50 x) ≤ p1 then
              ((a0 + 1), (f_pays x Mi))
            else
            (a0, Mi)
          else
          if (gI Mi 50 x) ≤ p1 then
            ((a0 + 1), (f_pays x Mi))
          else
          ((a0 + 1), (f_pays x Mi))
        else
        if (gI Mi 50 x) ≤ p1 then
          ((a0 + 1), (f_pays x Mi))
        else
        (a0, Mi)
      else
      (a0, Mi)
    else
    (a0, Mi)
def it_run (p1 : Int32) (p2 : Int32) (M : MS) : Nat → Int32 × MS
  | 0 => (0, M)
  | i + 1 => st_run p1 p2 (nI i) (it_run p1 p2 M i).1 (it_run p1 p2 M i).2
def f_run (p1 : Int32) (p2 : Int32) (M : MS) : Int32 × MS :=
    if P_in p1 0 2000 then
      it_run p1 p2 (sI M 0 0) (mI M 39).toNatClampNeg
    else
    (0, (sI M 0 1))
abbrev rm_X11_run : Room := { frames := 2, cells := 0, slots := 0, locals := 47 }
set_option maxRecDepth 100000 in
set_option maxHeartbeats 40000000 in
theorem c_run {l : Launch} {k : KC} {mo : Nat} {ad : Nat → Nat} (hl : l.stackTraces = false) (hM : HM mo ad) {M : MS} {p1 : Int32} {p2 : Int32} (h39 : LE (mI M 39) 60) (hy : P_isYear (f_yearNow M)) (hv : ∀ v, P_isInvoice v M → IvOK M v) : CM l k mo ad yX11_run (.code yX11_run cX11_run 6 (some .int)) rm_X11_run [.int p1, .int p2] M (some (.int (f_run p1 p2 M).1)) (f_run p1 p2 M).2 := by
  refine MC.of 3 hl (by decide) (Nat.le_of_ble_eq_true rfl) ?_
  intro p e s m args below meth c A Q G B _ _
  show Wx p l e rm_X11_run s m args below meth c k A 6 Q 0 0 0 [some (.ref mo), some (.int p1), some (.int p2), none, none, none] [] (mW k mo ad M)
  obtain ⟨n, hn, e39⟩ := h39
  refine x_aload0 (pc := 0) G dX11_run_0 ?_
  refine x_iload1 (pc := 1) G dX11_run_1 ?_
  refine x_iconst (pc := 2) (v := 0) G dX11_run_2 ic_0 ?_
  refine x_sipush (pc := 3) (v := 2000) G dX11_run_3 sp_2000 ?_
  refine x_cSb3 (pc := 6) G (b_in hl hM _) q_ml_X11_181 h_X11_in ⟨Nat.le_of_ble_eq_true rfl, Nat.le_of_ble_eq_true rfl⟩ (Nat.le_of_ble_eq_true rfl) (Nat.le_refl _) (Nat.le_refl _) dX11_run_6 (fun c1 => ?_) (fun c1 => ?_)
  · refine x_if_eq (pc := 9) (y := 0) (tgt := 16) G dX11_run_9 rfl (fun q => absurd q (by decide)) (fun _ => ?_)
    refine x_iconst (pc := 12) (v := 0) G dX11_run_12 ic_0 ?_
    refine x_goto (pc := 13) (tgt := 17) G dX11_run_13 rfl ?_
    refine y_c1 (pc := 17) G (c_holds0 hl hM) q_ml_X11_210 h_X11_holds rfl ⟨Nat.le_of_ble_eq_true rfl, Nat.le_of_ble_eq_true rfl⟩ (Nat.le_of_ble_eq_true rfl) (Nat.le_refl _) (Nat.le_refl _) dX11_run_17 ?_
    refine x_if_ne (pc := 20) (y := 0) (tgt := 25) G dX11_run_20 rfl (fun _ => ?_) (fun q => absurd q (by decide))
    refine x_iconst (pc := 25) (v := 0) G dX11_run_25 ic_0 ?_
    refine x_istore3 (pc := 26) G dX11_run_26 (Nat.le_of_ble_eq_true rfl) rfl ?_
    refine x_iconst (pc := 27) (v := 0) G dX11_run_27 ic_0 ?_
    refine x_istore4 (pc := 28) G dX11_run_28 (Nat.le_of_ble_eq_true rfl) rfl ?_
    have hF : f_run p1 p2 M = it_run p1 p2 (sI M 0 0) n := by rw [f_run, if_pos c1, e39, nI_clamp (by omega)]
    have loop : ∀ (f i : Nat) (a0 : Int32) (Mi : MS), i ≤ n → n - i < f → it_run p1 p2 (sI M 0 0) i = (a0, Mi) → LpOK n Mi → Wx p l e rm_X11_run s m args below meth c k A 6 Q 0 0 30 [some (.ref mo), some (.int p1), some (.int p2), some (.int a0), some (.int (nI i)), none] [] (mW k mo ad Mi) := by
      intro f
      induction f with
      | zero => intro i a0 Mi _ h9 _ _; omega
      | succ f ih =>
        intro i a0 Mi hi hf hit hI
        refine x_iload4 (pc := 30) G dX11_run_30 ?_
        refine x_aload0 (pc := 32) G dX11_run_32 ?_
        refine y_gI (pc := 33) (v := (mI Mi 39)) G g_192 mG_39 rfl dX11_run_33 ?_
        refine x_icmp_ge (pc := 36) (tgt := 133) G dX11_run_36 rfl (fun c1 => ?_) (fun c1 => ?_)
        · have ei : i = n := lp_end hI.1 c1 hi (by omega)
          refine x_iload3 (pc := 133) G dX11_run_133 ?_
          exact x_iret (pc := 134) G B rfl dX11_run_134 ⟨by rw [hF, ← ei, hit], by rw [hF, ← ei, hit]⟩
        have hlt := lp_lt hI.1 c1 hi (by omega)
        refine x_aload0 (pc := 39) G dX11_run_39 ?_
        refine y_gA (pc := 40) G g_124 mG_44 dX11_run_40 ?_
        refine x_iload4 (pc := 43) G dX11_run_43 ?_
        refine y_iald (pc := 45) (v := (gI Mi 44 (nI i))) G hM a_44 (vp_in_nI (by omega) (by decide)) rfl dX11_run_45 ?_
        refine x_iconst (pc := 46) (v := 1) G dX11_run_46 ic_1 ?_
        refine x_icmp_ne (pc := 47) (tgt := 127) G dX11_run_47 rfl (fun c2 => ?_) (fun c2 => ?_)
        · refine x_iinc4 (pc := 127) (v := ((nI i) + 1)) G dX11_run_127 (by rfl) (Nat.le_of_ble_eq_true rfl) rfl ?_
          refine x_goto (pc := 130) (tgt := 30) G dX11_run_130 rfl ?_
          have h9 := ih (i + 1) a0 Mi (by omega) (by omega) (by show st_run p1 p2 (nI i) (it_run p1 p2 (sI M 0 0) i).1 (it_run p1 p2 (sI M 0 0) i).2 = _; rw [hit]; show st_run p1 p2 (nI i) a0 Mi = _; rw [st_run, if_neg c2]) (hI)
          rw [← nI_1 i] at h9
          exact h9
        refine x_aload0 (pc := 50) G dX11_run_50 ?_
        refine y_gA (pc := 51) G g_151 mG_53 dX11_run_51 ?_
        refine x_iload4 (pc := 54) G dX11_run_54 ?_
        refine y_zald (pc := 56) (v := (gI Mi 53 (nI i))) G hM a_53 (vp_in_nI (by omega) (by decide)) rfl dX11_run_56 ?_
        refine x_if_ne (pc := 57) (y := 0) (tgt := 127) G dX11_run_57 rfl (fun c3 => ?_) (fun c3 => ?_)
        · refine x_iinc4 (pc := 127) (v := ((nI i) + 1)) G dX11_run_127 (by rfl) (Nat.le_of_ble_eq_true rfl) rfl ?_
          refine x_goto (pc := 130) (tgt := 30) G dX11_run_130 rfl ?_
          have h9 := ih (i + 1) a0 Mi (by omega) (by omega) (by show st_run p1 p2 (nI i) (it_run p1 p2 (sI M 0 0) i).1 (it_run p1 p2 (sI M 0 0) i).2 = _; rw [hit]; show st_run p1 p2 (nI i) a0 Mi = _; rw [st_run, if_pos c2, if_neg c3]) (hI)
          rw [← nI_1 i] at h9
          exact h9
        refine x_iload2 (pc := 60) G dX11_run_60 ?_
        refine x_if_eq (pc := 61) (y := 0) (tgt := 99) G dX11_run_61 rfl (fun c4 => ?_) (fun c4 => ?_)
        · refine x_iconst (pc := 99) (v := 0) G dX11_run_99 ic_0 ?_
          refine x_istore5 (pc := 100) G dX11_run_100 (Nat.le_of_ble_eq_true rfl) rfl ?_
          refine x_aload0 (pc := 102) G dX11_run_102 ?_
          refine y_gA (pc := 103) G g_142 mG_50 dX11_run_103 ?_
          refine x_iload4 (pc := 106) G dX11_run_106 ?_
          refine y_iald (pc := 108) (v := (gI Mi 50 (nI i))) G hM a_50 (vp_in_nI (by omega) (by decide)) rfl dX11_run_108 ?_
          refine x_iload1 (pc := 109) G dX11_run_109 ?_
          refine x_icmp_le (pc := 110) (tgt := 118) G dX11_run_110 rfl (fun c5 => ?_) (fun c5 => ?_)
          · refine x_aload0 (pc := 118) G dX11_run_118 ?_
            refine x_iload4 (pc := 119) G dX11_run_119 ?_
            refine y_cv1 (pc := 121) G (c_pays hl hM (hI.2.2 i hlt)) q_ml_X11_309 h_X11_pays rfl ⟨Nat.le_of_ble_eq_true rfl, Nat.le_of_ble_eq_true rfl⟩ (Nat.le_of_ble_eq_true rfl) (Nat.le_refl _) (Nat.le_refl _) dX11_run_121 ?_
            refine x_iinc3 (pc := 124) (v := (a0 + 1)) G dX11_run_124 (by rfl) (Nat.le_of_ble_eq_true rfl) rfl ?_
            refine x_iinc4 (pc := 127) (v := ((nI i) + 1)) G dX11_run_127 (by rfl) (Nat.le_of_ble_eq_true rfl) rfl ?_
            refine x_goto (pc := 130) (tgt := 30) G dX11_run_130 rfl ?_
            refine xdrop5 ?_
            have h9 := ih (i + 1) (a0 + 1) (f_pays (nI i) Mi) (by omega) (by omega) (by show st_run p1 p2 (nI i) (it_run p1 p2 (sI M 0 0) i).1 (it_run p1 p2 (sI M 0 0) i).2 = _; rw [hit]; show st_run p1 p2 (nI i) a0 Mi = _; rw [st_run, if_pos c2, if_pos c3, if_pos c4, if_pos c5]) (LpOK.pays hI)
            rw [← nI_1 i] at h9
            exact h9
          refine x_iload5 (pc := 113) G dX11_run_113 ?_
          refine x_if_eq (pc := 115) (y := 0) (tgt := 127) G dX11_run_115 rfl (fun _ => ?_) (fun q => absurd q (by decide))
          refine x_iinc4 (pc := 127) (v := ((nI i) + 1)) G dX11_run_127 (by rfl) (Nat.le_of_ble_eq_true rfl) rfl ?_
          refine x_goto (pc := 130) (tgt := 30) G dX11_run_130 rfl ?_
          refine xdrop5 ?_
          have h9 := ih (i + 1) a0 Mi (by omega) (by omega) (by show st_run p1 p2 (nI i) (it_run p1 p2 (sI M 0 0) i).1 (it_run p1 p2 (sI M 0 0) i).2 = _; rw [hit]; show st_run p1 p2 (nI i) a0 Mi = _; rw [st_run, if_pos c2, if_pos c3, if_pos c4, if_neg c5]) (hI)
          rw [← nI_1 i] at h9
          exact h9
        refine x_aload0 (pc := 64) G dX11_run_64 ?_
        refine x_iload4 (pc := 65) G dX11_run_65 ?_
        refine y_cb1 (pc := 67) G (b_isEarly hl hM (hI.2.2 i hlt)) q_ml_X11_306 h_X11_isEarly rfl ⟨Nat.le_of_ble_eq_true rfl, Nat.le_of_ble_eq_true rfl⟩ (Nat.le_of_ble_eq_true rfl) (Nat.le_refl _) (Nat.le_refl _) dX11_run_67 (fun c6 => ?_) (fun c6 => ?_)
        · refine x_if_eq (pc := 70) (y := 0) (tgt := 99) G dX11_run_70 rfl (fun q => absurd q (by decide)) (fun _ => ?_)
          refine x_aload0 (pc := 73) G dX11_run_73 ?_
          refine y_gA (pc := 74) G g_96 mG_34 dX11_run_74 ?_
          refine x_aload0 (pc := 77) G dX11_run_77 ?_
          refine y_gA (pc := 78) G g_57 mG_21 dX11_run_78 ?_
          refine x_aload0 (pc := 81) G dX11_run_81 ?_
          refine y_gA (pc := 82) G g_112 mG_40 dX11_run_82 ?_
          refine x_iload4 (pc := 85) G dX11_run_85 ?_
          refine y_iald (pc := 87) (v := (gI Mi 40 (nI i))) G hM a_40 (vp_in_nI (by omega) (by decide)) rfl dX11_run_87 ?_
          refine x_iconst (pc := 88) (v := 4) G dX11_run_88 ic_4 ?_
          refine x_idiv (pc := 89) G dX11_run_89 (by decide) ?_
          refine y_iald (pc := 90) (v := (gI Mi 21 ((gI Mi 40 (nI i)) / 4))) G hM a_21 ((hI.2.2 i hlt).2.2.1) rfl dX11_run_90 ?_
          refine y_iald (pc := 91) (v := (gI Mi 34 (gI Mi 21 ((gI Mi 40 (nI i)) / 4)))) G hM a_34 ((hI.2.2 i hlt).2.2.2.2.1) rfl dX11_run_91 ?_
          refine x_if_le (pc := 92) (y := 0) (tgt := 99) G dX11_run_92 rfl (fun c7 => ?_) (fun c7 => ?_)
          · refine x_iconst (pc := 99) (v := 0) G dX11_run_99 ic_0 ?_
            refine x_istore5 (pc := 100) G dX11_run_100 (Nat.le_of_ble_eq_true rfl) rfl ?_
            refine x_aload0 (pc := 102) G dX11_run_102 ?_
            refine y_gA (pc := 103) G g_142 mG_50 dX11_run_103 ?_
            refine x_iload4 (pc := 106) G dX11_run_106 ?_
            refine y_iald (pc := 108) (v := (gI Mi 50 (nI i))) G hM a_50 (vp_in_nI (by omega) (by decide)) rfl dX11_run_108 ?_
            refine x_iload1 (pc := 109) G dX11_run_109 ?_
            refine x_icmp_le (pc := 110) (tgt := 118) G dX11_run_110 rfl (fun c8 => ?_) (fun c8 => ?_)
            · refine x_aload0 (pc := 118) G dX11_run_118 ?_
              refine x_iload4 (pc := 119) G dX11_run_119 ?_
              refine y_cv1 (pc := 121) G (c_pays hl hM (hI.2.2 i hlt)) q_ml_X11_309 h_X11_pays rfl ⟨Nat.le_of_ble_eq_true rfl, Nat.le_of_ble_eq_true rfl⟩ (Nat.le_of_ble_eq_true rfl) (Nat.le_refl _) (Nat.le_refl _) dX11_run_121 ?_
              refine x_iinc3 (pc := 124) (v := (a0 + 1)) G dX11_run_124 (by rfl) (Nat.le_of_ble_eq_true rfl) rfl ?_
              refine x_iinc4 (pc := 127) (v := ((nI i) + 1)) G dX11_run_127 (by rfl) (Nat.le_of_ble_eq_true rfl) rfl ?_
              refine x_goto (pc := 130) (tgt := 30) G dX11_run_130 rfl ?_
              refine xdrop5 ?_
              have h9 := ih (i + 1) (a0 + 1) (f_pays (nI i) Mi) (by omega) (by omega) (by show st_run p1 p2 (nI i) (it_run p1 p2 (sI M 0 0) i).1 (it_run p1 p2 (sI M 0 0) i).2 = _; rw [hit]; show st_run p1 p2 (nI i) a0 Mi = _; rw [st_run, if_pos c2, if_pos c3, if_neg c4, if_pos c6, if_pos c7, if_pos c8]) (LpOK.pays hI)
              rw [← nI_1 i] at h9
              exact h9
            refine x_iload5 (pc := 113) G dX11_run_113 ?_
            refine x_if_eq (pc := 115) (y := 0) (tgt := 127) G dX11_run_115 rfl (fun _ => ?_) (fun q => absurd q (by decide))
            refine x_iinc4 (pc := 127) (v := ((nI i) + 1)) G dX11_run_127 (by rfl) (Nat.le_of_ble_eq_true rfl) rfl ?_
            refine x_goto (pc := 130) (tgt := 30) G dX11_run_130 rfl ?_
            refine xdrop5 ?_
            have h9 := ih (i + 1) a0 Mi (by omega) (by omega) (by show st_run p1 p2 (nI i) (it_run p1 p2 (sI M 0 0) i).1 (it_run p1 p2 (sI M 0 0) i).2 = _; rw [hit]; show st_run p1 p2 (nI i) a0 Mi = _; rw [st_run, if_pos c2, if_pos c3, if_neg c4, if_pos c6, if_pos c7, if_neg c8]) (hI)
            rw [← nI_1 i] at h9
            exact h9
          refine x_iconst (pc := 95) (v := 1) G dX11_run_95 ic_1 ?_
          refine x_goto (pc := 96) (tgt := 100) G dX11_run_96 rfl ?_
          refine x_istore5 (pc := 100) G dX11_run_100 (Nat.le_of_ble_eq_true rfl) rfl ?_
          refine x_aload0 (pc := 102) G dX11_run_102 ?_
          refine y_gA (pc := 103) G g_142 mG_50 dX11_run_103 ?_
          refine x_iload4 (pc := 106) G dX11_run_106 ?_
          refine y_iald (pc := 108) (v := (gI Mi 50 (nI i))) G hM a_50 (vp_in_nI (by omega) (by decide)) rfl dX11_run_108 ?_
          refine x_iload1 (pc := 109) G dX11_run_109 ?_
          refine x_icmp_le (pc := 110) (tgt := 118) G dX11_run_110 rfl (fun c9 => ?_) (fun c9 => ?_)
          · refine x_aload0 (pc := 118) G dX11_run_118 ?_
            refine x_iload4 (pc := 119) G dX11_run_119 ?_
            refine y_cv1 (pc := 121) G (c_pays hl hM (hI.2.2 i hlt)) q_ml_X11_309 h_X11_pays rfl ⟨Nat.le_of_ble_eq_true rfl, Nat.le_of_ble_eq_true rfl⟩ (Nat.le_of_ble_eq_true rfl) (Nat.le_refl _) (Nat.le_refl _) dX11_run_121 ?_
            refine x_iinc3 (pc := 124) (v := (a0 + 1)) G dX11_run_124 (by rfl) (Nat.le_of_ble_eq_true rfl) rfl ?_
            refine x_iinc4 (pc := 127) (v := ((nI i) + 1)) G dX11_run_127 (by rfl) (Nat.le_of_ble_eq_true rfl) rfl ?_
            refine x_goto (pc := 130) (tgt := 30) G dX11_run_130 rfl ?_
            refine xdrop5 ?_
            have h9 := ih (i + 1) (a0 + 1) (f_pays (nI i) Mi) (by omega) (by omega) (by show st_run p1 p2 (nI i) (it_run p1 p2 (sI M 0 0) i).1 (it_run p1 p2 (sI M 0 0) i).2 = _; rw [hit]; show st_run p1 p2 (nI i) a0 Mi = _; rw [st_run, if_pos c2, if_pos c3, if_neg c4, if_pos c6, if_neg c7, if_pos c9]) (LpOK.pays hI)
            rw [← nI_1 i] at h9
            exact h9
          refine x_iload5 (pc := 113) G dX11_run_113 ?_
          refine x_if_eq (pc := 115) (y := 0) (tgt := 127) G dX11_run_115 rfl (fun q => absurd q (by decide)) (fun _ => ?_)
          refine x_aload0 (pc := 118) G dX11_run_118 ?_
          refine x_iload4 (pc := 119) G dX11_run_119 ?_
          refine y_cv1 (pc := 121) G (c_pays hl hM (hI.2.2 i hlt)) q_ml_X11_309 h_X11_pays rfl ⟨Nat.le_of_ble_eq_true rfl, Nat.le_of_ble_eq_true rfl⟩ (Nat.le_of_ble_eq_true rfl) (Nat.le_refl _) (Nat.le_refl _) dX11_run_121 ?_
          refine x_iinc3 (pc := 124) (v := (a0 + 1)) G dX11_run_124 (by rfl) (Nat.le_of_ble_eq_true rfl) rfl ?_
          refine x_iinc4 (pc := 127) (v := ((nI i) + 1)) G dX11_run_127 (by rfl) (Nat.le_of_ble_eq_true rfl) rfl ?_
          refine x_goto (pc := 130) (tgt := 30) G dX11_run_130 rfl ?_
          refine xdrop5 ?_
          have h9 := ih (i + 1) (a0 + 1) (f_pays (nI i) Mi) (by omega) (by omega) (by show st_run p1 p2 (nI i) (it_run p1 p2 (sI M 0 0) i).1 (it_run p1 p2 (sI M 0 0) i).2 = _; rw [hit]; show st_run p1 p2 (nI i) a0 Mi = _; rw [st_run, if_pos c2, if_pos c3, if_neg c4, if_pos c6, if_neg c7, if_neg c9]) (LpOK.pays hI)
          rw [← nI_1 i] at h9
          exact h9
        refine x_if_eq (pc := 70) (y := 0) (tgt := 99) G dX11_run_70 rfl (fun _ => ?_) (fun q => absurd q (by decide))
        refine x_iconst (pc := 99) (v := 0) G dX11_run_99 ic_0 ?_
        refine x_istore5 (pc := 100) G dX11_run_100 (Nat.le_of_ble_eq_true rfl) rfl ?_
        refine x_aload0 (pc := 102) G dX11_run_102 ?_
        refine y_gA (pc := 103) G g_142 mG_50 dX11_run_103 ?_
        refine x_iload4 (pc := 106) G dX11_run_106 ?_
        refine y_iald (pc := 108) (v := (gI Mi 50 (nI i))) G hM a_50 (vp_in_nI (by omega) (by decide)) rfl dX11_run_108 ?_
        refine x_iload1 (pc := 109) G dX11_run_109 ?_
        refine x_icmp_le (pc := 110) (tgt := 118) G dX11_run_110 rfl (fun c10 => ?_) (fun c10 => ?_)
        · refine x_aload0 (pc := 118) G dX11_run_118 ?_
          refine x_iload4 (pc := 119) G dX11_run_119 ?_
          refine y_cv1 (pc := 121) G (c_pays hl hM (hI.2.2 i hlt)) q_ml_X11_309 h_X11_pays rfl ⟨Nat.le_of_ble_eq_true rfl, Nat.le_of_ble_eq_true rfl⟩ (Nat.le_of_ble_eq_true rfl) (Nat.le_refl _) (Nat.le_refl _) dX11_run_121 ?_
          refine x_iinc3 (pc := 124) (v := (a0 + 1)) G dX11_run_124 (by rfl) (Nat.le_of_ble_eq_true rfl) rfl ?_
          refine x_iinc4 (pc := 127) (v := ((nI i) + 1)) G dX11_run_127 (by rfl) (Nat.le_of_ble_eq_true rfl) rfl ?_
          refine x_goto (pc := 130) (tgt := 30) G dX11_run_130 rfl ?_
          refine xdrop5 ?_
          have h9 := ih (i + 1) (a0 + 1) (f_pays (nI i) Mi) (by omega) (by omega) (by show st_run p1 p2 (nI i) (it_run p1 p2 (sI M 0 0) i).1 (it_run p1 p2 (sI M 0 0) i).2 = _; rw [hit]; show st_run p1 p2 (nI i) a0 Mi = _; rw [st_run, if_pos c2, if_pos c3, if_neg c4, if_neg c6, if_pos c10]) (LpOK.pays hI)
          rw [← nI_1 i] at h9
          exact h9
        refine x_iload5 (pc := 113) G dX11_run_113 ?_
        refine x_if_eq (pc := 115) (y := 0) (tgt := 127) G dX11_run_115 rfl (fun _ => ?_) (fun q => absurd q (by decide))
        refine x_iinc4 (pc := 127) (v := ((nI i) + 1)) G dX11_run_127 (by rfl) (Nat.le_of_ble_eq_true rfl) rfl ?_
        refine x_goto (pc := 130) (tgt := 30) G dX11_run_130 rfl ?_
        refine xdrop5 ?_
        have h9 := ih (i + 1) a0 Mi (by omega) (by omega) (by show st_run p1 p2 (nI i) (it_run p1 p2 (sI M 0 0) i).1 (it_run p1 p2 (sI M 0 0) i).2 = _; rw [hit]; show st_run p1 p2 (nI i) a0 Mi = _; rw [st_run, if_pos c2, if_pos c3, if_neg c4, if_neg c6, if_neg c10]) (hI)
        rw [← nI_1 i] at h9
        exact h9
    exact loop (n + 1) 0 0 (sI M 0 0) (by omega) (by omega) rfl (show LpOK n (sI M 0 0) from LpOK.of hn e39 hy hv)
  refine x_if_eq (pc := 9) (y := 0) (tgt := 16) G dX11_run_9 rfl (fun _ => ?_) (fun q => absurd q (by decide))
  refine x_iconst (pc := 16) (v := 1) G dX11_run_16 ic_1 ?_
  refine y_c1 (pc := 17) G (c_holdsN hl hM (by decide)) q_ml_X11_210 h_X11_holds rfl ⟨Nat.le_of_ble_eq_true rfl, Nat.le_of_ble_eq_true rfl⟩ (Nat.le_of_ble_eq_true rfl) (Nat.le_refl _) (Nat.le_refl _) dX11_run_17 ?_
  refine x_if_ne (pc := 20) (y := 0) (tgt := 25) G dX11_run_20 rfl (fun q => absurd q (by decide)) (fun _ => ?_)
  refine x_iconst (pc := 23) (v := 0) G dX11_run_23 ic_0 ?_
  exact x_iret (pc := 24) G B rfl dX11_run_24 ⟨by rw [f_run, if_neg c1], by rw [f_run, if_neg c1]⟩
