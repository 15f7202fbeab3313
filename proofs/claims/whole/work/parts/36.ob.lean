theorem fi_ss {X : CX} {f n : Nat} {v : Int32} : xFi (fiX X f n v) f n = v := by
  show (if f = f then upd (xFi X f) n v else xFi X f) n = v
  rw [if_pos rfl]
  simp [upd]
theorem fi_sn {X : CX} {f n g m : Nat} {v : Int32} (h : (g == f) = false) : xFi (fiX X f n v) g m = xFi X g m := by
  show (if g = f then upd (xFi X f) n v else xFi X g) m = _
  rw [if_neg (by simpa using h)]
theorem fi_nn {X : CX} {f n g m : Nat} {v : Int32} (h : ¬ m = n) : xFi (fiX X f n v) g m = xFi X g m := by
  show (if g = f then upd (xFi X f) n v else xFi X g) m = _
  by_cases e : g = f
  · rw [if_pos e, upd_ne h, e]
  · rw [if_neg e]
theorem fj_ss {X : CX} {f n : Nat} {v : Int64} : xFj (fjX X f n v) f n = v := by
  show (if f = f then vp_updL (xFj X f) n v else xFj X f) n = v
  rw [if_pos rfl]
  simp [vp_updL]
theorem fj_sn {X : CX} {f n g m : Nat} {v : Int64} (h : (g == f) = false) : xFj (fjX X f n v) g m = xFj X g m := by
  show (if g = f then vp_updL (xFj X f) n v else xFj X g) m = _
  rw [if_neg (by simpa using h)]
theorem fj_nn {X : CX} {f n g m : Nat} {v : Int64} (h : ¬ m = n) : xFj (fjX X f n v) g m = xFj X g m := by
  show (if g = f then vp_updL (xFj X f) n v else xFj X g) m = _
  by_cases e : g = f
  · rw [if_pos e, upl_ne h, e]
  · rw [if_neg e]
theorem si_at {S : CT} {f n : Nat} {v : Int32} (hn : n < 2 ^ 31) : (si S f (nI n) v).1 f n = v := by
  rw [si_self, nI_clamp hn]
  simp [upd]
theorem si_an {S : CT} {f g m : Nat} {x v : Int32} (h : (g == f) = false) : (si S f x v).1 g m = S.1 g m := si_ne fun q => by rw [q.1] at h; simp at h
theorem sj_at {S : CT} {f n : Nat} {v : Int64} (hn : n < 2 ^ 31) : (sj S f (nI n) v).2 f n = v := by
  rw [sj_self, nI_clamp hn]
  simp [vp_updL]
theorem sj_an {S : CT} {f g m : Nat} {x : Int32} {v : Int64} (h : (g == f) = false) : (sj S f x v).2 g m = S.2 g m := sj_ne fun q => by rw [q.1] at h; simp at h
theorem si_j {S : CT} {f g m : Nat} {x v : Int32} : (si S f x v).2 g m = S.2 g m := rfl
theorem sj_i {S : CT} {f g m : Nat} {x : Int32} {v : Int64} : (sj S f x v).1 g m = S.1 g m := rfl
theorem DE.refl {X : CX} {S : CT} {kd n : Nat} : DE X S X S kd n := ⟨⟨rfl, rfl, rfl, rfl⟩, ⟨rfl, rfl, rfl⟩, fun _ _ _ => ⟨rfl, rfl, rfl, rfl⟩⟩
theorem DE.fi {X X1 : CX} {S S1 : CT} {kd n f : Nat} {v : Int32} (h : DE X S X1 S1 kd n) (hf : f / 32 = kd) : DE X S (fiX X1 f n v) S1 kd n :=
  ⟨h.1, h.2.1, fun g m z => ⟨(h.2.2 g m z).1, (h.2.2 g m z).2.1, by
    rw [← (h.2.2 g m z).2.2.1]
    by_cases e : m = n
    · exact fi_sn (by
        rw [beq_eq_false_iff_ne]
        exact fun q => z ⟨by rw [q]; exact hf, e⟩)
    · exact fi_nn e, (h.2.2 g m z).2.2.2⟩⟩
theorem DE.fj {X X1 : CX} {S S1 : CT} {kd n f : Nat} {v : Int64} (h : DE X S X1 S1 kd n) (hf : f / 32 = kd) : DE X S (fjX X1 f n v) S1 kd n :=
  ⟨h.1, h.2.1, fun g m z => ⟨(h.2.2 g m z).1, (h.2.2 g m z).2.1, (h.2.2 g m z).2.2.1, by
    rw [← (h.2.2 g m z).2.2.2]
    by_cases e : m = n
    · exact fj_sn (by
        rw [beq_eq_false_iff_ne]
        exact fun q => z ⟨by rw [q]; exact hf, e⟩)
    · exact fj_nn e⟩⟩
theorem DE.si {X X1 : CX} {S S1 : CT} {kd n f : Nat} {v : Int32} (h : DE X S X1 S1 kd n) (hf : f / 32 = kd) (hn : n < 2 ^ 31) : DE X S X1 (si S1 f (nI n) v) kd n :=
  ⟨h.1, h.2.1, fun g m z => ⟨(si_ne (fun q => z ⟨by rw [q.1]; exact hf, by rw [q.2, nI_clamp hn]⟩)).trans (h.2.2 g m z).1, (h.2.2 g m z).2.1, (h.2.2 g m z).2.2.1, (h.2.2 g m z).2.2.2⟩⟩
theorem DE.sj {X X1 : CX} {S S1 : CT} {kd n f : Nat} {v : Int64} (h : DE X S X1 S1 kd n) (hf : f / 32 = kd) (hn : n < 2 ^ 31) : DE X S X1 (sj S1 f (nI n) v) kd n :=
  ⟨h.1, h.2.1, fun g m z => ⟨(h.2.2 g m z).1, (sj_ne (fun q => z ⟨by rw [q.1]; exact hf, by rw [q.2, nI_clamp hn]⟩)).trans (h.2.2 g m z).2.1, (h.2.2 g m z).2.2.1, (h.2.2 g m z).2.2.2⟩⟩
theorem vr_an {X : CX} {kd n a t : Nat} {x : Int32} (h : t ≠ kd) : vr (adX X kd n a) t x = vr X t x := by
  unfold vr
  split
  · rfl
  · congr 1
    exact if_neg fun q => h q.1
section OB
variable {X Y : CX} {S S1 : CT} {kd n q : Nat} {e : va_E}
theorem ob_low (hX : HX X) (hq : q ∉ xAs X) (hD : DE X S Y S1 kd n) {k i : Nat} (hk : k ≠ kd) (h : lv (obX Y kd n q e) k i) : lv X k i := ((lv_ob hX hq hD.1).mp h).elim id (fun z => absurd z.1 hk)
theorem ob_hm (hX : HX X) (hq : q ∉ xAs X) (hD : DE X S Y S1 kd n) (k i : Nat) (h : lv X k i) : lv (obX Y kd n q e) k i := (lv_ob hX hq hD.1).mpr (Or.inl h)
theorem ob_me (hX : HX X) (hq : q ∉ xAs X) (hD : DE X S Y S1 kd n) : lv (obX Y kd n q e) kd n := (lv_ob hX hq hD.1).mpr (Or.inr ⟨rfl, rfl⟩)
theorem ob_I (hX : HX X) (hq : q ∉ xAs X) (hD : DE X S Y S1 kd n) {k : Nat} {x : Int32} (h : lI (obX Y kd n q e) k x) : lI X k x ∨ (k = kd ∧ x = nI n) := by
  obtain ⟨m, hm, e1, h9⟩ := h
  rcases (lv_ob hX hq hD.1).mp h9 with z | z
  · exact Or.inl ⟨m, hm, e1, z⟩
  · exact Or.inr ⟨z.1, by rw [e1, z.2]⟩
theorem ob_xi (hd : dead X kd n) (hD : DE X S Y S1 kd n) {k f : Nat} {x : Int32} (hf : f / 32 = k) (h : lI X k x) : xi Y f x = xi X f x ∧ ci S1 f x = ci S f x := by
  have h9 := h.lv
  have h8 := hD.2.2 f x.toNatClampNeg (fun z => hd.lv (by rw [← z.2, ← z.1, hf]; exact h9))
  exact ⟨h8.2.2.1, h8.1⟩
theorem XOK_ob (h : XOK X) (hq : q ∉ xAs X) (hd : dead X kd n) (hD : DE X S Y S1 kd n) (hk : kd < 12 ∧ kd ≠ 1) (hn : n < 2 ^ 30) (hx1 : HX (obX Y kd n q e)) (o8 : kd = 8 → LW X 29 n ∧ lI X 6 (xFi Y 256 n) ∧ lI X 1 (xFi Y 257 n)) (o3 : kd = 3 → lI X 8 (xFi Y 96 n) ∧ lI X 4 (xFi Y 97 n) ∧ lI X 9 (xFi Y 98 n)) (o2 : kd = 2 → lI X 6 (xFi Y 64 n)) (o6 : kd = 6 → oI X 6 (xFi Y 193 n)) : XOK (obX Y kd n q e) := by
  have hX := h.1
  have hm := fun k i => ob_hm (e := e) (k := k) (i := i) hX hq hD
  have hcl : (nI n).toNatClampNeg = n := nI_clamp (by omega)
  have hl : ∀ L i, LW X L i → LW (obX Y kd n q e) L i := fun L i g => by
    obtain ⟨g1, g2, g3, g4, g5⟩ := g
    refine ⟨g1, hm _ _ g2, ?_⟩
    show xSz Y L i ≤ xCp Y L i ∧ xCp Y L i < 2 ^ 30 ∧ (xCp Y L i ≠ 0 → _)
    rw [hD.2.1.1, hD.2.1.2.1]
    exact ⟨g3, g4, fun z => hm _ _ (g5 z)⟩
  refine XOK_of h hx1 hm hl (fun L i m g hq9 => Or.inl ?_) (fun x hx => (ob_I hX hq hD hx).elim id (fun z => absurd z.1.symm hk.2)) (fun x hx => ?_) (fun x hx => ?_) (fun x hx => ?_) (fun x hx => ?_)
  · obtain ⟨g1, g2, g3, g4, g5⟩ := g
    have e1 : xSz (obX Y kd n q e) L i = xSz X L i := by show xSz Y L i = _; rw [hD.2.1.1]
    have e2 : xCp (obX Y kd n q e) L i = xCp X L i := by show xCp Y L i = _; rw [hD.2.1.2.1]
    rw [e1] at g3 hq9
    rw [e2] at g3 g4 g5
    exact ⟨⟨g1, ob_low hX hq hD (by omega) g2, g3, g4, fun z => ob_low hX hq hD (by omega) (g5 z)⟩, hq9⟩
  · rcases ob_I hX hq hD hx with z | ⟨z1, z2⟩
    · exact Or.inl ⟨z, (ob_xi hd hD rfl z).1, (ob_xi hd hD rfl z).1⟩
    · obtain ⟨y1, y2, y3⟩ := o8 z1.symm
      refine Or.inr ⟨?_, ?_, ?_⟩
      · rw [z2, hcl]; exact hl _ _ y1
      · rw [z2]; show lI _ _ (xFi Y 256 (nI n).toNatClampNeg); rw [hcl]; exact lI_mono hm y2
      · rw [z2]; show lI _ _ (xFi Y 257 (nI n).toNatClampNeg); rw [hcl]; exact lI_mono hm y3
  · rcases ob_I hX hq hD hx with z | ⟨z1, z2⟩
    · exact Or.inl ⟨z, (ob_xi hd hD rfl z).1, (ob_xi hd hD rfl z).1, (ob_xi hd hD rfl z).1⟩
    · obtain ⟨y1, y2, y3⟩ := o3 z1.symm
      refine Or.inr ⟨?_, ?_, ?_⟩
      · rw [z2]; show lI _ _ (xFi Y 96 (nI n).toNatClampNeg); rw [hcl]; exact lI_mono hm y1
      · rw [z2]; show lI _ _ (xFi Y 97 (nI n).toNatClampNeg); rw [hcl]; exact lI_mono hm y2
      · rw [z2]; show lI _ _ (xFi Y 98 (nI n).toNatClampNeg); rw [hcl]; exact lI_mono hm y3
  · rcases ob_I hX hq hD hx with z | ⟨z1, z2⟩
    · exact Or.inl ⟨z, (ob_xi hd hD rfl z).1⟩
    · right
      rw [z2]; show lI _ _ (xFi Y 64 (nI n).toNatClampNeg); rw [hcl]; exact lI_mono hm (o2 z1.symm)
  · rcases ob_I hX hq hD hx with z | ⟨z1, z2⟩
    · exact Or.inl ⟨z, (ob_xi hd hD rfl z).1⟩
    · right
      rw [z2]; show oI _ _ (xFi Y 193 (nI n).toNatClampNeg); rw [hcl]; exact oI_mono hm (o6 z1.symm)
theorem TS_ob (h : TS X S) (hx : XOK X) (hq : q ∉ xAs X) (hd : dead X kd n) (hD : DE X S Y S1 kd n) (hk : kd ≠ 9) (hn : n < 2 ^ 30) (o6 : kd = 6 → oI X 6 (S1.1 196 n)) (o8 : kd = 8 → oI X 6 (S1.1 262 n) ∧ oI X 6 (S1.1 263 n) ∧ oI X 9 (S1.1 264 n)) : TS (obX Y kd n q e) S1 := by
  have hX := hx.1
  have hm := fun k i => ob_hm (e := e) (k := k) (i := i) hX hq hD
  have hcl : (nI n).toNatClampNeg = n := nI_clamp (by omega)
  refine TS_of h hm (ob_xi hd hD rfl hx.l11).2 (fun x hx => ?_) (fun x hx => ?_) (fun x hx => ?_)
  · rcases ob_I hX hq hD hx with z | ⟨z1, z2⟩
    · exact Or.inl ⟨z, (ob_xi hd hD rfl z).2⟩
    · right
      rw [z2]; unfold ci; rw [hcl]; exact oI_mono hm (o6 z1.symm)
  · rcases ob_I hX hq hD hx with z | ⟨z1, z2⟩
    · exact ⟨z, (ob_xi hd hD rfl z).2⟩
    · exact absurd z1.symm hk
  · rcases ob_I hX hq hD hx with z | ⟨z1, z2⟩
    · exact Or.inl ⟨z, (ob_xi hd hD rfl z).2, (ob_xi hd hD rfl z).2, (ob_xi hd hD rfl z).2⟩
    · right
      obtain ⟨y1, y2, y3⟩ := o8 z1.symm
      rw [z2]; unfold ci; rw [hcl]
      exact ⟨oI_mono hm y1, oI_mono hm y2, oI_mono hm y3⟩
theorem LA_ob {L i : Nat} (h : LA X L i) (hq : q ∉ xAs X) (hD : DE X S Y S1 kd n) (hk : kd < 12) (hx1 : HX (obX Y kd n q e)) : LA (obX Y kd n q e) L i := by
  obtain ⟨hX, hE, ⟨g1, g2, g3, g4, g5⟩, ⟨g6, g7⟩, g8⟩ := h
  have hm := fun k i => ob_hm (e := e) (k := k) (i := i) hX hq hD
  have e1 : ∀ L i, xSz (obX Y kd n q e) L i = xSz X L i := fun L i => by show xSz Y L i = _; rw [hD.2.1.1]
  have e2 : ∀ L i, xCp (obX Y kd n q e) L i = xCp X L i := fun L i => by show xCp Y L i = _; rw [hD.2.1.2.1]
  refine ⟨hx1, fun L' i' a1 a2 a3 m hm9 => hm _ _ (hE L' i' a1 a2 (ob_low hX hq hD (by omega) a3) m (by rw [← e1]; exact hm9)), ⟨g1, hm _ _ g2, ?_⟩, ?_, fun z => ?_⟩
  · rw [e1, e2]
    exact ⟨g3, g4, fun z => hm _ _ (g5 z)⟩
  · rw [e1, e2]
    exact ⟨g6, g7⟩
  · rw [e2] at z
    exact dead.of hx1 fun y => (g8 z).lv (ob_low hX hq hD (by omega) y)
end OB
/-- behind an allocation: the numbers are these, one list took one more -/
def NX (Y X2 : CX) (Li i : Nat) : Prop := XOK X2 ∧ LVX X2 ∧ xFi X2 = xFi Y ∧ xFj X2 = xFj Y ∧ (xSz X2 = fun L j => if L = Li ∧ j = i then xSz Y Li i + 1 else xSz Y L j) ∧ xAd X2 11 0 = xAd Y 11 0
theorem LVX_20 {X Y X2 : CX} {S S1 : CT} {q : Nat} {e : va_E} (h : LVX X) (hX : HX X) (hq : q ∉ xAs X) (hD : DE X S Y S1 6 (xSz X 20 0)) (hs : xSz X 20 0 < 12) (hA : AD (obX Y 6 (xSz X 20 0) q e) X2 20 0) : LVX X2 := by
  obtain ⟨h1, h2, h3, h4, h5⟩ := h
  obtain ⟨a1, -, a3, a4, a5, ⟨a6, a6'⟩, a7, -⟩ := hA
  have e1 : xSz (obX Y 6 (xSz X 20 0) q e) = xSz X := hD.2.1.1
  have e2 : xCp (obX Y 6 (xSz X 20 0) q e) = xCp X := hD.2.1.2.1
  rw [e1] at a4 a6
  have hne : ∀ L j, ¬ (L = 20 ∧ j = 0) → xSz X2 L j = xSz X L j := fun L j z => by rw [a4]; exact if_neg z
  have hnc : ∀ L j, ¬ (L = 20 ∧ j = 0) → xCp X2 L j = xCp X L j := fun L j z => by rw [a5 L j z, e2]
  have hsz : xSz X2 20 0 = xSz X 20 0 + 1 := by rw [a4]; exact if_pos ⟨rfl, rfl⟩
  have hc0 : xCp X2 20 0 ≠ 0 := by omega
  have hlv : ∀ k i, lv X2 k i ↔ (lvb X k i ∨ (k = 6 ∧ i = xSz X 20 0)) ∨ (k = 30 ∧ i = 0) := fun k i => by rw [a7, lv_ob hX hq hD.1, h1]
  have hlow : ∀ L i, 20 ≤ L → L < 30 → lv X2 L i → lv X L i := fun L i g1 g2 g3 => (h1 L i).mpr (((hlv L i).mp g3).elim (fun z => z.elim id (fun y => by omega)) (fun y => by omega))
  refine ⟨fun k i => ?_, fun L i g1 g2 g3 => ?_, ?_, fun i hi => ?_, fun i hi => ?_⟩
  · rw [hlv]
    unfold lvb
    split
    · omega
    · rw [hne 27 0 (by omega)]; omega
    · rw [hne 25 0 (by omega)]; omega
    · rw [hne 24 0 (by omega), hne 29 _ (by omega)]; omega
    · omega
    · rw [hsz]; omega
    · omega
    · rw [hne 24 0 (by omega)]; omega
    · omega
    · rw [hne 26 0 (by omega)]; omega
    · omega
    · omega
    · omega
    · omega
    · omega
    · omega
    · omega
    · omega
    · omega
    · omega
    · rw [hne 24 0 (by omega)]; omega
    · constructor
      · rintro ((z | z) | z)
        · refine ⟨z.1, ?_⟩; rw [z.1]; exact hc0
        · omega
        · exact ⟨z.2, by rw [z.2]; exact hc0⟩
      · exact fun z => Or.inr ⟨rfl, z.1⟩
    · rw [hnc 21 i (by omega)]; omega
    · rw [hnc 22 i (by omega)]; omega
    · rw [hnc 23 i (by omega)]; omega
    · rw [hnc 24 i (by omega)]; omega
    · rw [hnc 25 i (by omega)]; omega
    · rw [hnc 26 i (by omega)]; omega
    · rw [hnc 27 i (by omega)]; omega
    · rw [hnc 28 i (by omega)]; omega
    · rw [hne 24 0 (by omega), hnc 29 i (by omega)]; omega
    · omega
    · omega
    · rename_i z1 z2 z3 z4 z5 z6 z7 z8 z9 z10 z11 z12 z13 z14 z15 z16 z17 z18 z19 z20 z21 z22 z23 z24 z25 z26 z27 z28 z29 z30 z31 z32 z33
      constructor
      · rintro ((z | z) | z)
        · exact z
        · exact z6 z.1
        · exact z22 z.1
      · exact fun z => z.elim
  · by_cases z : L = 20 ∧ i = 0
    · rw [z.1, z.2]; exact a6'
    · rw [hnc L i z]; exact h2 L i g1 g2 (hlow L i g1 g2 g3)
  · rw [hsz, hne 21 0 (by omega), hne 22 0 (by omega), hne 23 0 (by omega), hne 24 0 (by omega), hne 25 0 (by omega), hne 26 0 (by omega), hne 27 0 (by omega)]; omega
  · rw [hne 28 i (by omega)]; exact h4 i hi
  · rw [hne 24 0 (by omega)] at hi
    rw [hne 29 i (by omega)]; exact h5 i hi
theorem LVX_25 {X Y X2 : CX} {S S1 : CT} {q : Nat} {e : va_E} (h : LVX X) (hX : HX X) (hq : q ∉ xAs X) (hD : DE X S Y S1 3 (xSz X 25 0)) (hs : xSz X 25 0 < 60) (hA : AD (obX Y 3 (xSz X 25 0) q e) X2 25 0) : LVX X2 := by
  obtain ⟨h1, h2, h3, h4, h5⟩ := h
  obtain ⟨a1, -, a3, a4, a5, ⟨a6, a6'⟩, a7, -⟩ := hA
  have e1 : xSz (obX Y 3 (xSz X 25 0) q e) = xSz X := hD.2.1.1
  have e2 : xCp (obX Y 3 (xSz X 25 0) q e) = xCp X := hD.2.1.2.1
  rw [e1] at a4 a6
  have hne : ∀ L j, ¬ (L = 25 ∧ j = 0) → xSz X2 L j = xSz X L j := fun L j z => by rw [a4]; exact if_neg z
  have hnc : ∀ L j, ¬ (L = 25 ∧ j = 0) → xCp X2 L j = xCp X L j := fun L j z => by rw [a5 L j z, e2]
  have hsz : xSz X2 25 0 = xSz X 25 0 + 1 := by rw [a4]; exact if_pos ⟨rfl, rfl⟩
  have hc0 : xCp X2 25 0 ≠ 0 := by omega
  have hlv : ∀ k i, lv X2 k i ↔ (lvb X k i ∨ (k = 3 ∧ i = xSz X 25 0)) ∨ (k = 35 ∧ i = 0) := fun k i => by rw [a7, lv_ob hX hq hD.1, h1]
  have hlow : ∀ L i, 20 ≤ L → L < 30 → lv X2 L i → lv X L i := fun L i g1 g2 g3 => (h1 L i).mpr (((hlv L i).mp g3).elim (fun z => z.elim id (fun y => by omega)) (fun y => by omega))
  refine ⟨fun k i => ?_, fun L i g1 g2 g3 => ?_, ?_, fun i hi => ?_, fun i hi => ?_⟩
  · rw [hlv]
    unfold lvb
    split
    · omega
    · rw [hne 27 0 (by omega)]; omega
    · rw [hsz]; omega
    · rw [hne 24 0 (by omega), hne 29 _ (by omega)]; omega
    · omega
    · rw [hne 20 0 (by omega)]; omega
    · omega
    · rw [hne 24 0 (by omega)]; omega
    · omega
    · rw [hne 26 0 (by omega)]; omega
    · omega
    · omega
    · omega
    · omega
    · omega
    · omega
    · omega
    · omega
    · omega
    · omega
    · rw [hne 24 0 (by omega)]; omega
    · rw [hnc 20 i (by omega)]; omega
    · rw [hnc 21 i (by omega)]; omega
    · rw [hnc 22 i (by omega)]; omega
    · rw [hnc 23 i (by omega)]; omega
    · rw [hnc 24 i (by omega)]; omega
    · constructor
      · rintro ((z | z) | z)
        · refine ⟨z.1, ?_⟩; rw [z.1]; exact hc0
        · omega
        · exact ⟨z.2, by rw [z.2]; exact hc0⟩
      · exact fun z => Or.inr ⟨rfl, z.1⟩
    · rw [hnc 26 i (by omega)]; omega
    · rw [hnc 27 i (by omega)]; omega
    · rw [hnc 28 i (by omega)]; omega
    · rw [hne 24 0 (by omega), hnc 29 i (by omega)]; omega
    · omega
    · omega
    · rename_i z1 z2 z3 z4 z5 z6 z7 z8 z9 z10 z11 z12 z13 z14 z15 z16 z17 z18 z19 z20 z21 z22 z23 z24 z25 z26 z27 z28 z29 z30 z31 z32 z33
      constructor
      · rintro ((z | z) | z)
        · exact z
        · exact z3 z.1
        · exact z27 z.1
      · exact fun z => z.elim
  · by_cases z : L = 25 ∧ i = 0
    · rw [z.1, z.2]; exact a6'
    · rw [hnc L i z]; exact h2 L i g1 g2 (hlow L i g1 g2 g3)
  · rw [hne 20 0 (by omega), hne 21 0 (by omega), hne 22 0 (by omega), hne 23 0 (by omega), hne 24 0 (by omega), hsz, hne 26 0 (by omega), hne 27 0 (by omega)]; omega
  · rw [hne 28 i (by omega)]; exact h4 i hi
  · rw [hne 24 0 (by omega)] at hi
    rw [hne 29 i (by omega)]; exact h5 i hi
theorem LVX_26 {X Y X2 : CX} {S S1 : CT} {q : Nat} {e : va_E} (h : LVX X) (hX : HX X) (hq : q ∉ xAs X) (hD : DE X S Y S1 10 (xSz X 26 0)) (hs : xSz X 26 0 < 30) (hA : AD (obX Y 10 (xSz X 26 0) q e) X2 26 0) : LVX X2 := by
  obtain ⟨h1, h2, h3, h4, h5⟩ := h
  obtain ⟨a1, -, a3, a4, a5, ⟨a6, a6'⟩, a7, -⟩ := hA
  have e1 : xSz (obX Y 10 (xSz X 26 0) q e) = xSz X := hD.2.1.1
  have e2 : xCp (obX Y 10 (xSz X 26 0) q e) = xCp X := hD.2.1.2.1
  rw [e1] at a4 a6
  have hne : ∀ L j, ¬ (L = 26 ∧ j = 0) → xSz X2 L j = xSz X L j := fun L j z => by rw [a4]; exact if_neg z
  have hnc : ∀ L j, ¬ (L = 26 ∧ j = 0) → xCp X2 L j = xCp X L j := fun L j z => by rw [a5 L j z, e2]
  have hsz : xSz X2 26 0 = xSz X 26 0 + 1 := by rw [a4]; exact if_pos ⟨rfl, rfl⟩
  have hc0 : xCp X2 26 0 ≠ 0 := by omega
  have hlv : ∀ k i, lv X2 k i ↔ (lvb X k i ∨ (k = 10 ∧ i = xSz X 26 0)) ∨ (k = 36 ∧ i = 0) := fun k i => by rw [a7, lv_ob hX hq hD.1, h1]
  have hlow : ∀ L i, 20 ≤ L → L < 30 → lv X2 L i → lv X L i := fun L i g1 g2 g3 => (h1 L i).mpr (((hlv L i).mp g3).elim (fun z => z.elim id (fun y => by omega)) (fun y => by omega))
  refine ⟨fun k i => ?_, fun L i g1 g2 g3 => ?_, ?_, fun i hi => ?_, fun i hi => ?_⟩
  · rw [hlv]
    unfold lvb
    split
    · omega
    · rw [hne 27 0 (by omega)]; omega
    · rw [hne 25 0 (by omega)]; omega
    · rw [hne 24 0 (by omega), hne 29 _ (by omega)]; omega
    · omega
    · rw [hne 20 0 (by omega)]; omega
    · omega
    · rw [hne 24 0 (by omega)]; omega
    · omega
    · rw [hsz]; omega
    · omega
    · omega
    · omega
    · omega
    · omega
    · omega
    · omega
    · omega
    · omega
    · omega
    · rw [hne 24 0 (by omega)]; omega
    · rw [hnc 20 i (by omega)]; omega
    · rw [hnc 21 i (by omega)]; omega
    · rw [hnc 22 i (by omega)]; omega
    · rw [hnc 23 i (by omega)]; omega
    · rw [hnc 24 i (by omega)]; omega
    · rw [hnc 25 i (by omega)]; omega
    · constructor
      · rintro ((z | z) | z)
        · refine ⟨z.1, ?_⟩; rw [z.1]; exact hc0
        · omega
        · exact ⟨z.2, by rw [z.2]; exact hc0⟩
      · exact fun z => Or.inr ⟨rfl, z.1⟩
    · rw [hnc 27 i (by omega)]; omega
    · rw [hnc 28 i (by omega)]; omega
    · rw [hne 24 0 (by omega), hnc 29 i (by omega)]; omega
    · omega
    · omega
    · rename_i z1 z2 z3 z4 z5 z6 z7 z8 z9 z10 z11 z12 z13 z14 z15 z16 z17 z18 z19 z20 z21 z22 z23 z24 z25 z26 z27 z28 z29 z30 z31 z32 z33
      constructor
      · rintro ((z | z) | z)
        · exact z
        · exact z10 z.1
        · exact z28 z.1
      · exact fun z => z.elim
  · by_cases z : L = 26 ∧ i = 0
    · rw [z.1, z.2]; exact a6'
    · rw [hnc L i z]; exact h2 L i g1 g2 (hlow L i g1 g2 g3)
  · rw [hne 20 0 (by omega), hne 21 0 (by omega), hne 22 0 (by omega), hne 23 0 (by omega), hne 24 0 (by omega), hne 25 0 (by omega), hsz, hne 27 0 (by omega)]; omega
  · rw [hne 28 i (by omega)]; exact h4 i hi
  · rw [hne 24 0 (by omega)] at hi
    rw [hne 29 i (by omega)]; exact h5 i hi
theorem LVX_27 {X Y X2 : CX} {S S1 : CT} {q : Nat} {e : va_E} (h : LVX X) (hX : HX X) (hq : q ∉ xAs X) (hD : DE X S Y S1 2 (xSz X 27 0)) (hs : xSz X 27 0 < 40) (hA : AD (obX Y 2 (xSz X 27 0) q e) X2 27 0) : LVX X2 := by
  obtain ⟨h1, h2, h3, h4, h5⟩ := h
  obtain ⟨a1, -, a3, a4, a5, ⟨a6, a6'⟩, a7, -⟩ := hA
  have e1 : xSz (obX Y 2 (xSz X 27 0) q e) = xSz X := hD.2.1.1
  have e2 : xCp (obX Y 2 (xSz X 27 0) q e) = xCp X := hD.2.1.2.1
  rw [e1] at a4 a6
  have hne : ∀ L j, ¬ (L = 27 ∧ j = 0) → xSz X2 L j = xSz X L j := fun L j z => by rw [a4]; exact if_neg z
  have hnc : ∀ L j, ¬ (L = 27 ∧ j = 0) → xCp X2 L j = xCp X L j := fun L j z => by rw [a5 L j z, e2]
  have hsz : xSz X2 27 0 = xSz X 27 0 + 1 := by rw [a4]; exact if_pos ⟨rfl, rfl⟩
  have hc0 : xCp X2 27 0 ≠ 0 := by omega
  have hlv : ∀ k i, lv X2 k i ↔ (lvb X k i ∨ (k = 2 ∧ i = xSz X 27 0)) ∨ (k = 37 ∧ i = 0) := fun k i => by rw [a7, lv_ob hX hq hD.1, h1]
  have hlow : ∀ L i, 20 ≤ L → L < 30 → lv X2 L i → lv X L i := fun L i g1 g2 g3 => (h1 L i).mpr (((hlv L i).mp g3).elim (fun z => z.elim id (fun y => by omega)) (fun y => by omega))
  refine ⟨fun k i => ?_, fun L i g1 g2 g3 => ?_, ?_, fun i hi => ?_, fun i hi => ?_⟩
  · rw [hlv]
    unfold lvb
    split
    · omega
    · rw [hsz]; omega
    · rw [hne 25 0 (by omega)]; omega
    · rw [hne 24 0 (by omega), hne 29 _ (by omega)]; omega
    · omega
    · rw [hne 20 0 (by omega)]; omega
    · omega
    · rw [hne 24 0 (by omega)]; omega
    · omega
    · rw [hne 26 0 (by omega)]; omega
    · omega
    · omega
    · omega
    · omega
    · omega
    · omega
    · omega
    · omega
    · omega
    · omega
    · rw [hne 24 0 (by omega)]; omega
    · rw [hnc 20 i (by omega)]; omega
    · rw [hnc 21 i (by omega)]; omega
    · rw [hnc 22 i (by omega)]; omega
    · rw [hnc 23 i (by omega)]; omega
    · rw [hnc 24 i (by omega)]; omega
    · rw [hnc 25 i (by omega)]; omega
    · rw [hnc 26 i (by omega)]; omega
    · constructor
      · rintro ((z | z) | z)
        · refine ⟨z.1, ?_⟩; rw [z.1]; exact hc0
        · omega
        · exact ⟨z.2, by rw [z.2]; exact hc0⟩
      · exact fun z => Or.inr ⟨rfl, z.1⟩
    · rw [hnc 28 i (by omega)]; omega
    · rw [hne 24 0 (by omega), hnc 29 i (by omega)]; omega
    · omega
    · omega
    · rename_i z1 z2 z3 z4 z5 z6 z7 z8 z9 z10 z11 z12 z13 z14 z15 z16 z17 z18 z19 z20 z21 z22 z23 z24 z25 z26 z27 z28 z29 z30 z31 z32 z33
      constructor
      · rintro ((z | z) | z)
        · exact z
        · exact z2 z.1
        · exact z29 z.1
      · exact fun z => z.elim
  · by_cases z : L = 27 ∧ i = 0
    · rw [z.1, z.2]; exact a6'
    · rw [hnc L i z]; exact h2 L i g1 g2 (hlow L i g1 g2 g3)
  · rw [hne 20 0 (by omega), hne 21 0 (by omega), hne 22 0 (by omega), hne 23 0 (by omega), hne 24 0 (by omega), hne 25 0 (by omega), hne 26 0 (by omega), hsz]; omega
  · rw [hne 28 i (by omega)]; exact h4 i hi
  · rw [hne 24 0 (by omega)] at hi
    rw [hne 29 i (by omega)]; exact h5 i hi
