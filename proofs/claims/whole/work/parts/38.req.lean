theorem lv_adS {X X1 : CX} {kd n q kd' i : Nat} (hq : xTg X q = none) (hs : SA X X1) : lv (adX X1 kd n q) kd' i ↔ lv X kd' i ∨ (kd' = kd ∧ i = n) := by
  have h9 : xTg X1 q = none := by rw [hs.2.1]; exact hq
  rw [lv_ad h9]
  exact or_congr (lv_SA (X := X) (X1 := X1) hs) Iff.rfl
theorem cW_adp {k : KC} {X X1 : CX} {S S1 : CT} {kd n a : Nat} (hX : HX X) (hR : RO X S) (hE : EA X) (hk : kd < 20) (ha : a ∈ xAs X) (hta : xTg X a = none) (hd : dead X kd n) (hD : DE X S X1 S1 kd n) (he : xGb X a = cE k (adX X1 kd n a) S1 kd n) : cW k X S = cW k (adX X1 kd n a) S1 ∧ HX (adX X1 kd n a) := by
  obtain ⟨hs, hl, hde⟩ := hD
  have hne : ∀ b (r : Nat × Nat), xTg X b = some r → ¬ (r.1 = kd ∧ r.2 = n) := fun b r hb q => hd b (by rw [hb, ← q.1, ← q.2])
  have hX1 : HX X1 := by
    unfold HX
    rw [hs.2.1, hs.2.2.1, hs.1]
    exact hX
  have hd1 : dead X1 kd n := by
    intro b hb
    rw [hs.2.1] at hb
    exact hd b hb
  have ht1 : xTg X1 a = none := by rw [hs.2.1]; exact hta
  refine ⟨?_, hX1.ad (by rw [hs.1]; exact ha) hd1⟩
  have e1 : cW k X1 S1 = cW k X S := by
    refine cW_eq hs fun b r hb => ?_
    have hn := hne b r hb
    refine cE_ext (fun h20 j hj => ?_) (fun g1 g2 => ⟨by rw [hl.2.2], by rw [hl.2.1], by rw [hl.1], fun _ => by rw [hs.2.2.1]⟩) (fun g1 g2 => ⟨by rw [hl.2.1], by rw [hl.1], fun _ _ => by rw [hs.2.2.1]⟩) (fun e4 => ?_) (fun e5 => ?_)
    · have := nF_le r.1
      obtain ⟨d1, d2, d3, d4⟩ := hde (32 * r.1 + j) r.2 (fun q => hn ⟨by omega, q.2⟩)
      exact cR_ext d1 d2 d3 d4 (fun _ => vr_SA hs) (fun _ => vr_SA hs) (fun _ => by rw [hs.2.2.1])
    · funext m
      exact (hde (1280 + r.2) m (fun q => by omega)).1
    · funext m
      exact (hde (1312 + r.2) m (fun q => by omega)).2.1
  rw [← e1]
  refine cW_ad ht1 (by rw [hs.2.2.2]; exact he) fun b r hb => ?_
  have hb' : xTg X b = some r := by rwa [hs.2.1] at hb
  have hn := hne b r hb'
  have hlv : lv X r.1 r.2 := by
    unfold lv
    rw [← (hX b r.1 r.2 hb').1]
    exact hb'
  refine cE_ext (fun h20 j hj => ?_) (fun g1 g2 => ⟨rfl, rfl, rfl, fun _ => if_neg (by omega)⟩) (fun g1 g2 => ⟨rfl, rfl, fun m hm => if_neg fun z => ?_⟩) (fun _ => rfl) (fun _ => rfl)
  · have hj18 := nF_le r.1
    obtain ⟨d1, d2, d3, d4⟩ := hde (32 * r.1 + j) r.2 (fun q => hn ⟨by omega, q.2⟩)
    obtain ⟨r1, r2⟩ := hR r.1 r.2 j hlv h20 hj
    refine cR_ext rfl rfl rfl rfl (fun h3 => vr_ad hd1 ?_) (fun h7 => vr_ad hd1 ?_) (fun h8 => if_neg ?_)
    · rw [d1, oI_SA hs]
      exact r1 h3
    · rw [d3, oI_SA hs]
      exact r2 h7
    · have := (ct8 r.1 h20 j (by omega) hj h8).1
      omega
  · refine hd.lv ?_
    have h9 := hE r.1 r.2 g1 g2 hlv m (by rw [← hl.1]; exact hm)
    rwa [z.1, z.2] at h9
section OA
variable {X Y : CX} {S S1 : CT} {kd n q : Nat} 
theorem oa_low (hX : HX X) (hq : xTg X q = none) (hD : DE X S Y S1 kd n) {k i : Nat} (hk : k ≠ kd) (h : lv (adX Y kd n q) k i) : lv X k i := ((lv_adS hq hD.1).mp h).elim id (fun z => absurd z.1 hk)
theorem oa_hm (hX : HX X) (hq : xTg X q = none) (hD : DE X S Y S1 kd n) (k i : Nat) (h : lv X k i) : lv (adX Y kd n q) k i := (lv_adS hq hD.1).mpr (Or.inl h)
theorem oa_me (hX : HX X) (hq : xTg X q = none) (hD : DE X S Y S1 kd n) : lv (adX Y kd n q) kd n := (lv_adS hq hD.1).mpr (Or.inr ⟨rfl, rfl⟩)
theorem oa_I (hX : HX X) (hq : xTg X q = none) (hD : DE X S Y S1 kd n) {k : Nat} {x : Int32} (h : lI (adX Y kd n q) k x) : lI X k x ∨ (k = kd ∧ x = nI n) := by
  obtain ⟨m, hm, e1, h9⟩ := h
  rcases (lv_adS hq hD.1).mp h9 with z | z
  · exact Or.inl ⟨m, hm, e1, z⟩
  · exact Or.inr ⟨z.1, by rw [e1, z.2]⟩
theorem oa_xi (hd : dead X kd n) (hD : DE X S Y S1 kd n) {k f : Nat} {x : Int32} (hf : f / 32 = k) (h : lI X k x) : xi Y f x = xi X f x ∧ ci S1 f x = ci S f x := by
  have h9 := h.lv
  have h8 := hD.2.2 f x.toNatClampNeg (fun z => hd.lv (by rw [← z.2, ← z.1, hf]; exact h9))
  exact ⟨h8.2.2.1, h8.1⟩
theorem XOK_oa (h : XOK X) (hq : xTg X q = none) (hd : dead X kd n) (hD : DE X S Y S1 kd n) (hk : kd < 12 ∧ kd ≠ 1) (hn : n < 2 ^ 30) (hx1 : HX (adX Y kd n q)) (o8 : kd = 8 → LW X 29 n ∧ lI X 6 (xFi Y 256 n) ∧ lI X 1 (xFi Y 257 n)) (o3 : kd = 3 → lI X 8 (xFi Y 96 n) ∧ lI X 4 (xFi Y 97 n) ∧ lI X 9 (xFi Y 98 n)) (o2 : kd = 2 → lI X 6 (xFi Y 64 n)) (o6 : kd = 6 → oI X 6 (xFi Y 193 n)) : XOK (adX Y kd n q) := by
  have hX := h.1
  have hm := fun k i => oa_hm (k := k) (i := i) hX hq hD
  have hcl : (nI n).toNatClampNeg = n := nI_clamp (by omega)
  have hl : ∀ L i, LW X L i → LW (adX Y kd n q) L i := fun L i g => by
    obtain ⟨g1, g2, g3, g4, g5⟩ := g
    refine ⟨g1, hm _ _ g2, ?_⟩
    show xSz Y L i ≤ xCp Y L i ∧ xCp Y L i < 2 ^ 30 ∧ (xCp Y L i ≠ 0 → _)
    rw [hD.2.1.1, hD.2.1.2.1]
    exact ⟨g3, g4, fun z => hm _ _ (g5 z)⟩
  refine XOK_of h hx1 hm hl (fun L i m g hq9 => Or.inl ?_) (fun x hx => (oa_I hX hq hD hx).elim id (fun z => absurd z.1.symm hk.2)) (fun x hx => ?_) (fun x hx => ?_) (fun x hx => ?_) (fun x hx => ?_)
  · obtain ⟨g1, g2, g3, g4, g5⟩ := g
    have e1 : xSz (adX Y kd n q) L i = xSz X L i := by show xSz Y L i = _; rw [hD.2.1.1]
    have e2 : xCp (adX Y kd n q) L i = xCp X L i := by show xCp Y L i = _; rw [hD.2.1.2.1]
    rw [e1] at g3 hq9
    rw [e2] at g3 g4 g5
    exact ⟨⟨g1, oa_low hX hq hD (by omega) g2, g3, g4, fun z => oa_low hX hq hD (by omega) (g5 z)⟩, hq9⟩
  · rcases oa_I hX hq hD hx with z | ⟨z1, z2⟩
    · exact Or.inl ⟨z, (oa_xi hd hD rfl z).1, (oa_xi hd hD rfl z).1⟩
    · obtain ⟨y1, y2, y3⟩ := o8 z1.symm
      refine Or.inr ⟨?_, ?_, ?_⟩
      · rw [z2, hcl]; exact hl _ _ y1
      · rw [z2]; show lI _ _ (xFi Y 256 (nI n).toNatClampNeg); rw [hcl]; exact lI_mono hm y2
      · rw [z2]; show lI _ _ (xFi Y 257 (nI n).toNatClampNeg); rw [hcl]; exact lI_mono hm y3
  · rcases oa_I hX hq hD hx with z | ⟨z1, z2⟩
    · exact Or.inl ⟨z, (oa_xi hd hD rfl z).1, (oa_xi hd hD rfl z).1, (oa_xi hd hD rfl z).1⟩
    · obtain ⟨y1, y2, y3⟩ := o3 z1.symm
      refine Or.inr ⟨?_, ?_, ?_⟩
      · rw [z2]; show lI _ _ (xFi Y 96 (nI n).toNatClampNeg); rw [hcl]; exact lI_mono hm y1
      · rw [z2]; show lI _ _ (xFi Y 97 (nI n).toNatClampNeg); rw [hcl]; exact lI_mono hm y2
      · rw [z2]; show lI _ _ (xFi Y 98 (nI n).toNatClampNeg); rw [hcl]; exact lI_mono hm y3
  · rcases oa_I hX hq hD hx with z | ⟨z1, z2⟩
    · exact Or.inl ⟨z, (oa_xi hd hD rfl z).1⟩
    · right
      rw [z2]; show lI _ _ (xFi Y 64 (nI n).toNatClampNeg); rw [hcl]; exact lI_mono hm (o2 z1.symm)
  · rcases oa_I hX hq hD hx with z | ⟨z1, z2⟩
    · exact Or.inl ⟨z, (oa_xi hd hD rfl z).1⟩
    · right
      rw [z2]; show oI _ _ (xFi Y 193 (nI n).toNatClampNeg); rw [hcl]; exact oI_mono hm (o6 z1.symm)
theorem TS_oa (h : TS X S) (hx : XOK X) (hq : xTg X q = none) (hd : dead X kd n) (hD : DE X S Y S1 kd n) (hk : kd ≠ 9) (hn : n < 2 ^ 30) (o6 : kd = 6 → oI X 6 (S1.1 196 n)) (o8 : kd = 8 → oI X 6 (S1.1 262 n) ∧ oI X 6 (S1.1 263 n) ∧ oI X 9 (S1.1 264 n)) : TS (adX Y kd n q) S1 := by
  have hX := hx.1
  have hm := fun k i => oa_hm (k := k) (i := i) hX hq hD
  have hcl : (nI n).toNatClampNeg = n := nI_clamp (by omega)
  refine TS_of h hm (oa_xi hd hD rfl hx.l11).2 (fun x hx => ?_) (fun x hx => ?_) (fun x hx => ?_)
  · rcases oa_I hX hq hD hx with z | ⟨z1, z2⟩
    · exact Or.inl ⟨z, (oa_xi hd hD rfl z).2⟩
    · right
      rw [z2]; unfold ci; rw [hcl]; exact oI_mono hm (o6 z1.symm)
  · rcases oa_I hX hq hD hx with z | ⟨z1, z2⟩
    · exact ⟨z, (oa_xi hd hD rfl z).2⟩
    · exact absurd z1.symm hk
  · rcases oa_I hX hq hD hx with z | ⟨z1, z2⟩
    · exact Or.inl ⟨z, (oa_xi hd hD rfl z).2, (oa_xi hd hD rfl z).2, (oa_xi hd hD rfl z).2⟩
    · right
      obtain ⟨y1, y2, y3⟩ := o8 z1.symm
      rw [z2]; unfold ci; rw [hcl]
      exact ⟨oI_mono hm y1, oI_mono hm y2, oI_mono hm y3⟩
theorem LA_oa {L i : Nat} (h : LA X L i) (hq : xTg X q = none) (hD : DE X S Y S1 kd n) (hk : kd < 12) (hx1 : HX (adX Y kd n q)) : LA (adX Y kd n q) L i := by
  obtain ⟨hX, hE, ⟨g1, g2, g3, g4, g5⟩, ⟨g6, g7⟩, g8⟩ := h
  have hm := fun k i => oa_hm (k := k) (i := i) hX hq hD
  have e1 : ∀ L i, xSz (adX Y kd n q) L i = xSz X L i := fun L i => by show xSz Y L i = _; rw [hD.2.1.1]
  have e2 : ∀ L i, xCp (adX Y kd n q) L i = xCp X L i := fun L i => by show xCp Y L i = _; rw [hD.2.1.2.1]
  refine ⟨hx1, fun L' i' a1 a2 a3 m hm9 => hm _ _ (hE L' i' a1 a2 (oa_low hX hq hD (by omega) a3) m (by rw [← e1]; exact hm9)), ⟨g1, hm _ _ g2, ?_⟩, ?_, fun z => ?_⟩
  · rw [e1, e2]
    exact ⟨g3, g4, fun z => hm _ _ (g5 z)⟩
  · rw [e1, e2]
    exact ⟨g6, g7⟩
  · rw [e2] at z
    exact dead.of hx1 fun y => (g8 z).lv (oa_low hX hq hD (by omega) y)
end OA
/-- an empty list gets its role -/
abbrev ltX (X : CX) (Li n q : Nat) (e : va_E) : CX := obX (lsX X Li n 0 0 0) Li n q e
theorem cW_lst {k : KC} {X : CX} {S : CT} {Li n q : Nat} (hX : HX X) (hE : EA X) (hq : q ∉ xAs X) (hL : 20 ≤ Li ∧ Li < 30) (hd : dead X Li n) (hda : dead X (Li + 10) n) (hown : ∀ kd i j, lv X kd i → kd < 20 → j < nF kd → 8 ≤ (ct (32 * kd + j)).1 → (ct (32 * kd + j)).2 = Li → i ≠ n) {e : va_E} (he : e = .inr (0, [.int 0, .ref k.2.2.2.2.2.1, .int 0])) : ((cW k X S).1 ++ [q], va_up (cW k X S).2 q e) = cW k (ltX X Li n q e) S ∧ HX (ltX X Li n q e) := by
  obtain ⟨g1, g2⟩ := hL
  have hlvr : ∀ b (r : Nat × Nat), xTg X b = some r → lv X r.1 r.2 := fun b r hb => by
    unfold lv
    rw [← (hX b r.1 r.2 hb).1]
    exact hb
  have hX1 : HX (lsX X Li n 0 0 0) := hX
  refine ⟨?_, hX1.nw.ad (List.mem_append_right _ List.mem_cons_self) hd⟩
  rw [cW_nw hX hq]
  have e1 : cW k (nwX (lsX X Li n 0 0 0) q e) S = cW k (nwX X q e) S := by
    refine cW_eq ⟨rfl, rfl, rfl, rfl⟩ fun b r hb => ?_
    have hb' : xTg X b = some r := hb
    have n1 : ¬ (r.1 = Li ∧ r.2 = n) := fun z => hd b (by rw [hb', ← z.1, ← z.2])
    have n2 : ¬ (r.1 = Li + 10 ∧ r.2 = n) := fun z => hda b (by rw [hb', ← z.1, ← z.2])
    rw [cE_nw, cE_nw]
    exact cE_ext (X := X) (X1 := lsX X Li n 0 0 0) (fun h20 j hj => cR_ext rfl rfl rfl rfl (fun _ => rfl) (fun _ => rfl) (fun _ => rfl)) (fun g3 g4 => ⟨if_neg n1, if_neg n1, if_neg n1, fun _ => rfl⟩) (fun g3 g4 => ⟨if_neg (fun z => n2 ⟨by omega, z.2⟩), if_neg (fun z => n2 ⟨by omega, z.2⟩), fun _ _ => rfl⟩) (fun _ => rfl) (fun _ => rfl)
  rw [← e1]
  refine cW_ad (hX.tg hq) ?_ fun b r hb => ?_
  · show va_up (xGb X) q e q = _
    rw [va_up_self, he]
    unfold cE
    rw [if_neg (by omega), if_pos (by omega)]
    show _ = Sum.inr (0, [Value.int (xMc (lsX X Li n 0 0 0) Li n), .ref (if xCp (lsX X Li n 0 0 0) Li n = 0 then _ else _), .int (nI (xSz (lsX X Li n 0 0 0) Li n))])
    rw [ls_mc, ls_cp, ls_sz, if_pos rfl, nI_0]
  have hb' : xTg X b = some r := hb
  have hlv := hlvr b r hb'
  have n1 : ¬ (r.1 = Li ∧ r.2 = n) := fun z => hd b (by rw [hb', ← z.1, ← z.2])
  refine cE_ext (fun h20 j hj => ?_) (fun g3 g4 => ⟨rfl, rfl, rfl, fun _ => if_neg (by omega)⟩) (fun g3 g4 => ⟨rfl, rfl, fun m hm => if_neg fun z => by have := eK_lt (r.1 - 10); omega⟩) (fun _ => rfl) (fun _ => rfl)
  have hj18 := nF_le r.1
  refine cR_ext rfl rfl rfl rfl (fun h3 => vr_an ?_) (fun h7 => vr_an ?_) (fun h8 => if_neg fun z => hown r.1 r.2 j hlv h20 hj h8 z.1 z.2)
  · have := ct37 r.1 h20 j (by omega) hj (Or.inl h3)
    omega
  · have := ct37 r.1 h20 j (by omega) hj (Or.inr h7)
    omega
theorem lv_lst {X : CX} (hX : HX X) {Li n q k i : Nat} {e : va_E} (hq : q ∉ xAs X) : lv (ltX X Li n q e) k i ↔ lv X k i ∨ (k = Li ∧ i = n) := lv_ad (X := nwX (lsX X Li n 0 0 0) q e) (hX.tg hq)
theorem ls_ne {X : CX} {L n s cp L' i : Nat} {mc : Int32} (h : ¬ (L' = L ∧ i = n)) : xSz (lsX X L n s cp mc) L' i = xSz X L' i ∧ xCp (lsX X L n s cp mc) L' i = xCp X L' i := ⟨if_neg h, if_neg h⟩
/-- a world with one more list holds what it held -/
theorem XOK_lst {X : CX} (h : XOK X) {Li n q : Nat} {e : va_E} (hq : q ∉ xAs X) (hL : 20 ≤ Li ∧ Li < 30) (hd : dead X Li n) (hda : dead X (Li + 10) n) (hx : HX (ltX X Li n q e)) : XOK (ltX X Li n q e) := by
  have hm : ∀ k i, lv X k i → lv (ltX X Li n q e) k i := fun k i z => (lv_lst h.1 hq).mpr (Or.inl z)
  have hlow : ∀ k i, k ≠ Li → lv (ltX X Li n q e) k i → lv X k i := fun k i g z => ((lv_lst h.1 hq).mp z).elim id (fun y => absurd y.1 g)
  have hI : ∀ k x, k < 20 → lI (ltX X Li n q e) k x → lI X k x := fun k x g ⟨m, hm9, e9, z⟩ => ⟨m, hm9, e9, hlow k m (by omega) z⟩
  have hne : ∀ L i, lv X L i ∨ lv X (L + 10) i → ¬ (L = Li ∧ i = n) := fun L i z y => by
    obtain ⟨rfl, rfl⟩ := y
    exact z.elim hd.lv hda.lv
  refine XOK_of h hx hm (fun L i ⟨g1, g2, g3, g4, g5⟩ => ?_) (fun L i m ⟨g1, g2, g3, g4, g5⟩ hm9 => ?_) (fun x hx => hI 1 x (by omega) hx) (fun x hx => Or.inl ⟨hI 8 x (by omega) hx, rfl, rfl⟩) (fun x hx => Or.inl ⟨hI 3 x (by omega) hx, rfl, rfl, rfl⟩) (fun x hx => Or.inl ⟨hI 2 x (by omega) hx, rfl⟩) (fun x hx => Or.inl ⟨hI 6 x (by omega) hx, rfl⟩)
  · have n1 := hne L i (Or.inl g2)
    refine ⟨g1, hm _ _ g2, ?_⟩
    show xSz (lsX X Li n 0 0 0) L i ≤ xCp (lsX X Li n 0 0 0) L i ∧ xCp (lsX X Li n 0 0 0) L i < 2 ^ 30 ∧ (xCp (lsX X Li n 0 0 0) L i ≠ 0 → _)
    rw [(ls_ne n1).1, (ls_ne n1).2]
    exact ⟨g3, g4, fun z => hm _ _ (g5 z)⟩
  · left
    have hm8 : m < xSz (lsX X Li n 0 0 0) L i := hm9
    by_cases n1 : L = Li ∧ i = n
    · rw [n1.1, n1.2, ls_sz] at hm8
      omega
    · have g3' : xSz (lsX X Li n 0 0 0) L i ≤ xCp (lsX X Li n 0 0 0) L i := g3
      have g4' : xCp (lsX X Li n 0 0 0) L i < 2 ^ 30 := g4
      rw [(ls_ne n1).1] at hm8 g3'
      rw [(ls_ne n1).2] at g3' g4'
      have g5' : xCp (lsX X Li n 0 0 0) L i ≠ 0 → lv (ltX X Li n q e) (L + 10) i := g5
      rw [(ls_ne n1).2] at g5'
      have hl0 : lv X L i := ((lv_lst h.1 hq).mp g2).elim id (fun y => absurd y n1)
      exact ⟨⟨g1, hl0, g3', g4', fun z => hlow _ _ (by omega) (g5' z)⟩, hm8⟩
theorem LA_lst {X : CX} {L i : Nat} (h : LA X L i) {Li n q : Nat} {e : va_E} (hq : q ∉ xAs X) (hL : 20 ≤ Li ∧ Li < 30) (hda : dead X (Li + 10) n) (hne : ¬ (L = Li ∧ i = n)) (hx : HX (ltX X Li n q e)) : LA (ltX X Li n q e) L i := by
  obtain ⟨hX, hE, ⟨g1, g2, g3, g4, g5⟩, ⟨g6, g7⟩, g8⟩ := h
  have hm : ∀ k i, lv X k i → lv (ltX X Li n q e) k i := fun k i z => (lv_lst hX hq).mpr (Or.inl z)
  have hlow : ∀ k i, k ≠ Li → lv (ltX X Li n q e) k i → lv X k i := fun k i g z => ((lv_lst hX hq).mp z).elim id (fun y => absurd y.1 g)
  refine ⟨hx, fun L' i' a1 a2 a3 m hm9 => ?_, ⟨g1, hm _ _ g2, ?_⟩, ?_, fun z => ?_⟩
  · have h9 := hlow _ _ (by omega) a3
    have n1 : ¬ (L' - 10 = Li ∧ i' = n) := fun y => hda.lv (by rw [← y.1, ← y.2, Nat.sub_add_cancel (by omega)]; exact h9)
    have hm8 : m < xSz (lsX X Li n 0 0 0) (L' - 10) i' := hm9
    rw [(ls_ne n1).1] at hm8
    exact hm _ _ (hE L' i' a1 a2 h9 m hm8)
  · show xSz (lsX X Li n 0 0 0) L i ≤ xCp (lsX X Li n 0 0 0) L i ∧ xCp (lsX X Li n 0 0 0) L i < 2 ^ 30 ∧ (xCp (lsX X Li n 0 0 0) L i ≠ 0 → _)
    rw [(ls_ne hne).1, (ls_ne hne).2]
    exact ⟨g3, g4, fun z => hm _ _ (g5 z)⟩
  · show GC (xCp (lsX X Li n 0 0 0) L i) ∧ xSz (lsX X Li n 0 0 0) L i < 73
    rw [(ls_ne hne).1, (ls_ne hne).2]
    exact ⟨g6, g7⟩
  · have z' : xCp (lsX X Li n 0 0 0) L i = 0 := z
    rw [(ls_ne hne).2] at z'
    exact dead.of hx fun y => (g8 z').lv (hlow _ _ (by omega) y)
theorem LVX_24 {X X1 X2 : CX} {n : Nat} (h : LVX X) (hn : n = xSz X 24 0) (hlt : n < 40) (e1 : xSz X1 = fun L i => if L = 29 ∧ i = n then 0 else xSz X L i) (e2 : xCp X1 = fun L i => if L = 29 ∧ i = n then 0 else xCp X L i) (hl1 : ∀ k i, lv X1 k i ↔ lv X k i ∨ (k = 8 ∧ i = n) ∨ (k = 29 ∧ i = n)) (hA : AD X1 X2 24 0) : LVX X2 := by
  obtain ⟨h1, h2, h3, h4, h5⟩ := h
  obtain ⟨a1, -, a3, a4, a5, ⟨a6, a6'⟩, a7, -⟩ := hA
  have hne : ∀ L j, ¬ (L = 24 ∧ j = 0) ∧ ¬ (L = 29 ∧ j = n) → xSz X2 L j = xSz X L j := fun L j z => by rw [a4, e1]; exact (if_neg z.1).trans (if_neg z.2)
  have hnc : ∀ L j, ¬ (L = 24 ∧ j = 0) ∧ ¬ (L = 29 ∧ j = n) → xCp X2 L j = xCp X L j := fun L j z => by rw [a5 L j z.1, e2]; exact if_neg z.2
  have h124 : xSz X1 24 0 = xSz X 24 0 := by rw [e1]; exact if_neg (by omega)
  have hsz : xSz X2 24 0 = n + 1 := by rw [a4]; refine (if_pos ⟨rfl, rfl⟩).trans ?_; rw [h124, hn]
  have h29 : xSz X2 29 n = 0 := by rw [a4]; refine (if_neg (by omega)).trans ?_; rw [e1]; exact if_pos ⟨rfl, rfl⟩
  have hc29 : xCp X2 29 n = 0 := by rw [a5 29 n (by omega), e2]; exact if_pos ⟨rfl, rfl⟩
  rw [h124] at a6
  have hc0 : xCp X2 24 0 ≠ 0 := by omega
  have hlv : ∀ k i, lv X2 k i ↔ (lvb X k i ∨ (k = 8 ∧ i = n) ∨ (k = 29 ∧ i = n)) ∨ (k = 34 ∧ i = 0) := fun k i => by rw [a7, hl1, h1]
  refine ⟨fun k i => ?_, fun L i g1 g2 g3 => ?_, ?_, fun i hi => ?_, fun i hi => ?_⟩
  · rw [hlv]
    unfold lvb
    rw [← hn]
    split
    · omega
    · rw [hne 27 0 (by omega)]; omega
    · rw [hne 25 0 (by omega)]; omega
    · rw [hsz]
      by_cases z : i / 4 = n
      · rw [z, h29]; omega
      · rw [hne 29 _ (by omega)]; omega
    · omega
    · rw [hne 20 0 (by omega)]; omega
    · omega
    · rw [hsz]; omega
    · omega
    · rw [hne 26 0 (by omega)]; omega
    · omega
    · omega
    · omega
    · omega
    · omega
    · omega
    · omega
    · omega
    · omega
    · omega
    · rw [hsz]; omega
    · rw [hnc 20 i (by omega)]; omega
    · rw [hnc 21 i (by omega)]; omega
    · rw [hnc 22 i (by omega)]; omega
    · rw [hnc 23 i (by omega)]; omega
    · constructor
      · rintro ((z | z) | z)
        · refine ⟨z.1, ?_⟩; rw [z.1]; exact hc0
        · omega
        · exact ⟨z.2, by rw [z.2]; exact hc0⟩
      · exact fun z => Or.inr ⟨rfl, z.1⟩
    · rw [hnc 25 i (by omega)]; omega
    · rw [hnc 26 i (by omega)]; omega
    · rw [hnc 27 i (by omega)]; omega
    · rw [hnc 28 i (by omega)]; omega
    · rw [hsz]
      by_cases z : i = n
      · rw [z, hc29]; omega
      · rw [hnc 29 i (by omega)]; omega
    · omega
    · omega
    · rename_i z1 z2 z3 z4 z5 z6 z7 z8 z9 z10 z11 z12 z13 z14 z15 z16 z17 z18 z19 z20 z21 z22 z23 z24 z25 z26 z27 z28 z29 z30 z31 z32 z33
      constructor
      · rintro ((z | z | z) | z)
        · exact z
        · exact z8 z.1
        · exact z21 z.1
        · exact z26 z.1
      · exact fun z => z.elim
  · by_cases z : L = 24 ∧ i = 0
    · rw [z.1, z.2]; exact a6'
    · by_cases y : L = 29 ∧ i = n
      · rw [y.1, y.2, hc29]; exact Or.inl rfl
      · rw [hnc L i ⟨z, y⟩]
        refine h2 L i g1 g2 ((h1 L i).mpr ?_)
        rcases (hlv L i).mp g3 with (q | q | q) | q
        · exact q
        · omega
        · exact absurd q y
        · omega
  · rw [hsz, hne 20 0 (by omega), hne 21 0 (by omega), hne 22 0 (by omega), hne 23 0 (by omega), hne 25 0 (by omega), hne 26 0 (by omega), hne 27 0 (by omega)]; omega
  · rw [hne 28 i (by omega)]; exact h4 i hi
  · rw [hsz] at hi
    by_cases y : i = n
    · rw [y, h29]; omega
    · rw [hne 29 i (by omega)]; exact h5 i (by omega)
theorem LA.nw {X : CX} {L i q : Nat} {e : va_E} (h : LA X L i) : LA (nwX X q e) L i := ⟨h.1.nw, h.2⟩
theorem ct29 : ∀ kd, kd < 20 → ∀ j, j < 18 → j < nF kd → 8 ≤ (ct (32 * kd + j)).1 → (ct (32 * kd + j)).2 = 29 → kd = 8 := by decide +kernel
def y_request (X : CX) (p1 p2 : Int32) : CX := fiX (fiX (lsX X 29 (xSz X 24 0) 0 0 0) 256 (xSz X 24 0) p1) 257 (xSz X 24 0) p2
def s_request (X : CX) (S : CT) : CT := (sj (si (si (si (sj (si (si S 259 (nI (xSz X 24 0)) 0) 260 (nI (xSz X 24 0)) (-1)) 261 (nI (xSz X 24 0)) 0) 262 (nI (xSz X 24 0)) (-1)) 263 (nI (xSz X 24 0)) (-1)) 264 (nI (xSz X 24 0)) (-1)) 265 (nI (xSz X 24 0)) 0)
set_option maxRecDepth 100000 in
theorem al_request {k : KC} {X : CX} {S : CT} (hX : XOK X) (hL : LVX X) (hT : TS X S) {p1 p2 : Int32} (hp1 : lI X 6 p1) (hp2 : lI X 1 p2) (hlt : xSz X 24 0 < 40) {b q : Nat} (hb : b ∉ (cW k X S).1) (hq : q ∉ (cW k X S).1 ++ [b]) : ∃ X1, (((cW k X S).1 ++ [b]) ++ [q], va_up (va_up (cW k X S).2 q (.inr (0, [.int 0, .ref k.2.2.2.2.2.1, .int 0]))) b (.inr (8, [vr X 6 p1, vr X 1 p2, .ref q, .int 0, .int (-1), .long 0, .null, .null, .null, .long 0]))) = cW k X1 (s_request X S) ∧ XOK X1 ∧ TS X1 (s_request X S) ∧ LA X1 24 0 ∧ (∀ X2, AD X1 X2 24 0 → NX (y_request X p1 p2) X2 24 0) ∧ (∀ t x, t < 20 → t ≠ 8 → vr X1 t x = vr X t x) ∧ Value.ref b = vr X1 8 (nI (xSz X 24 0)) ∧ lI X1 8 (nI (xSz X 24 0)) ∧ (∀ L i, 20 ≤ L → L ≠ 29 → xAd X1 L i = xAd X L i) ∧ xSz X1 24 0 = xSz X 24 0 := by
  have hb0 := hL.2.2.1
  have hn31 : (xSz X 24 0) < 2 ^ 31 := by omega
  have hqb : q ≠ b := fun z => hq (by rw [z]; exact List.mem_append_right _ List.mem_cons_self)
  have hq1 : q ∉ xAs X := fun z => hq (List.mem_append_left _ z)
  have hEA := EA_of hX hL
  have hRO := RO_of hX hL hT
  have hl8 : ∀ i, lv X 8 i → i < (xSz X 24 0) := fun i z => (hL.1 8 i).mp z
  have hl29 : ∀ i, lv X 29 i → i < (xSz X 24 0) := fun i z => (hL.1 29 i).mp z
  have hl39 : ∀ i, lv X 39 i → i < (xSz X 24 0) := fun i z => ((hL.1 39 i).mp z).1
  have hd8 : dead X 8 (xSz X 24 0) := dead.of hX.1 fun z => absurd (hl8 _ z) (Nat.lt_irrefl _)
  have hd29 : dead X 29 (xSz X 24 0) := dead.of hX.1 fun z => absurd (hl29 _ z) (Nat.lt_irrefl _)
  have hd39 : dead X 39 (xSz X 24 0) := dead.of hX.1 fun z => absurd (hl39 _ z) (Nat.lt_irrefl _)
  have e2 := cW_nw (k := k) (S := S) (e := (.inr (8, [vr X 6 p1, vr X 1 p2, .ref q, .int 0, .int (-1), .long 0, .null, .null, .null, .long 0]))) hX.1 hb
  obtain ⟨e3, hxL⟩ := cW_lst (k := k) (S := S) (X := nwX X b (.inr (8, [vr X 6 p1, vr X 1 p2, .ref q, .int 0, .int (-1), .long 0, .null, .null, .null, .long 0]))) (Li := 29) (n := (xSz X 24 0)) (q := q) hX.nw.1 hEA hq ⟨by decide, by decide⟩ hd29 hd39 (fun kd i j g1 g2 g3 g4 g5 => by
    have h9 := nF_le kd
    have h8 := ct29 kd g2 j (by omega) g3 g4 g5
    subst h8
    exact Nat.ne_of_lt (hl8 i g1)) (e := (.inr (0, [.int 0, .ref k.2.2.2.2.2.1, .int 0]))) rfl
  have hKL := XOK_lst (X := nwX X b (.inr (8, [vr X 6 p1, vr X 1 p2, .ref q, .int 0, .int (-1), .long 0, .null, .null, .null, .long 0]))) (e := (.inr (0, [.int 0, .ref k.2.2.2.2.2.1, .int 0]))) hX.nw (q := q) hq ⟨by decide, by decide⟩ hd29 hd39 hxL
  have hlv : ∀ k' i, lv (ltX (nwX X b (.inr (8, [vr X 6 p1, vr X 1 p2, .ref q, .int 0, .int (-1), .long 0, .null, .null, .null, .long 0]))) 29 (xSz X 24 0) q (.inr (0, [.int 0, .ref k.2.2.2.2.2.1, .int 0]))) k' i ↔ lv X k' i ∨ (k' = 29 ∧ i = (xSz X 24 0)) := fun k' i => lv_lst (X := nwX X b (.inr (8, [vr X 6 p1, vr X 1 p2, .ref q, .int 0, .int (-1), .long 0, .null, .null, .null, .long 0]))) hX.nw.1 hq
  have hm : ∀ k' i, lv X k' i → lv (ltX (nwX X b (.inr (8, [vr X 6 p1, vr X 1 p2, .ref q, .int 0, .int (-1), .long 0, .null, .null, .null, .long 0]))) 29 (xSz X 24 0) q (.inr (0, [.int 0, .ref k.2.2.2.2.2.1, .int 0]))) k' i := fun k' i z => (hlv k' i).mpr (Or.inl z)
  have hlow : ∀ k' i, k' ≠ 29 → lv (ltX (nwX X b (.inr (8, [vr X 6 p1, vr X 1 p2, .ref q, .int 0, .int (-1), .long 0, .null, .null, .null, .long 0]))) 29 (xSz X 24 0) q (.inr (0, [.int 0, .ref k.2.2.2.2.2.1, .int 0]))) k' i → lv X k' i := fun k' i g z => ((hlv k' i).mp z).elim id (fun y => absurd y.1 g)
  have hI : ∀ k' x, k' < 20 → lI (ltX (nwX X b (.inr (8, [vr X 6 p1, vr X 1 p2, .ref q, .int 0, .int (-1), .long 0, .null, .null, .null, .long 0]))) 29 (xSz X 24 0) q (.inr (0, [.int 0, .ref k.2.2.2.2.2.1, .int 0]))) k' x → lI X k' x := fun k' x g ⟨m, hm9, e9, z⟩ => ⟨m, hm9, e9, hlow k' m (by omega) z⟩
  have hTL : TS (ltX (nwX X b (.inr (8, [vr X 6 p1, vr X 1 p2, .ref q, .int 0, .int (-1), .long 0, .null, .null, .null, .long 0]))) 29 (xSz X 24 0) q (.inr (0, [.int 0, .ref k.2.2.2.2.2.1, .int 0]))) S := TS_of hT hm rfl (fun x hx => Or.inl ⟨hI 6 x (by omega) hx, rfl⟩) (fun x hx => ⟨hI 9 x (by omega) hx, rfl⟩) (fun x hx => Or.inl ⟨hI 8 x (by omega) hx, rfl, rfl, rfl⟩)
  have hROL : RO (ltX (nwX X b (.inr (8, [vr X 6 p1, vr X 1 p2, .ref q, .int 0, .int (-1), .long 0, .null, .null, .null, .long 0]))) 29 (xSz X 24 0) q (.inr (0, [.int 0, .ref k.2.2.2.2.2.1, .int 0]))) S := fun kd i j g1 g2 g3 => ⟨fun h3 => oI_mono hm ((hRO kd i j (hlow kd i (by omega) g1) g2 g3).1 h3), fun h7 => oI_mono hm ((hRO kd i j (hlow kd i (by omega) g1) g2 g3).2 h7)⟩
  have hLAL := LA_lst (X := nwX X b (.inr (8, [vr X 6 p1, vr X 1 p2, .ref q, .int 0, .int (-1), .long 0, .null, .null, .null, .long 0]))) (L := 24) (i := 0) (e := (.inr (0, [.int 0, .ref k.2.2.2.2.2.1, .int 0]))) (LA.nw (LA_of hX hL (by decide) (by decide) ((hL.1 24 0).mpr rfl) (by omega))) (q := q) hq (Li := 29) (n := (xSz X 24 0)) ⟨by decide, by decide⟩ hd39 (by omega) hxL
  have hv2 : ∀ t x, t ≠ 29 → vr (ltX (nwX X b (.inr (8, [vr X 6 p1, vr X 1 p2, .ref q, .int 0, .int (-1), .long 0, .null, .null, .null, .long 0]))) 29 (xSz X 24 0) q (.inr (0, [.int 0, .ref k.2.2.2.2.2.1, .int 0]))) t x = vr X t x := fun t x h => vr_an (X := nwX (lsX (nwX X b (.inr (8, [vr X 6 p1, vr X 1 p2, .ref q, .int 0, .int (-1), .long 0, .null, .null, .null, .long 0]))) 29 (xSz X 24 0) 0 0 0) q (.inr (0, [.int 0, .ref k.2.2.2.2.2.1, .int 0]))) h
  have hvY : ∀ t x, t ≠ 29 → vr (fiX (fiX (ltX (nwX X b (.inr (8, [vr X 6 p1, vr X 1 p2, .ref q, .int 0, .int (-1), .long 0, .null, .null, .null, .long 0]))) 29 (xSz X 24 0) q (.inr (0, [.int 0, .ref k.2.2.2.2.2.1, .int 0]))) 256 (xSz X 24 0) p1) 257 (xSz X 24 0) p2) t x = vr X t x := fun t x h => hv2 t x h
  have hY29 : xAd (fiX (fiX (ltX (nwX X b (.inr (8, [vr X 6 p1, vr X 1 p2, .ref q, .int 0, .int (-1), .long 0, .null, .null, .null, .long 0]))) 29 (xSz X 24 0) q (.inr (0, [.int 0, .ref k.2.2.2.2.2.1, .int 0]))) 256 (xSz X 24 0) p1) 257 (xSz X 24 0) p2) 29 (xSz X 24 0) = q := if_pos ⟨rfl, rfl⟩
  have hta : xTg (ltX (nwX X b (.inr (8, [vr X 6 p1, vr X 1 p2, .ref q, .int 0, .int (-1), .long 0, .null, .null, .null, .long 0]))) 29 (xSz X 24 0) q (.inr (0, [.int 0, .ref k.2.2.2.2.2.1, .int 0]))) b = none := (va_up_ne _ _ hqb.symm).trans (hX.1.tg hb)
  have hdL : dead (ltX (nwX X b (.inr (8, [vr X 6 p1, vr X 1 p2, .ref q, .int 0, .int (-1), .long 0, .null, .null, .null, .long 0]))) 29 (xSz X 24 0) q (.inr (0, [.int 0, .ref k.2.2.2.2.2.1, .int 0]))) 8 (xSz X 24 0) := dead.of hxL fun z => hd8.lv (hlow 8 _ (by decide) z)
  have hD : DE (ltX (nwX X b (.inr (8, [vr X 6 p1, vr X 1 p2, .ref q, .int 0, .int (-1), .long 0, .null, .null, .null, .long 0]))) 29 (xSz X 24 0) q (.inr (0, [.int 0, .ref k.2.2.2.2.2.1, .int 0]))) S (fiX (fiX (ltX (nwX X b (.inr (8, [vr X 6 p1, vr X 1 p2, .ref q, .int 0, .int (-1), .long 0, .null, .null, .null, .long 0]))) 29 (xSz X 24 0) q (.inr (0, [.int 0, .ref k.2.2.2.2.2.1, .int 0]))) 256 (xSz X 24 0) p1) 257 (xSz X 24 0) p2) (sj (si (si (si (sj (si (si S 259 (nI (xSz X 24 0)) 0) 260 (nI (xSz X 24 0)) (-1)) 261 (nI (xSz X 24 0)) 0) 262 (nI (xSz X 24 0)) (-1)) 263 (nI (xSz X 24 0)) (-1)) 264 (nI (xSz X 24 0)) (-1)) 265 (nI (xSz X 24 0)) 0) 8 (xSz X 24 0) := (DE.sj (DE.si (DE.si (DE.si (DE.sj (DE.si (DE.si (DE.fi (DE.fi DE.refl (by decide)) (by decide)) (by decide) hn31) (by decide) hn31) (by decide) hn31) (by decide) hn31) (by decide) hn31) (by decide) hn31) (by decide) hn31)
  obtain ⟨e4, hx1⟩ := cW_adp (k := k) hxL hROL hLAL.2.1 (by decide) (List.mem_append_left _ (List.mem_append_right _ List.mem_cons_self)) hta hdL hD (by
    show va_up (va_up (xGb X) b (.inr (8, [vr X 6 p1, vr X 1 p2, .ref q, .int 0, .int (-1), .long 0, .null, .null, .null, .long 0]))) q (.inr (0, [.int 0, .ref k.2.2.2.2.2.1, .int 0])) b = Sum.inr (8, [cR (adX (fiX (fiX (ltX (nwX X b (.inr (8, [vr X 6 p1, vr X 1 p2, .ref q, .int 0, .int (-1), .long 0, .null, .null, .null, .long 0]))) 29 (xSz X 24 0) q (.inr (0, [.int 0, .ref k.2.2.2.2.2.1, .int 0]))) 256 (xSz X 24 0) p1) 257 (xSz X 24 0) p2) 8 (xSz X 24 0) b) (sj (si (si (si (sj (si (si S 259 (nI (xSz X 24 0)) 0) 260 (nI (xSz X 24 0)) (-1)) 261 (nI (xSz X 24 0)) 0) 262 (nI (xSz X 24 0)) (-1)) 263 (nI (xSz X 24 0)) (-1)) 264 (nI (xSz X 24 0)) (-1)) 265 (nI (xSz X 24 0)) 0) 256 (xSz X 24 0), cR (adX (fiX (fiX (ltX (nwX X b (.inr (8, [vr X 6 p1, vr X 1 p2, .ref q, .int 0, .int (-1), .long 0, .null, .null, .null, .long 0]))) 29 (xSz X 24 0) q (.inr (0, [.int 0, .ref k.2.2.2.2.2.1, .int 0]))) 256 (xSz X 24 0) p1) 257 (xSz X 24 0) p2) 8 (xSz X 24 0) b) (sj (si (si (si (sj (si (si S 259 (nI (xSz X 24 0)) 0) 260 (nI (xSz X 24 0)) (-1)) 261 (nI (xSz X 24 0)) 0) 262 (nI (xSz X 24 0)) (-1)) 263 (nI (xSz X 24 0)) (-1)) 264 (nI (xSz X 24 0)) (-1)) 265 (nI (xSz X 24 0)) 0) 257 (xSz X 24 0), cR (adX (fiX (fiX (ltX (nwX X b (.inr (8, [vr X 6 p1, vr X 1 p2, .ref q, .int 0, .int (-1), .long 0, .null, .null, .null, .long 0]))) 29 (xSz X 24 0) q (.inr (0, [.int 0, .ref k.2.2.2.2.2.1, .int 0]))) 256 (xSz X 24 0) p1) 257 (xSz X 24 0) p2) 8 (xSz X 24 0) b) (sj (si (si (si (sj (si (si S 259 (nI (xSz X 24 0)) 0) 260 (nI (xSz X 24 0)) (-1)) 261 (nI (xSz X 24 0)) 0) 262 (nI (xSz X 24 0)) (-1)) 263 (nI (xSz X 24 0)) (-1)) 264 (nI (xSz X 24 0)) (-1)) 265 (nI (xSz X 24 0)) 0) 258 (xSz X 24 0), cR (adX (fiX (fiX (ltX (nwX X b (.inr (8, [vr X 6 p1, vr X 1 p2, .ref q, .int 0, .int (-1), .long 0, .null, .null, .null, .long 0]))) 29 (xSz X 24 0) q (.inr (0, [.int 0, .ref k.2.2.2.2.2.1, .int 0]))) 256 (xSz X 24 0) p1) 257 (xSz X 24 0) p2) 8 (xSz X 24 0) b) (sj (si (si (si (sj (si (si S 259 (nI (xSz X 24 0)) 0) 260 (nI (xSz X 24 0)) (-1)) 261 (nI (xSz X 24 0)) 0) 262 (nI (xSz X 24 0)) (-1)) 263 (nI (xSz X 24 0)) (-1)) 264 (nI (xSz X 24 0)) (-1)) 265 (nI (xSz X 24 0)) 0) 259 (xSz X 24 0), cR (adX (fiX (fiX (ltX (nwX X b (.inr (8, [vr X 6 p1, vr X 1 p2, .ref q, .int 0, .int (-1), .long 0, .null, .null, .null, .long 0]))) 29 (xSz X 24 0) q (.inr (0, [.int 0, .ref k.2.2.2.2.2.1, .int 0]))) 256 (xSz X 24 0) p1) 257 (xSz X 24 0) p2) 8 (xSz X 24 0) b) (sj (si (si (si (sj (si (si S 259 (nI (xSz X 24 0)) 0) 260 (nI (xSz X 24 0)) (-1)) 261 (nI (xSz X 24 0)) 0) 262 (nI (xSz X 24 0)) (-1)) 263 (nI (xSz X 24 0)) (-1)) 264 (nI (xSz X 24 0)) (-1)) 265 (nI (xSz X 24 0)) 0) 260 (xSz X 24 0), cR (adX (fiX (fiX (ltX (nwX X b (.inr (8, [vr X 6 p1, vr X 1 p2, .ref q, .int 0, .int (-1), .long 0, .null, .null, .null, .long 0]))) 29 (xSz X 24 0) q (.inr (0, [.int 0, .ref k.2.2.2.2.2.1, .int 0]))) 256 (xSz X 24 0) p1) 257 (xSz X 24 0) p2) 8 (xSz X 24 0) b) (sj (si (si (si (sj (si (si S 259 (nI (xSz X 24 0)) 0) 260 (nI (xSz X 24 0)) (-1)) 261 (nI (xSz X 24 0)) 0) 262 (nI (xSz X 24 0)) (-1)) 263 (nI (xSz X 24 0)) (-1)) 264 (nI (xSz X 24 0)) (-1)) 265 (nI (xSz X 24 0)) 0) 261 (xSz X 24 0), cR (adX (fiX (fiX (ltX (nwX X b (.inr (8, [vr X 6 p1, vr X 1 p2, .ref q, .int 0, .int (-1), .long 0, .null, .null, .null, .long 0]))) 29 (xSz X 24 0) q (.inr (0, [.int 0, .ref k.2.2.2.2.2.1, .int 0]))) 256 (xSz X 24 0) p1) 257 (xSz X 24 0) p2) 8 (xSz X 24 0) b) (sj (si (si (si (sj (si (si S 259 (nI (xSz X 24 0)) 0) 260 (nI (xSz X 24 0)) (-1)) 261 (nI (xSz X 24 0)) 0) 262 (nI (xSz X 24 0)) (-1)) 263 (nI (xSz X 24 0)) (-1)) 264 (nI (xSz X 24 0)) (-1)) 265 (nI (xSz X 24 0)) 0) 262 (xSz X 24 0), cR (adX (fiX (fiX (ltX (nwX X b (.inr (8, [vr X 6 p1, vr X 1 p2, .ref q, .int 0, .int (-1), .long 0, .null, .null, .null, .long 0]))) 29 (xSz X 24 0) q (.inr (0, [.int 0, .ref k.2.2.2.2.2.1, .int 0]))) 256 (xSz X 24 0) p1) 257 (xSz X 24 0) p2) 8 (xSz X 24 0) b) (sj (si (si (si (sj (si (si S 259 (nI (xSz X 24 0)) 0) 260 (nI (xSz X 24 0)) (-1)) 261 (nI (xSz X 24 0)) 0) 262 (nI (xSz X 24 0)) (-1)) 263 (nI (xSz X 24 0)) (-1)) 264 (nI (xSz X 24 0)) (-1)) 265 (nI (xSz X 24 0)) 0) 263 (xSz X 24 0), cR (adX (fiX (fiX (ltX (nwX X b (.inr (8, [vr X 6 p1, vr X 1 p2, .ref q, .int 0, .int (-1), .long 0, .null, .null, .null, .long 0]))) 29 (xSz X 24 0) q (.inr (0, [.int 0, .ref k.2.2.2.2.2.1, .int 0]))) 256 (xSz X 24 0) p1) 257 (xSz X 24 0) p2) 8 (xSz X 24 0) b) (sj (si (si (si (sj (si (si S 259 (nI (xSz X 24 0)) 0) 260 (nI (xSz X 24 0)) (-1)) 261 (nI (xSz X 24 0)) 0) 262 (nI (xSz X 24 0)) (-1)) 263 (nI (xSz X 24 0)) (-1)) 264 (nI (xSz X 24 0)) (-1)) 265 (nI (xSz X 24 0)) 0) 264 (xSz X 24 0), cR (adX (fiX (fiX (ltX (nwX X b (.inr (8, [vr X 6 p1, vr X 1 p2, .ref q, .int 0, .int (-1), .long 0, .null, .null, .null, .long 0]))) 29 (xSz X 24 0) q (.inr (0, [.int 0, .ref k.2.2.2.2.2.1, .int 0]))) 256 (xSz X 24 0) p1) 257 (xSz X 24 0) p2) 8 (xSz X 24 0) b) (sj (si (si (si (sj (si (si S 259 (nI (xSz X 24 0)) 0) 260 (nI (xSz X 24 0)) (-1)) 261 (nI (xSz X 24 0)) 0) 262 (nI (xSz X 24 0)) (-1)) 263 (nI (xSz X 24 0)) (-1)) 264 (nI (xSz X 24 0)) (-1)) 265 (nI (xSz X 24 0)) 0) 265 (xSz X 24 0)])
    rw [va_up_ne _ _ hqb.symm, va_up_self]
    rw [show cR (adX (fiX (fiX (ltX (nwX X b (.inr (8, [vr X 6 p1, vr X 1 p2, .ref q, .int 0, .int (-1), .long 0, .null, .null, .null, .long 0]))) 29 (xSz X 24 0) q (.inr (0, [.int 0, .ref k.2.2.2.2.2.1, .int 0]))) 256 (xSz X 24 0) p1) 257 (xSz X 24 0) p2) 8 (xSz X 24 0) b) (sj (si (si (si (sj (si (si S 259 (nI (xSz X 24 0)) 0) 260 (nI (xSz X 24 0)) (-1)) 261 (nI (xSz X 24 0)) 0) 262 (nI (xSz X 24 0)) (-1)) 263 (nI (xSz X 24 0)) (-1)) 264 (nI (xSz X 24 0)) (-1)) 265 (nI (xSz X 24 0)) 0) 256 (xSz X 24 0) = vr X 6 p1 from ((congrArg (vr _ 6) ((fi_sn rfl).trans fi_ss)).trans ((vr_an (by decide)).trans (hvY _ _ (by decide)))), show cR (adX (fiX (fiX (ltX (nwX X b (.inr (8, [vr X 6 p1, vr X 1 p2, .ref q, .int 0, .int (-1), .long 0, .null, .null, .null, .long 0]))) 29 (xSz X 24 0) q (.inr (0, [.int 0, .ref k.2.2.2.2.2.1, .int 0]))) 256 (xSz X 24 0) p1) 257 (xSz X 24 0) p2) 8 (xSz X 24 0) b) (sj (si (si (si (sj (si (si S 259 (nI (xSz X 24 0)) 0) 260 (nI (xSz X 24 0)) (-1)) 261 (nI (xSz X 24 0)) 0) 262 (nI (xSz X 24 0)) (-1)) 263 (nI (xSz X 24 0)) (-1)) 264 (nI (xSz X 24 0)) (-1)) 265 (nI (xSz X 24 0)) 0) 257 (xSz X 24 0) = vr X 1 p2 from ((congrArg (vr _ 1) fi_ss).trans ((vr_an (by decide)).trans (hvY _ _ (by decide)))), show cR (adX (fiX (fiX (ltX (nwX X b (.inr (8, [vr X 6 p1, vr X 1 p2, .ref q, .int 0, .int (-1), .long 0, .null, .null, .null, .long 0]))) 29 (xSz X 24 0) q (.inr (0, [.int 0, .ref k.2.2.2.2.2.1, .int 0]))) 256 (xSz X 24 0) p1) 257 (xSz X 24 0) p2) 8 (xSz X 24 0) b) (sj (si (si (si (sj (si (si S 259 (nI (xSz X 24 0)) 0) 260 (nI (xSz X 24 0)) (-1)) 261 (nI (xSz X 24 0)) 0) 262 (nI (xSz X 24 0)) (-1)) 263 (nI (xSz X 24 0)) (-1)) 264 (nI (xSz X 24 0)) (-1)) 265 (nI (xSz X 24 0)) 0) 258 (xSz X 24 0) = .ref q from (congrArg Value.ref ((ad_ne (fun z => absurd z.1 (by decide))).trans hY29)), show cR (adX (fiX (fiX (ltX (nwX X b (.inr (8, [vr X 6 p1, vr X 1 p2, .ref q, .int 0, .int (-1), .long 0, .null, .null, .null, .long 0]))) 29 (xSz X 24 0) q (.inr (0, [.int 0, .ref k.2.2.2.2.2.1, .int 0]))) 256 (xSz X 24 0) p1) 257 (xSz X 24 0) p2) 8 (xSz X 24 0) b) (sj (si (si (si (sj (si (si S 259 (nI (xSz X 24 0)) 0) 260 (nI (xSz X 24 0)) (-1)) 261 (nI (xSz X 24 0)) 0) 262 (nI (xSz X 24 0)) (-1)) 263 (nI (xSz X 24 0)) (-1)) 264 (nI (xSz X 24 0)) (-1)) 265 (nI (xSz X 24 0)) 0) 259 (xSz X 24 0) = .int 0 from (congrArg Value.int (sj_i.trans ((si_an rfl).trans ((si_an rfl).trans ((si_an rfl).trans (sj_i.trans ((si_an rfl).trans (si_at hn31)))))))), show cR (adX (fiX (fiX (ltX (nwX X b (.inr (8, [vr X 6 p1, vr X 1 p2, .ref q, .int 0, .int (-1), .long 0, .null, .null, .null, .long 0]))) 29 (xSz X 24 0) q (.inr (0, [.int 0, .ref k.2.2.2.2.2.1, .int 0]))) 256 (xSz X 24 0) p1) 257 (xSz X 24 0) p2) 8 (xSz X 24 0) b) (sj (si (si (si (sj (si (si S 259 (nI (xSz X 24 0)) 0) 260 (nI (xSz X 24 0)) (-1)) 261 (nI (xSz X 24 0)) 0) 262 (nI (xSz X 24 0)) (-1)) 263 (nI (xSz X 24 0)) (-1)) 264 (nI (xSz X 24 0)) (-1)) 265 (nI (xSz X 24 0)) 0) 260 (xSz X 24 0) = .int (-1) from (congrArg Value.int (sj_i.trans ((si_an rfl).trans ((si_an rfl).trans ((si_an rfl).trans (sj_i.trans (si_at hn31))))))), show cR (adX (fiX (fiX (ltX (nwX X b (.inr (8, [vr X 6 p1, vr X 1 p2, .ref q, .int 0, .int (-1), .long 0, .null, .null, .null, .long 0]))) 29 (xSz X 24 0) q (.inr (0, [.int 0, .ref k.2.2.2.2.2.1, .int 0]))) 256 (xSz X 24 0) p1) 257 (xSz X 24 0) p2) 8 (xSz X 24 0) b) (sj (si (si (si (sj (si (si S 259 (nI (xSz X 24 0)) 0) 260 (nI (xSz X 24 0)) (-1)) 261 (nI (xSz X 24 0)) 0) 262 (nI (xSz X 24 0)) (-1)) 263 (nI (xSz X 24 0)) (-1)) 264 (nI (xSz X 24 0)) (-1)) 265 (nI (xSz X 24 0)) 0) 261 (xSz X 24 0) = .long 0 from (congrArg Value.long ((sj_an rfl).trans (si_j.trans (si_j.trans (si_j.trans (sj_at hn31)))))), show cR (adX (fiX (fiX (ltX (nwX X b (.inr (8, [vr X 6 p1, vr X 1 p2, .ref q, .int 0, .int (-1), .long 0, .null, .null, .null, .long 0]))) 29 (xSz X 24 0) q (.inr (0, [.int 0, .ref k.2.2.2.2.2.1, .int 0]))) 256 (xSz X 24 0) p1) 257 (xSz X 24 0) p2) 8 (xSz X 24 0) b) (sj (si (si (si (sj (si (si S 259 (nI (xSz X 24 0)) 0) 260 (nI (xSz X 24 0)) (-1)) 261 (nI (xSz X 24 0)) 0) 262 (nI (xSz X 24 0)) (-1)) 263 (nI (xSz X 24 0)) (-1)) 264 (nI (xSz X 24 0)) (-1)) 265 (nI (xSz X 24 0)) 0) 262 (xSz X 24 0) = .null from ((congrArg (vr _ 6) (sj_i.trans ((si_an rfl).trans ((si_an rfl).trans (si_at hn31))))).trans (if_pos rfl)), show cR (adX (fiX (fiX (ltX (nwX X b (.inr (8, [vr X 6 p1, vr X 1 p2, .ref q, .int 0, .int (-1), .long 0, .null, .null, .null, .long 0]))) 29 (xSz X 24 0) q (.inr (0, [.int 0, .ref k.2.2.2.2.2.1, .int 0]))) 256 (xSz X 24 0) p1) 257 (xSz X 24 0) p2) 8 (xSz X 24 0) b) (sj (si (si (si (sj (si (si S 259 (nI (xSz X 24 0)) 0) 260 (nI (xSz X 24 0)) (-1)) 261 (nI (xSz X 24 0)) 0) 262 (nI (xSz X 24 0)) (-1)) 263 (nI (xSz X 24 0)) (-1)) 264 (nI (xSz X 24 0)) (-1)) 265 (nI (xSz X 24 0)) 0) 263 (xSz X 24 0) = .null from ((congrArg (vr _ 6) (sj_i.trans ((si_an rfl).trans (si_at hn31)))).trans (if_pos rfl)), show cR (adX (fiX (fiX (ltX (nwX X b (.inr (8, [vr X 6 p1, vr X 1 p2, .ref q, .int 0, .int (-1), .long 0, .null, .null, .null, .long 0]))) 29 (xSz X 24 0) q (.inr (0, [.int 0, .ref k.2.2.2.2.2.1, .int 0]))) 256 (xSz X 24 0) p1) 257 (xSz X 24 0) p2) 8 (xSz X 24 0) b) (sj (si (si (si (sj (si (si S 259 (nI (xSz X 24 0)) 0) 260 (nI (xSz X 24 0)) (-1)) 261 (nI (xSz X 24 0)) 0) 262 (nI (xSz X 24 0)) (-1)) 263 (nI (xSz X 24 0)) (-1)) 264 (nI (xSz X 24 0)) (-1)) 265 (nI (xSz X 24 0)) 0) 264 (xSz X 24 0) = .null from ((congrArg (vr _ 9) (sj_i.trans (si_at hn31))).trans (if_pos rfl)), show cR (adX (fiX (fiX (ltX (nwX X b (.inr (8, [vr X 6 p1, vr X 1 p2, .ref q, .int 0, .int (-1), .long 0, .null, .null, .null, .long 0]))) 29 (xSz X 24 0) q (.inr (0, [.int 0, .ref k.2.2.2.2.2.1, .int 0]))) 256 (xSz X 24 0) p1) 257 (xSz X 24 0) p2) 8 (xSz X 24 0) b) (sj (si (si (si (sj (si (si S 259 (nI (xSz X 24 0)) 0) 260 (nI (xSz X 24 0)) (-1)) 261 (nI (xSz X 24 0)) 0) 262 (nI (xSz X 24 0)) (-1)) 263 (nI (xSz X 24 0)) (-1)) 264 (nI (xSz X 24 0)) (-1)) 265 (nI (xSz X 24 0)) 0) 265 (xSz X 24 0) = .long 0 from (congrArg Value.long (sj_at hn31))])
  have hK1 := XOK_oa hKL hta hdL hD ⟨by decide, by decide⟩ (by omega) hx1 (fun _ => ⟨⟨⟨by decide, by decide⟩, (hlv _ _).mpr (Or.inr ⟨rfl, rfl⟩), by
      show xSz (lsX _ 29 _ 0 0 0) 29 _ ≤ xCp (lsX _ 29 _ 0 0 0) 29 _ ∧ xCp (lsX _ 29 _ 0 0 0) 29 _ < 2 ^ 30 ∧ (xCp (lsX _ 29 _ 0 0 0) 29 _ ≠ 0 → _)
      rw [ls_sz, ls_cp]
      exact ⟨Nat.le_refl _, by decide, fun z => absurd rfl z⟩⟩, by
      rw [show xFi (fiX (fiX (ltX (nwX X b (.inr (8, [vr X 6 p1, vr X 1 p2, .ref q, .int 0, .int (-1), .long 0, .null, .null, .null, .long 0]))) 29 (xSz X 24 0) q (.inr (0, [.int 0, .ref k.2.2.2.2.2.1, .int 0]))) 256 (xSz X 24 0) p1) 257 (xSz X 24 0) p2) 256 (xSz X 24 0) = p1 from (fi_sn rfl).trans fi_ss]
      exact lI_mono hm hp1, by
      rw [show xFi (fiX (fiX (ltX (nwX X b (.inr (8, [vr X 6 p1, vr X 1 p2, .ref q, .int 0, .int (-1), .long 0, .null, .null, .null, .long 0]))) 29 (xSz X 24 0) q (.inr (0, [.int 0, .ref k.2.2.2.2.2.1, .int 0]))) 256 (xSz X 24 0) p1) 257 (xSz X 24 0) p2) 257 (xSz X 24 0) = p2 from fi_ss]
      exact lI_mono hm hp2⟩) (fun z => absurd z (by decide)) (fun z => absurd z (by decide)) (fun z => absurd z (by decide))
  have hT1 := TS_oa hTL hKL hta hdL hD (by decide) (by omega) (fun z => absurd z (by decide)) (fun _ => ⟨by
      rw [show (sj (si (si (si (sj (si (si S 259 (nI (xSz X 24 0)) 0) 260 (nI (xSz X 24 0)) (-1)) 261 (nI (xSz X 24 0)) 0) 262 (nI (xSz X 24 0)) (-1)) 263 (nI (xSz X 24 0)) (-1)) 264 (nI (xSz X 24 0)) (-1)) 265 (nI (xSz X 24 0)) 0).1 262 (xSz X 24 0) = -1 from (sj_i.trans ((si_an rfl).trans ((si_an rfl).trans (si_at hn31))))]; exact Or.inl rfl, by
      rw [show (sj (si (si (si (sj (si (si S 259 (nI (xSz X 24 0)) 0) 260 (nI (xSz X 24 0)) (-1)) 261 (nI (xSz X 24 0)) 0) 262 (nI (xSz X 24 0)) (-1)) 263 (nI (xSz X 24 0)) (-1)) 264 (nI (xSz X 24 0)) (-1)) 265 (nI (xSz X 24 0)) 0).1 263 (xSz X 24 0) = -1 from (sj_i.trans ((si_an rfl).trans (si_at hn31)))]; exact Or.inl rfl, by
      rw [show (sj (si (si (si (sj (si (si S 259 (nI (xSz X 24 0)) 0) 260 (nI (xSz X 24 0)) (-1)) 261 (nI (xSz X 24 0)) 0) 262 (nI (xSz X 24 0)) (-1)) 263 (nI (xSz X 24 0)) (-1)) 264 (nI (xSz X 24 0)) (-1)) 265 (nI (xSz X 24 0)) 0).1 264 (xSz X 24 0) = -1 from (sj_i.trans (si_at hn31))]; exact Or.inl rfl⟩)
  have hA1 := LA_oa hLAL hta hD (by decide) hx1
  have hme : lv (adX (fiX (fiX (ltX (nwX X b (.inr (8, [vr X 6 p1, vr X 1 p2, .ref q, .int 0, .int (-1), .long 0, .null, .null, .null, .long 0]))) 29 (xSz X 24 0) q (.inr (0, [.int 0, .ref k.2.2.2.2.2.1, .int 0]))) 256 (xSz X 24 0) p1) 257 (xSz X 24 0) p2) 8 (xSz X 24 0) b) 8 (xSz X 24 0) := oa_me hxL hta hD
  have hlI : lI (adX (fiX (fiX (ltX (nwX X b (.inr (8, [vr X 6 p1, vr X 1 p2, .ref q, .int 0, .int (-1), .long 0, .null, .null, .null, .long 0]))) 29 (xSz X 24 0) q (.inr (0, [.int 0, .ref k.2.2.2.2.2.1, .int 0]))) 256 (xSz X 24 0) p1) 257 (xSz X 24 0) p2) 8 (xSz X 24 0) b) 8 (nI (xSz X 24 0)) := ⟨_, by omega, rfl, hme⟩
  refine ⟨_, ?_, hK1, hT1, hA1, fun X2 hA2 => ⟨XOK.ad hK1 hA2 hA1.2.2.1 ⟨?_, ?_⟩, LVX_24 (n := (xSz X 24 0)) hL rfl hlt rfl rfl (fun k' i => ?_) hA2, hA2.2.1.1, hA2.2.1.2, hA2.2.2.2.1, (hA2.2.2.1 11 0 (by omega)).trans ((show xAd _ 11 0 = xAd (fiX (fiX (ltX (nwX X b (.inr (8, [vr X 6 p1, vr X 1 p2, .ref q, .int 0, .int (-1), .long 0, .null, .null, .null, .long 0]))) 29 (xSz X 24 0) q (.inr (0, [.int 0, .ref k.2.2.2.2.2.1, .int 0]))) 256 (xSz X 24 0) p1) 257 (xSz X 24 0) p2) 11 0 from ad_ne (fun z => by omega)).trans (show xAd (ltX (nwX X b (.inr (8, [vr X 6 p1, vr X 1 p2, .ref q, .int 0, .int (-1), .long 0, .null, .null, .null, .long 0]))) 29 (xSz X 24 0) q (.inr (0, [.int 0, .ref k.2.2.2.2.2.1, .int 0]))) 11 0 = xAd X 11 0 from ad_ne (fun z => by omega)))⟩, fun t x h20 ht => (vr_an ht).trans (hv2 t x (by omega)), ?_, hlI, fun L i h20 h29 => (ad_ne (fun z => by omega)).trans (ad_ne (fun z => by omega)), rfl⟩
  · rw [up_sw hqb]
    exact (congrArg (fun z : Wd => (z.1 ++ [q], va_up z.2 q (.inr (0, [.int 0, .ref k.2.2.2.2.2.1, .int 0])))) e2).trans (e3.trans e4)
  · show xSz X 24 0 < 2 ^ 30
    omega
  · exact hme
  · rw [lv_adS hta hD.1, hlv]
    constructor
    · rintro ((z | z) | z)
      · exact Or.inl z
      · exact Or.inr (Or.inr z)
      · exact Or.inr (Or.inl z)
    · rintro (z | z | z)
      · exact Or.inl (Or.inl z)
      · exact Or.inr z
      · exact Or.inl (Or.inr z)
  · rw [hlI.vr, nI_clamp hn31]
    exact congrArg Value.ref ad_ad.symm
