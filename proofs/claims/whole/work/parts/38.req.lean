theorem lv_adS {X X1 : CX} {kd n q kd' i : Nat} (hq : xTg X q = none) (hs : SA X X1) : lv (adX X1 kd n q) kd' i ↔ lv X kd' i ∨ (kd' = kd ∧ i = n) := by
  have h9 : xTg X1 q = none := by rw [hs.2.1]; exact hq
  rw [lv_ad h9]
  exact or_congr (lv_SA (X := X) (X1 := X1) hs) Iff.rfl
theorem cW_adp {k : KC} {X X1 : CX} {S S1 : CT} {kd n a : Nat} (hX : HX X) (hR : RO X S) (hE : EA X) (hk : kd < 20) (ha : a ∈ xAs X) (hta : xTg X a = none) (hd : dead X kd n) (hD : DE X S X1 S1 kd n) (he : xGb X a = cE k (adX X1 kd n a) S1 kd n) : cW k X S = cW k (adX X1 kd n a) S1 ∧ HX (adX X1 kd n a) := by
  obtain ⟨hs, hl, hde⟩ := hD
  have hne : ∀ b (r : Nat × Nat), xTg X b = some r → ¬ (r.1 = kd ∧ r.2 = n) := fun b r hb q => hd b (by rw [hb, ← q.1, ← q.2])
  have hX1 : HX X1 := by
    unfold HX
    rw [hs.2.1, hs.2.2.1, hs.1]
    exact hX
  have hd1 : dead X1 kd n := by
    intro b hb
    rw [hs.2.1] at hb
    exact hd b hb
  have ht1 : xTg X1 a = none := by rw [hs.2.1]; exact hta
  refine ⟨?_, hX1.ad (by rw [hs.1]; exact ha) hd1⟩
  have e1 : cW k X1 S1 = cW k X S := by
    refine cW_eq hs fun b r hb => ?_
    have hn := hne b r hb
    refine cE_ext (fun h20 j hj => ?_) (fun g1 g2 => ⟨by rw [hl.2.2], by rw [hl.2.1], by rw [hl.1], fun _ => by rw [hs.2.2.1]⟩) (fun g1 g2 => ⟨by rw [hl.2.1], by rw [hl.1], fun _ _ => by rw [hs.2.2.1]⟩) (fun e4 => ?_) (fun e5 => ?_)
    · have := nF_le r.1
      obtain ⟨d1, d2, d3, d4⟩ := hde (32 * r.1 + j) r.2 (fun q => hn ⟨by omega, q.2⟩)
      exact cR_ext d1 d2 d3 d4 (fun _ => vr_SA hs) (fun _ => vr_SA hs) (fun _ => by rw [hs.2.2.1])
    · funext m
      exact (hde (1280 + r.2) m (fun q => by omega)).1
    · funext m
      exact (hde (1312 + r.2) m (fun q => by omega)).2.1
  rw [← e1]
  refine cW_ad ht1 (by rw [hs.2.2.2]; exact he) fun b r hb => ?_
  have hb' : xTg X b = some r := by rwa [hs.2.1] at hb
  have hn := hne b r hb'
  have hlv : lv X r.1 r.2 := by
    unfold lv
    rw [← (hX b r.1 r.2 hb').1]
    exact hb'
  refine cE_ext (fun h20 j hj => ?_) (fun g1 g2 => ⟨rfl, rfl, rfl, fun _ => if_neg (by omega)⟩) (fun g1 g2 => ⟨rfl, rfl, fun m hm => if_neg fun z => ?_⟩) (fun _ => rfl) (fun _ => rfl)
  · have hj18 := nF_le r.1
    obtain ⟨d1, d2, d3, d4⟩ := hde (32 * r.1 + j) r.2 (fun q => hn ⟨by omega, q.2⟩)
    obtain ⟨r1, r2⟩ := hR r.1 r.2 j hlv h20 hj
    refine cR_ext rfl rfl rfl rfl (fun h3 => vr_ad hd1 ?_) (fun h7 => vr_ad hd1 ?_) (fun h8 => if_neg ?_)
    · rw [d1, oI_SA hs]
      exact r1 h3
    · rw [d3, oI_SA hs]
      exact r2 h7
    · have := (ct8 r.1 h20 j (by omega) hj h8).1
      omega
  · refine hd.lv ?_
    have h9 := hE r.1 r.2 g1 g2 hlv m (by rw [← hl.1]; exact hm)
    rwa [z.1, z.2] at h9
section OA
variable {X Y : CX} {S S1 : CT} {kd n q : Nat} 
theorem oa_low (hX : HX X) (hq : xTg X q = none) (hD : DE X S Y S1 kd n) {k i : Nat} (hk : k ≠ kd) (h : lv (adX Y kd n q) k i) : lv X k i := ((lv_adS hq hD.1).mp h).elim id (fun z => absurd z.1 hk)
theorem oa_hm (hX : HX X) (hq : xTg X q = none) (hD : DE X S Y S1 kd n) (k i : Nat) (h : lv X k i) : lv (adX Y kd n q) k i := (lv_adS hq hD.1).mpr (Or.inl h)
theorem oa_me (hX : HX X) (hq : xTg X q = none) (hD : DE X S Y S1 kd n) : lv (adX Y kd n q) kd n := (lv_adS hq hD.1).mpr (Or.inr ⟨rfl, rfl⟩)
theorem oa_I (hX : HX X) (hq : xTg X q = none) (hD : DE X S Y S1 kd n) {k : Nat} {x : Int32} (h : lI (adX Y kd n q) k x) : lI X k x ∨ (k = kd ∧ x = nI n) := by
  obtain ⟨m, hm, e1, h9⟩ := h
  rcases (lv_adS hq hD.1).mp h9 with z | z
  · exact Or.inl ⟨m, hm, e1, z⟩
  · exact Or.inr ⟨z.1, by rw [e1, z.2]⟩
theorem oa_xi (hd : dead X kd n) (hD : DE X S Y S1 kd n) {k f : Nat} {x : Int32} (hf : f / 32 = k) (h : lI X k x) : xi Y f x = xi X f x ∧ ci S1 f x = ci S f x := by
  have h9 := h.lv
  have h8 := hD.2.2 f x.toNatClampNeg (fun z => hd.lv (by rw [← z.2, ← z.1, hf]; exact h9))
  exact ⟨h8.2.2.1, h8.1⟩
theorem XOK_oa (h : XOK X) (hq : xTg X q = none) (hd : dead X kd n) (hD : DE X S Y S1 kd n) (hk : kd < 12 ∧ kd ≠ 1) (hn : n < 2 ^ 30) (hx1 : HX (adX Y kd n q)) (o8 : kd = 8 → LW X 29 n ∧ lI X 6 (xFi Y 256 n) ∧ lI X 1 (xFi Y 257 n)) (o3 : kd = 3 → lI X 8 (xFi Y 96 n) ∧ lI X 4 (xFi Y 97 n) ∧ lI X 9 (xFi Y 98 n)) (o2 : kd = 2 → lI X 6 (xFi Y 64 n)) (o6 : kd = 6 → oI X 6 (xFi Y 193 n)) : XOK (adX Y kd n q) := by
  have hX := h.1
  have hm := fun k i => oa_hm (k := k) (i := i) hX hq hD
  have hcl : (nI n).toNatClampNeg = n := nI_clamp (by omega)
  have hl : ∀ L i, LW X L i → LW (adX Y kd n q) L i := fun L i g => by
    obtain ⟨g1, g2, g3, g4, g5⟩ := g
    refine ⟨g1, hm _ _ g2, ?_⟩
    show xSz Y L i ≤ xCp Y L i ∧ xCp Y L i < 2 ^ 30 ∧ (xCp Y L i ≠ 0 → _)
    rw [hD.2.1.1, hD.2.1.2.1]
    exact ⟨g3, g4, fun z => hm _ _ (g5 z)⟩
  refine XOK_of h hx1 hm hl (fun L i m g hq9 => Or.inl ?_) (fun x hx => (oa_I hX hq hD hx).elim id (fun z => absurd z.1.symm hk.2)) (fun x hx => ?_) (fun x hx => ?_) (fun x hx => ?_) (fun x hx => ?_)
  · obtain ⟨g1, g2, g3, g4, g5⟩ := g
    have e1 : xSz (adX Y kd n q) L i = xSz X L i := by show xSz Y L i = _; rw [hD.2.1.1]
    have e2 : xCp (adX Y kd n q) L i = xCp X L i := by show xCp Y L i = _; rw [hD.2.1.2.1]
    rw [e1] at g3 hq9
    rw [e2] at g3 g4 g5
    exact ⟨⟨g1, oa_low hX hq hD (by omega) g2, g3, g4, fun z => oa_low hX hq hD (by omega) (g5 z)⟩, hq9⟩
  · rcases oa_I hX hq hD hx with z | ⟨z1, z2⟩
    · exact Or.inl ⟨z, (oa_xi hd hD rfl z).1, (oa_xi hd hD rfl z).1⟩
    · obtain ⟨y1, y2, y3⟩ := o8 z1.symm
      refine Or.inr ⟨?_, ?_, ?_⟩
      · rw [z2, hcl]; exact hl _ _ y1
      · rw [z2]; show lI _ _ (xFi Y 256 (nI n).toNatClampNeg); rw [hcl]; exact lI_mono hm y2
      · rw [z2]; show lI _ _ (xFi Y 257 (nI n).toNatClampNeg); rw [hcl]; exact lI_mono hm y3
  · rcases oa_I hX hq hD hx with z | ⟨z1, z2⟩
    · exact Or.inl ⟨z, (oa_xi hd hD rfl z).1, (oa_xi hd hD rfl z).1, (oa_xi hd hD rfl z).1⟩
    · obtain ⟨y1, y2, y3⟩ := o3 z1.symm
      refine Or.inr ⟨?_, ?_, ?_⟩
      · rw [z2]; show lI _ _ (xFi Y 96 (nI n).toNatClampNeg); rw [hcl]; exact lI_mono hm y1
      · rw [z2]; show lI _ _ (xFi Y 97 (nI n).toNatClampNeg); rw [hcl]; exact lI_mono hm y2
      · rw [z2]; show lI _ _ (xFi Y 98 (nI n).toNatClampNeg); rw [hcl]; exact lI_mono hm y3
  · rcases oa_I hX hq hD hx with z | ⟨z1, z2⟩
    · exact Or.inl ⟨z, (oa_xi hd hD rfl z).1⟩
    · right
      rw [z2]; show lI _ _ (xFi Y 64 (nI n).toNatClampNeg); rw [hcl]; exact lI_mono hm (o2 z1.symm)
  · rcases oa_I hX hq hD hx with z | ⟨z1, z2⟩
    · exact Or.inl ⟨z, (oa_xi hd hD rfl z).1⟩
    · right
      rw [z2]; show oI _ _ (xFi Y 193 (nI n).toNatClampNeg); rw [hcl]; exact oI_mono hm (o6 z1.symm)
theorem TS_oa (h : TS X S) (hx : XOK X) (hq : xTg X q = none) (hd : dead X kd n) (hD : DE X S Y S1 kd n) (hk : kd ≠ 9) (hn : n < 2 ^ 30) (o6 : kd = 6 → oI X 6 (S1.1 196 n)) (o8 : kd = 8 → oI X 6 (S1.1 262 n) ∧ oI X 6 (S1.1 263 n) ∧ oI X 9 (S1.1 264 n)) : TS (adX Y kd n q) S1 := by
  have hX := hx.1
  have hm := fun k i => oa_hm (k := k) (i := i) hX hq hD
  have hcl : (nI n).toNatClampNeg = n := nI_clamp (by omega)
  refine TS_of h hm (oa_xi hd hD rfl hx.l11).2 (fun x hx => ?_) (fun x hx => ?_) (fun x hx => ?_)
  · rcases oa_I hX hq hD hx with z | ⟨z1, z2⟩
    · exact Or.inl ⟨z, (oa_xi hd hD rfl z).2⟩
    · right
      rw [z2]; unfold ci; rw [hcl]; exact oI_mono hm (o6 z1.symm)
  · rcases oa_I hX hq hD hx with z | ⟨z1, z2⟩
    · exact ⟨z, (oa_xi hd hD rfl z).2⟩
    · exact absurd z1.symm hk
  · rcases oa_I hX hq hD hx with z | ⟨z1, z2⟩
    · exact Or.inl ⟨z, (oa_xi hd hD rfl z).2, (oa_xi hd hD rfl z).2, (oa_xi hd hD rfl z).2⟩
    · right
      obtain ⟨y1, y2, y3⟩ := o8 z1.symm
      rw [z2]; unfold ci; rw [hcl]
      exact ⟨oI_mono hm y1, oI_mono hm y2, oI_mono hm y3⟩
theorem LA_oa {L i : Nat} (h : LA X L i) (hq : xTg X q = none) (hD : DE X S Y S1 kd n) (hk : kd < 12) (hx1 : HX (adX Y kd n q)) : LA (adX Y kd n q) L i := by
  obtain ⟨hX, hE, ⟨g1, g2, g3, g4, g5⟩, ⟨g6, g7⟩, g8⟩ := h
  have hm := fun k i => oa_hm (k := k) (i := i) hX hq hD
  have e1 : ∀ L i, xSz (adX Y kd n q) L i = xSz X L i := fun L i => by show xSz Y L i = _; rw [hD.2.1.1]
  have e2 : ∀ L i, xCp (adX Y kd n q) L i = xCp X L i := fun L i => by show xCp Y L i = _; rw [hD.2.1.2.1]
  refine ⟨hx1, fun L' i' a1 a2 a3 m hm9 => hm _ _ (hE L' i' a1 a2 (oa_low hX hq hD (by omega) a3) m (by rw [← e1]; exact hm9)), ⟨g1, hm _ _ g2, ?_⟩, ?_, fun z => ?_⟩
  · rw [e1, e2]
    exact ⟨g3, g4, fun z => hm _ _ (g5 z)⟩
  · rw [e1, e2]
    exact ⟨g6, g7⟩
  · rw [e2] at z
    exact dead.of hx1 fun y => (g8 z).lv (oa_low hX hq hD (by omega) y)
end OA
/-- an empty list gets its role -/
abbrev ltX (X : CX) (Li n q : Nat) (e : va_E) : CX := obX (lsX X Li n 0 0 0) Li n q e
theorem cW_lst {k : KC} {X : CX} {S : CT} {Li n q : Nat} (hX : HX X) (hE : EA X) (hq : q ∉ xAs X) (hL : 20 ≤ Li ∧ Li < 30) (hd : dead X Li n) (hda : dead X (Li + 10) n) (hown : ∀ kd i j, lv X kd i → kd < 20 → j < nF kd → 8 ≤ (ct (32 * kd + j)).1 → (ct (32 * kd + j)).2 = Li → i ≠ n) {e : va_E} (he : e = .inr (0, [.int 0, .ref k.2.2.2.2.2.1, .int 0])) : ((cW k X S).1 ++ [q], va_up (cW k X S).2 q e) = cW k (ltX X Li n q e) S ∧ HX (ltX X Li n q e) := by
  obtain ⟨g1, g2⟩ := hL
  have hlvr : ∀ b (r : Nat × Nat), xTg X b = some r → lv X r.1 r.2 := fun b r hb => by
    unfold lv
    rw [← (hX b r.1 r.2 hb).1]
    exact hb
  have hX1 : HX (lsX X Li n 0 0 0) := hX
  refine ⟨?_, hX1.nw.ad (List.mem_append_right _ List.mem_cons_self) hd⟩
  rw [cW_nw hX hq]
  have e1 : cW k (nwX (lsX X Li n 0 0 0) q e) S = cW k (nwX X q e) S := by
    refine cW_eq ⟨rfl, rfl, rfl, rfl⟩ fun b r hb => ?_
    have hb' : xTg X b = some r := hb
    have n1 : ¬ (r.1 = Li ∧ r.2 = n) := fun z => hd b (by rw [hb', ← z.1, ← z.2])
    have n2 : ¬ (r.1 = Li + 10 ∧ r.2 = n) := fun z => hda b (by rw [hb', ← z.1, ← z.2])
    rw [cE_nw, cE_nw]
    exact cE_ext (X := X) (X1 := lsX X Li n 0 0 0) (fun h20 j hj => cR_ext rfl rfl rfl rfl (fun _ => rfl) (fun _ => rfl) (fun _ => rfl)) (fun g3 g4 => ⟨if_neg n1, if_neg n1, if_neg n1, fun _ => rfl⟩) (fun g3 g4 => ⟨if_neg (fun z => n2 ⟨by omega, z.2⟩), if_neg (fun z => n2 ⟨by omega, z.2⟩), fun _ _ => rfl⟩) (fun _ => rfl) (fun _ => rfl)
  rw [← e1]
  refine cW_ad (hX.tg hq) ?_ fun b r hb => ?_
  · show va_up (xGb X) q e q = _
    rw [va_up_self, he]
    unfold cE
    rw [if_neg (by omega), if_pos (by omega)]
    show _ = Sum.inr (0, [Value.int (xMc (lsX X Li n 0 0 0) Li n), .ref (if xCp (lsX X Li n 0 0 0) Li n = 0 then _ else _), .int (nI (xSz (lsX X Li n 0 0 0) Li n))])
    rw [ls_mc, ls_cp, ls_sz, if_pos rfl, nI_0]
  have hb' : xTg X b = some r := hb
  have hlv := hlvr b r hb'
  have n1 : ¬ (r.1 = Li ∧ r.2 = n) := fun z => hd b (by rw [hb', ← z.1, ← z.2])
  refine cE_ext (fun h20 j hj => ?_) (fun g3 g4 => ⟨rfl, rfl, rfl, fun _ => if_neg (by omega)⟩) (fun g3 g4 => ⟨rfl, rfl, fun m hm => if_neg fun z => by have := eK_lt (r.1 - 10); omega⟩) (fun _ => rfl) (fun _ => rfl)
  have hj18 := nF_le r.1
  refine cR_ext rfl rfl rfl rfl (fun h3 => vr_an ?_) (fun h7 => vr_an ?_) (fun h8 => if_neg fun z => hown r.1 r.2 j hlv h20 hj h8 z.1 z.2)
  · have := ct37 r.1 h20 j (by omega) hj (Or.inl h3)
    omega
  · have := ct37 r.1 h20 j (by omega) hj (Or.inr h7)
    omega
theorem lv_lst {X : CX} (hX : HX X) {Li n q k i : Nat} {e : va_E} (hq : q ∉ xAs X) : lv (ltX X Li n q e) k i ↔ lv X k i ∨ (k = Li ∧ i = n) := lv_ad (X := nwX (lsX X Li n 0 0 0) q e) (hX.tg hq)
theorem ls_ne {X : CX} {L n s cp L' i : Nat} {mc : Int32} (h : ¬ (L' = L ∧ i = n)) : xSz (lsX X L n s cp mc) L' i = xSz X L' i ∧ xCp (lsX X L n s cp mc) L' i = xCp X L' i := ⟨if_neg h, if_neg h⟩
/-- a world with one more list holds what it held -/
theorem XOK_lst {X : CX} (h : XOK X) {Li n q : Nat} {e : va_E} (hq : q ∉ xAs X) (hL : 20 ≤ Li ∧ Li < 30) (hd : dead X Li n) (hda : dead X (Li + 10) n) (hx : HX (ltX X Li n q e)) : XOK (ltX X Li n q e) := by
  have hm : ∀ k i, lv X k i → lv (ltX X Li n q e) k i := fun k i z => (lv_lst h.1 hq).mpr (Or.inl z)
  have hlow : ∀ k i, k ≠ Li → lv (ltX X Li n q e) k i → lv X k i := fun k i g z => ((lv_lst h.1 hq).mp z).elim id (fun y => absurd y.1 g)
  have hI : ∀ k x, k < 20 → lI (ltX X Li n q e) k x → lI X k x := fun k x g ⟨m, hm9, e9, z⟩ => ⟨m, hm9, e9, hlow k m (by omega) z⟩
  have hne : ∀ L i, lv X L i ∨ lv X (L + 10) i → ¬ (L = Li ∧ i = n) := fun L i z y => by
    obtain ⟨rfl, rfl⟩ := y
    exact z.elim hd.lv hda.lv
  refine XOK_of h hx hm (fun L i ⟨g1, g2, g3, g4, g5⟩ => ?_) (fun L i m ⟨g1, g2, g3, g4, g5⟩ hm9 => ?_) (fun x hx => hI 1 x (by omega) hx) (fun x hx => Or.inl ⟨hI 8 x (by omega) hx, rfl, rfl⟩) (fun x hx => Or.inl ⟨hI 3 x (by omega) hx, rfl, rfl, rfl⟩) (fun x hx => Or.inl ⟨hI 2 x (by omega) hx, rfl⟩) (fun x hx => Or.inl ⟨hI 6 x (by omega) hx, rfl⟩)
  · have n1 := hne L i (Or.inl g2)
    refine ⟨g1, hm _ _ g2, ?_⟩
    show xSz (lsX X Li n 0 0 0) L i ≤ xCp (lsX X Li n 0 0 0) L i ∧ xCp (lsX X Li n 0 0 0) L i < 2 ^ 30 ∧ (xCp (lsX X Li n 0 0 0) L i ≠ 0 → _)
    rw [(ls_ne n1).1, (ls_ne n1).2]
    exact ⟨g3, g4, fun z => hm _ _ (g5 z)⟩
  · left
    have hm8 : m < xSz (lsX X Li n 0 0 0) L i := hm9
    by_cases n1 : L = Li ∧ i = n
    · rw [n1.1, n1.2, ls_sz] at hm8
      omega
    · have g3' : xSz (lsX X Li n 0 0 0) L i ≤ xCp (lsX X Li n 0 0 0) L i := g3
      have g4' : xCp (lsX X Li n 0 0 0) L i < 2 ^ 30 := g4
      rw [(ls_ne n1).1] at hm8 g3'
      rw [(ls_ne n1).2] at g3' g4'
      have g5' : xCp (lsX X Li n 0 0 0) L i ≠ 0 → lv (ltX X Li n q e) (L + 10) i := g5
      rw [(ls_ne n1).2] at g5'
      have hl0 : lv X L i := ((lv_lst h.1 hq).mp g2).elim id (fun y => absurd y n1)
      exact ⟨⟨g1, hl0, g3', g4', fun z => hlow _ _ (by omega) (g5' z)⟩, hm8⟩
theorem LA_lst {X : CX} {L i : Nat} (h : LA X L i) {Li n q : Nat} {e : va_E} (hq : q ∉ xAs X) (hL : 20 ≤ Li ∧ Li < 30) (hda : dead X (Li + 10) n) (hne : ¬ (L = Li ∧ i = n)) (hx : HX (ltX X Li n q e)) : LA (ltX X Li n q e) L i := by
  obtain ⟨hX, hE, ⟨g1, g2, g3, g4, g5⟩, ⟨g6, g7⟩, g8⟩ := h
  have hm : ∀ k i, lv X k i → lv (ltX X Li n q e) k i := fun k i z => (lv_lst hX hq).mpr (Or.inl z)
  have hlow : ∀ k i, k ≠ Li → lv (ltX X Li n q e) k i → lv X k i := fun k i g z => ((lv_lst hX hq).mp z).elim id (fun y => absurd y.1 g)
  refine ⟨hx, fun L' i' a1 a2 a3 m hm9 => ?_, ⟨g1, hm _ _ g2, ?_⟩, ?_, fun z => ?_⟩
  · have h9 := hlow _ _ (by omega) a3
    have n1 : ¬ (L' - 10 = Li ∧ i' = n) := fun y => hda.lv (by rw [← y.1, ← y.2, Nat.sub_add_cancel (by omega)]; exact h9)
    have hm8 : m < xSz (lsX X Li n 0 0 0) (L' - 10) i' := hm9
    rw [(ls_ne n1).1] at hm8
    exact hm _ _ (hE L' i' a1 a2 h9 m hm8)
  · show xSz (lsX X Li n 0 0 0) L i ≤ xCp (lsX X Li n 0 0 0) L i ∧ xCp (lsX X Li n 0 0 0) L i < 2 ^ 30 ∧ (xCp (lsX X Li n 0 0 0) L i ≠ 0 → _)
    rw [(ls_ne hne).1, (ls_ne hne).2]
    exact ⟨g3, g4, fun z => hm _ _ (g5 z)⟩
  · show GC (xCp (lsX X Li n 0 0 0) L i) ∧ xSz (lsX X Li n 0 0 0) L i < 73
    rw [(ls_ne hne).1, (ls_ne hne).2]
    exact ⟨g6, g7⟩
  · have z' : xCp (lsX X Li n 0 0 0) L i = 0 := z
    rw [(ls_ne hne).2] at z'
    exact dead.of hx fun y => (g8 z').lv (hlow _ _ (by omega) y)
