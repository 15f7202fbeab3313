def y_card (X : CX) (p1 p2 : Int32) : CX := (fiX (fiX X 64 (xSz X 27 0) p1) 65 (xSz X 27 0) p2)
def s_card (X : CX) (S : CT) (p1 p2 : Int32) : CT := (si S 66 (nI (xSz X 27 0)) 0)
theorem al_card {k : KC} {X : CX} {S : CT} (hX : XOK X) (hL : LVX X) (hT : TS X S) {p1 p2 : Int32} (hp1 : lI X 6 p1) (hlt : xSz X 27 0 < 40) {q : Nat} (hq : q ∉ (cW k X S).1) : ∃ X1, ((cW k X S).1 ++ [q], va_up (cW k X S).2 q (.inr (2, [vr X 6 p1, .int p2, .int 0]))) = cW k X1 (s_card X S p1 p2) ∧ XOK X1 ∧ TS X1 (s_card X S p1 p2) ∧ LA X1 27 0 ∧ (∀ X2, AD X1 X2 27 0 → NX (y_card X p1 p2) X2 27 0) ∧ (∀ t x, t ≠ 2 → vr X1 t x = vr X t x) ∧ Value.ref q = vr X1 2 (nI (xSz X 27 0)) ∧ lI X1 2 (nI (xSz X 27 0)) ∧ (∀ L i, 20 ≤ L → xAd X1 L i = xAd X L i) ∧ (xFi X1 = xFi (y_card X p1 p2) ∧ xFj X1 = xFj (y_card X p1 p2) ∧ xSz X1 = xSz X) ∧ ∀ kd i, lv X kd i → lv X1 kd i := by
  have hb := hL.2.2.1
  have hn31 : (xSz X 27 0) < 2 ^ 31 := by omega
  have hd : dead X 2 (xSz X 27 0) := dead.of hX.1 fun z => by
    have h9 : (xSz X 27 0) < (xSz X 27 0) := (hL.1 2 (xSz X 27 0)).mp z
    omega
  have hD : DE X S (fiX (fiX X 64 (xSz X 27 0) p1) 65 (xSz X 27 0) p2) (si S 66 (nI (xSz X 27 0)) 0) 2 (xSz X 27 0) := (DE.si (DE.fi (DE.fi DE.refl (by decide)) (by decide)) (by decide) hn31)
  obtain ⟨E1, HX1⟩ := cW_obj (k := k) (e := (.inr (2, [vr X 6 p1, .int p2, .int 0]))) hX.1 (RO_of hX hL hT) (EA_of hX hL) (by decide) hq hd hD (by
    show Sum.inr (2, [vr X 6 p1, .int p2, .int 0]) = Sum.inr (2, [cR (adX (fiX (fiX X 64 (xSz X 27 0) p1) 65 (xSz X 27 0) p2) 2 (xSz X 27 0) q) (si S 66 (nI (xSz X 27 0)) 0) 64 (xSz X 27 0), cR (adX (fiX (fiX X 64 (xSz X 27 0) p1) 65 (xSz X 27 0) p2) 2 (xSz X 27 0) q) (si S 66 (nI (xSz X 27 0)) 0) 65 (xSz X 27 0), cR (adX (fiX (fiX X 64 (xSz X 27 0) p1) 65 (xSz X 27 0) p2) 2 (xSz X 27 0) q) (si S 66 (nI (xSz X 27 0)) 0) 66 (xSz X 27 0)])
    rw [show cR (adX (fiX (fiX X 64 (xSz X 27 0) p1) 65 (xSz X 27 0) p2) 2 (xSz X 27 0) q) (si S 66 (nI (xSz X 27 0)) 0) 64 (xSz X 27 0) = vr X 6 p1 from ((congrArg (vr _ 6) ((fi_sn rfl).trans fi_ss)).trans (vr_an (by decide))), show cR (adX (fiX (fiX X 64 (xSz X 27 0) p1) 65 (xSz X 27 0) p2) 2 (xSz X 27 0) q) (si S 66 (nI (xSz X 27 0)) 0) 65 (xSz X 27 0) = .int p2 from (congrArg Value.int fi_ss), show cR (adX (fiX (fiX X 64 (xSz X 27 0) p1) 65 (xSz X 27 0) p2) 2 (xSz X 27 0) q) (si S 66 (nI (xSz X 27 0)) 0) 66 (xSz X 27 0) = .int 0 from (congrArg Value.int (si_at hn31))])
  have hK1 := XOK_ob (e := (.inr (2, [vr X 6 p1, .int p2, .int 0]))) hX hq hd hD ⟨by decide, by decide⟩ (by omega) HX1 (fun z => absurd z (by decide)) (fun z => absurd z (by decide)) (fun _ => by rw [show xFi (fiX (fiX X 64 (xSz X 27 0) p1) 65 (xSz X 27 0) p2) 64 _ = p1 from (fi_sn rfl).trans fi_ss]; exact hp1) (fun z => absurd z (by decide))
  have hT1 := TS_ob (e := (.inr (2, [vr X 6 p1, .int p2, .int 0]))) hT hX hq hd hD (by decide) (by omega) (fun z => absurd z (by decide)) (fun z => absurd z (by decide))
  have hA1 := LA_ob (e := (.inr (2, [vr X 6 p1, .int p2, .int 0]))) (LA_of hX hL (by decide) (by decide) ((hL.1 27 0).mpr rfl) (by omega)) hq hD (by decide) HX1
  have hme : lv (obX (fiX (fiX X 64 (xSz X 27 0) p1) 65 (xSz X 27 0) p2) 2 (xSz X 27 0) q (.inr (2, [vr X 6 p1, .int p2, .int 0]))) 2 (xSz X 27 0) := ob_me hX.1 hq hD
  have hlI : lI (obX (fiX (fiX X 64 (xSz X 27 0) p1) 65 (xSz X 27 0) p2) 2 (xSz X 27 0) q (.inr (2, [vr X 6 p1, .int p2, .int 0]))) 2 (nI (xSz X 27 0)) := ⟨_, by omega, rfl, hme⟩
  refine ⟨_, E1, hK1, hT1, hA1, fun X2 hA2 => ⟨XOK.ad hK1 hA2 hA1.2.2.1 ⟨?_, ?_⟩, LVX_27 hL hX.1 hq hD hlt hA2, hA2.2.1.1, hA2.2.1.2, hA2.2.2.2.1⟩, fun t x ht => vr_an ht, ?_, hlI, fun L i h20 => ad_ne (fun z => by omega), ⟨rfl, rfl, rfl⟩, ob_hm hX.1 hq hD⟩
  · show xSz X 27 0 < 2 ^ 30
    omega
  · exact hme
  · rw [hlI.vr, nI_clamp hn31]
    exact congrArg Value.ref ad_ad.symm
