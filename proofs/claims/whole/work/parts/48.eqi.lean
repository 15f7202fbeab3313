theorem eq_day {X : CX} {S : CT} {M : MS} (h : RR X S M) : k_day X S = (f_day M).1 ∧ mI (f_day M).2 0 = 0 ∧ RR X S (f_day M).2 := ⟨h.i0 (f := 363) (j := 1) rfl, rfl, h.thr⟩
/-- only the chain of request r may differ -/
def W23 (r : Nat) (M M' : MS) : Prop := mI M' = mI M ∧ mJ M' = mJ M ∧ (∀ a i, (a ≠ 23 ∨ i < 12 * r ∨ 12 * r + 12 ≤ i) → gn M' a i = gn M a i) ∧ ∀ a i, gl M' a i = gl M a i
theorem ch_ix {r q : Nat} (h : 12 * r + q < 2 ^ 30) : ((12 : Int32) * nI r + nI q).toNatClampNeg = 12 * r + q := by
  rw [show (12 : Int32) = nI 12 from rfl, pk_mul, nI_add, nI_clamp (by omega)]
theorem W23.w {r q : Nat} {M Mi : MS} {v : Int32} (h : W23 r M Mi) (hq : q < 12) (hr : r < 40) : W23 r M (rI Mi 23 (12 * nI r + nI q) v) := by
  refine ⟨h.1, h.2.1, fun a i z => ?_, h.2.2.2⟩
  rw [gn_rI, ch_ix (by omega), if_neg (fun y => by omega)]
  exact h.2.2.1 a i z
/-- is c among those who come behind b -/
def amg (M : MS) (t : Int64) (c : Int32) : Nat → Int32 → Int32
  | 0, _ => 0
  | f + 1, b => if b = -1 then 0 else if b = c then 1 else amg M t c f (MB M b t)
/-- bosses are earlier persons -/
def BO (M : MS) : Prop := ∀ i, i < cnt M 3 → gn M 4 i = -1 ∨ ∃ j, j < i ∧ gn M 4 i = nI j
theorem MB_of {M : MS} {t : Int64} {i : Nat} (hB : BO M) (hi : i < cnt M 3) (h12 : cnt M 3 ≤ 12) : MB M (nI i) t = -1 ∨ ∃ j, j < i ∧ MB M (nI i) t = nI j := by
  unfold MB
  by_cases c : lg_cmp ((gI M 5 (nI i)).toInt64) t < 0
  · rw [if_pos c, gI_n, nI_clamp (by omega)]
    exact hB i hi
  · rw [if_neg c]; exact Or.inl rfl
theorem W23.mb {r : Nat} {M Mi : MS} {b : Int32} {t : Int64} (h : W23 r M Mi) : (if (lg_cmp ((gI Mi 5 b).toInt64) t) < 0 then gI Mi 4 b else -1) = MB M b t := by
  have e5 : gI Mi 5 b = gI M 5 b := h.2.2.1 5 _ (Or.inl (by decide))
  have e4 : gI Mi 4 b = gI M 4 b := h.2.2.1 4 _ (Or.inl (by decide))
  rw [e5, e4]
  rfl
theorem per_nI {M : MS} {j : Nat} (hj : j < cnt M 3) (e3 : mI M 3 = nI (cnt M 3)) (h12 : cnt M 3 ≤ 12) : P_isPerson (nI j) M := by
  show P_in (nI j) 0 (mI M 3 - 1)
  rw [e3]
  exact (num_in (n := cnt M 3) (by omega)).mp ⟨nI_pos' (by omega), nI_lt hj (by omega)⟩
theorem lc_ok {t : Int64} {r : Nat} (hr : r < 40) {M : MS} (hB : BO M) (h12 : cnt M 3 ≤ 12) (e3 : mI M 3 = nI (cnt M 3)) : ∀ (f q : Nat) (b h : Int32) (Mi : MS), ((b = -1 ∧ 1 ≤ f) ∨ ∃ j, b = nI j ∧ j < cnt M 3 ∧ j + 2 ≤ f ∧ q + j ≤ 11) → W23 r M Mi → q ≤ 12 → ∃ n M', W23 r M M' ∧ q ≤ n ∧ n ≤ 12 ∧ (∀ j, j < q → gn M' 23 (12 * r + j) = gn Mi 23 (12 * r + j)) ∧ (∀ j, q ≤ j → j < n → P_isPerson (gn M' 23 (12 * r + j)) M ∧ MB M (gn M' 23 (12 * r + j)) t = if j + 1 < n then gn M' 23 (12 * r + (j + 1)) else -1) ∧ ((b = -1 ∧ n = q) ∨ (¬ b = -1 ∧ q < n ∧ gn M' 23 (12 * r + q) = b)) ∧ lc_run (nI r) t f (nI q) b h Mi = rI (rI (rI M' 24 (nI r) (nI n)) 25 (nI r) 0) 26 (nI r) (if lg_cmp t 100000 < 0 then -1 else if h = 0 ∧ amg M t (mI M 10) f b = 0 then mI M 10 else -1) := by
  intro f
  induction f with
  | zero =>
    intro q b h Mi hb _ _
    rcases hb with ⟨_, hb⟩ | ⟨j, _, _, hb, _⟩ <;> omega
  | succ f ih =>
    intro q b h Mi hb hW hq
    have e10 : mI Mi 10 = mI M 10 := congrFun hW.1 10
    rcases hb with ⟨hb, _⟩ | ⟨j, hb, hj3, hf, hqj⟩
    · refine ⟨q, Mi, hW, Nat.le_refl _, hq, fun _ _ => rfl, fun j h1 h2 => by omega, Or.inl ⟨hb, rfl⟩, ?_⟩
      unfold lc_run amg
      rw [if_pos hb, if_pos hb, e10]
      by_cases c : lg_cmp t 100000 < 0
      · rw [if_pos c, if_pos c]
      · rw [if_neg c, if_neg c]
        by_cases c2 : h = 0
        · rw [if_pos c2, if_pos ⟨c2, rfl⟩]
        · rw [if_neg c2, if_neg (fun z => c2 z.1)]
    · have hne : ¬ b = -1 := by rw [hb]; exact person_ne (per_nI hj3 e3 h12)
      have hW2 := hW.w (v := b) (q := q) (by omega) hr
      have hm : nI q + 1 = nI (q + 1) := by rw [show (1 : Int32) = nI 1 from rfl, nI_add]
      have hn := MB_of (t := t) hB hj3 h12
      rw [← hb] at hn
      have key : ∀ h', ∃ n M', W23 r M M' ∧ q ≤ n ∧ n ≤ 12 ∧ (∀ j, j < q → gn M' 23 (12 * r + j) = gn Mi 23 (12 * r + j)) ∧ (∀ j, q ≤ j → j < n → P_isPerson (gn M' 23 (12 * r + j)) M ∧ MB M (gn M' 23 (12 * r + j)) t = if j + 1 < n then gn M' 23 (12 * r + (j + 1)) else -1) ∧ ((b = -1 ∧ n = q) ∨ (¬ b = -1 ∧ q < n ∧ gn M' 23 (12 * r + q) = b)) ∧ lc_run (nI r) t f (nI q + 1) (MB M b t) h' (rI Mi 23 (12 * nI r + nI q) b) = rI (rI (rI M' 24 (nI r) (nI n)) 25 (nI r) 0) 26 (nI r) (if lg_cmp t 100000 < 0 then -1 else if h' = 0 ∧ amg M t (mI M 10) f (MB M b t) = 0 then mI M 10 else -1) := by
        intro h'
        have hh : (MB M b t = -1 ∧ 1 ≤ f) ∨ ∃ j, MB M b t = nI j ∧ j < cnt M 3 ∧ j + 2 ≤ f ∧ (q + 1) + j ≤ 11 := by
          rcases hn with hn | ⟨j2, hj2, hn⟩
          · exact Or.inl ⟨hn, by omega⟩
          · exact Or.inr ⟨j2, hn, by omega, by omega, by omega⟩
        obtain ⟨n, M', w1, w2, w3, w4, w5, w6, w7⟩ := ih (q + 1) (MB M b t) h' _ hh hW2 (by omega)
        have hself : gn M' 23 (12 * r + q) = b := by
          rw [w4 q (by omega), gn_rI, ch_ix (by omega), if_pos ⟨rfl, rfl⟩]
        refine ⟨n, M', w1, by omega, w3, fun j hj => ?_, fun j h1 h2 => ?_, Or.inr ⟨hne, by omega, hself⟩, ?_⟩
        · rw [w4 j (by omega), gn_rI, ch_ix (by omega), if_neg (fun y => by omega)]
        · by_cases e : j = q
          · rw [e, hself]
            refine ⟨by rw [hb]; exact per_nI hj3 e3 h12, ?_⟩
            rcases w6 with ⟨z1, z2⟩ | ⟨z1, z2, z3⟩
            · rw [if_neg (by omega), z1]
            · rw [if_pos z2, z3]
          · exact w5 j (by omega) h2
        · rw [hm]; exact w7
      have e4 : gI (rI Mi 23 (12 * nI r + nI q) b) 4 b = gI Mi 4 b := rfl
      have hmb := hW.mb (b := b) (t := t)
      by_cases c2 : h = 0
      · by_cases c3 : b = mI M 10
        · obtain ⟨n, M', w1, w2, w3, w4, w5, w6, w7⟩ := key 1
          refine ⟨n, M', w1, w2, w3, w4, w5, w6, ?_⟩
          unfold lc_run
          rw [if_neg hne, if_pos c2, e10, if_pos c3]
          have e : (if h = 0 ∧ amg M t (mI M 10) (f + 1) b = 0 then mI M 10 else (-1 : Int32)) = -1 := by
            rw [if_neg]
            rintro ⟨_, z⟩
            unfold amg at z
            rw [if_neg hne, if_pos c3] at z
            exact absurd z (by decide)
          have e' : (if (1 : Int32) = 0 ∧ amg M t (mI M 10) f (MB M b t) = 0 then mI M 10 else (-1 : Int32)) = -1 := if_neg (fun z => absurd z.1 (by decide))
          rw [e', ← hmb] at w7
          rw [e, ← w7]
          by_cases c4 : (lg_cmp ((gI Mi 5 b).toInt64) t) < 0
          · rw [if_pos c4, if_pos c4]
          · rw [if_neg c4, if_neg c4]
        · obtain ⟨n, M', w1, w2, w3, w4, w5, w6, w7⟩ := key 0
          refine ⟨n, M', w1, w2, w3, w4, w5, w6, ?_⟩
          unfold lc_run
          rw [if_neg hne, if_pos c2, e10, if_neg c3]
          have e : amg M t (mI M 10) (f + 1) b = amg M t (mI M 10) f (MB M b t) := by
            rw [amg, if_neg hne, if_neg c3]
          rw [c2, e, ← w7, ← hmb]
          by_cases c4 : (lg_cmp ((gI Mi 5 b).toInt64) t) < 0
          · rw [if_pos c4, if_pos c4]
          · rw [if_neg c4, if_neg c4]
      · obtain ⟨n, M', w1, w2, w3, w4, w5, w6, w7⟩ := key 1
        refine ⟨n, M', w1, w2, w3, w4, w5, w6, ?_⟩
        unfold lc_run
        rw [if_neg hne, if_neg c2]
        have e : (if h = 0 ∧ amg M t (mI M 10) (f + 1) b = 0 then mI M 10 else (-1 : Int32)) = -1 := if_neg (fun z => c2 z.1)
        have e' : (if (1 : Int32) = 0 ∧ amg M t (mI M 10) f (MB M b t) = 0 then mI M 10 else (-1 : Int32)) = -1 := if_neg (fun z => absurd z.1 (by decide))
        rw [e', ← hmb] at w7
        rw [e, ← w7]
        by_cases c4 : (lg_cmp ((gI Mi 5 b).toInt64) t) < 0
        · rw [if_pos c4, if_pos c4]
        · rw [if_neg c4, if_neg c4]
section HJ
variable {X : CX} {S : CT} {M : MS}
theorem dm_cg {M M' : MS} {c i : Nat} (hm : mI M' = mI M) (h18 : ∀ i, gn M' 18 i = gn M 18 i) : dm M' c i ↔ dm M c i := by
  unfold dm cnt
  rw [hm]
  split <;> first | exact Iff.rfl | rw [h18]
/-- a chain is laid -/
theorem RR.lay (h : RR X S M) {r : Nat} {n : Nat} {u : Int32} {M' : MS} (hr : r < 40) (hn : n ≤ 12) (hW : W23 r M M') (hO : ∀ q, dm M 1 q → gn M 24 q ≤ gn M 25 q ∨ ∃ a, a < 12 ∧ gn M 25 q = nI a) (h40 : cnt M 14 ≤ 40) (hu : u = if n = 0 then -1 else gn M' 23 (12 * r)) : RR X (si S 262 (nI r) u) (rI (rI M' 24 (nI r) (nI n)) 25 (nI r) 0) := by
  generalize e : rI (rI M' 24 (nI r) (nI n)) 25 (nI r) 0 = N
  have hm : mI N = mI M := by rw [← e]; exact hW.1
  have hmj : mJ N = mJ M := by rw [← e]; exact hW.2.1
  have hg : ∀ a i, a ≠ 23 → a ≠ 24 → a ≠ 25 → gn N a i = gn M a i := fun a i z1 z2 z3 => by
    rw [← e, gn_rIn z3, gn_rIn z2]
    exact hW.2.2.1 a i (Or.inl z1)
  have hl : ∀ a i, gl N a i = gl M a i := fun a i => by
    rw [← e]
    exact hW.2.2.2 a i
  have hd : ∀ c i, dm N c i ↔ dm M c i := fun c i => dm_cg hm (fun i => hg 18 i (by decide) (by decide) (by decide))
  have hS : ∀ b i, b ≠ 262 → (si S 262 (nI r) u).1 b i = S.1 b i := fun b i z => s1_sn z
  obtain ⟨⟨r1, r2⟩, ⟨r3, r4, r5, r6, r7⟩, ⟨r8, r9⟩, ⟨r10, r11⟩, ⟨r12, r13⟩, r14, r15, r16, r17⟩ := h
  refine ⟨⟨fun t ht i hi => ?_, fun t ht i hi => ?_⟩, ⟨fun t ht i hi => ?_, fun t ht i hi => ?_, fun i hi => r5 i ((hd 0 i).mp hi), r6, fun i hi => ?_⟩, ⟨fun t ht => ?_, ?_⟩, ⟨?_, fun q hq => ?_⟩, ⟨?_, fun i hi => ?_⟩, fun q hq => ?_, fun q hq => ?_, fun i hi => ?_, fun q u' hq hu z hz => ?_⟩
  · have h9 : ∀ t ∈ TI, t.1 ≠ 262 ∧ t.2.1 ≠ 25 ∧ t.2.1 ≠ 24 ∧ t.2.1 ≠ 23 := by decide
    rw [hS _ _ (h9 t ht).1, hg _ _ (h9 t ht).2.2.2 (h9 t ht).2.2.1 (h9 t ht).2.1]
    exact r1 t ht i ((hd _ _).mp hi)
  · rw [hl]
    exact r2 t ht i ((hd _ _).mp hi)
  · have h9 : ∀ t ∈ TF, t.2.1 ≠ 25 ∧ t.2.1 ≠ 24 ∧ t.2.1 ≠ 23 := by decide
    rw [hg _ _ (h9 t ht).2.2 (h9 t ht).2.1 (h9 t ht).1]
    exact r3 t ht i ((hd _ _).mp hi)
  · rw [hl]
    exact r4 t ht i ((hd _ _).mp hi)
  · rw [hg 40 _ (by decide) (by decide) (by decide), hg 21 _ (by decide) (by decide) (by decide)]
    exact r7 i ((hd 2 i).mp hi)
  · have h9 : ∀ t ∈ T0, t.1 ≠ 262 := by decide
    rw [hS _ _ (h9 t ht), hm]
    exact r8 t ht
  · rw [hmj]
    exact r9
  · rw [hm]
    exact r10
  · rw [hg 18 _ (by decide) (by decide) (by decide)]
    exact r11 q hq
  · unfold RC
    rw [hS 362 _ (by decide), hm]
    exact r12
  · rw [hg 6 _ (by decide) (by decide) (by decide), hg 7 _ (by decide) (by decide) (by decide), hS 196 _ (by decide)]
    exact r13 i ((hd 0 i).mp hi)
  · have h9 := r14 q ((hd 1 q).mp hq)
    have hq40 : q < 40 := Nat.lt_of_lt_of_le ((hd 1 q).mp hq) h40
    by_cases z : q = r
    · have e25 : gn N 25 q = 0 := by rw [← e, gn_rI, nI_clamp (by omega), if_pos ⟨rfl, z⟩]
      have e24 : gn N 24 q = nI n := by rw [← e, gn_rIn (by decide), gn_rI, nI_clamp (by omega), if_pos ⟨rfl, z⟩]
      have e262 : (si S 262 (nI r) u).1 262 q = u := by rw [s1_si, nI_clamp (by omega), if_pos ⟨rfl, z⟩]
      have e23 : gI N 23 (12 * nI q + 0) = gn M' 23 (12 * r) := by
        rw [gI_n, show (0 : Int32) = nI 0 from rfl, ch_ix (by omega), z, ← e, gn_rIn (by decide), gn_rIn (by decide)]
        rfl
      rw [e262, e24, e25, e23, hu]
      by_cases c : n = 0
      · rw [if_pos c, if_pos (by rw [c]; decide)]
      · rw [if_neg c, if_neg (fun y => by have := (nI_leI (a := n) (b := 0) (by omega) (by omega)).mp y; omega)]
    · have e25 : gn N 25 q = gn M 25 q := by
        rw [← e, gn_rI, nI_clamp (by omega), if_neg (fun y => z y.2), gn_rIn (by decide)]
        exact hW.2.2.1 25 q (Or.inl (by decide))
      have e24 : gn N 24 q = gn M 24 q := by
        rw [← e, gn_rIn (by decide), gn_rI, nI_clamp (by omega), if_neg (fun y => z y.2)]
        exact hW.2.2.1 24 q (Or.inl (by decide))
      have e262 : (si S 262 (nI r) u).1 262 q = S.1 262 q := by rw [s1_si, nI_clamp (by omega), if_neg (fun y => z y.2)]
      rw [e262, e24, e25, h9]
      rcases hO q ((hd 1 q).mp hq) with y | ⟨a, ha, ea⟩
      · rw [if_pos y, if_pos y]
      · have e23 : gI N 23 (12 * nI q + gn M 25 q) = gI M 23 (12 * nI q + gn M 25 q) := by
          rw [gI_n, gI_n, ea, ch_ix (by omega), ← e, gn_rIn (by decide), gn_rIn (by decide)]
          exact hW.2.2.1 23 _ (by omega)
        rw [e23]
  · have h9 := fb_cg (M := M) (M' := N) (q := nI q) (congrFun hm 39) (fun i => hg 40 _ (by decide) (by decide) (by decide)) (fun i => hg 41 _ (by decide) (by decide) (by decide)) (fun i => hg 44 _ (by decide) (by decide) (by decide))
    rw [hS 132 _ (by decide), hS 133 _ (by decide), h9.1, h9.2]
    exact r15 q ((hd 9 q).mp hq)
  · rw [hS 110 _ (by decide), hS 104 _ (by decide), hS 109 _ (by decide), hg 44 _ (by decide) (by decide) (by decide), hg 52 _ (by decide) (by decide) (by decide), hg 49 _ (by decide) (by decide) (by decide), hg 50 _ (by decide) (by decide) (by decide), hl]
    exact r16 i ((hd 2 i).mp hi)
  · rw [hl]
    exact r17 q u' hq hu z hz
end HJ
theorem lays_ok {t : Int64} {r : Nat} (hr : r < 40) {M : MS} (hB : BO M) (h12 : cnt M 3 ≤ 12) (e3 : mI M 3 = nI (cnt M 3)) (hp : P_isPerson (gI M 15 (nI r)) M) : ∃ n M1, W23 r M M1 ∧ n ≤ 12 ∧ (∀ j, j < n → P_isPerson (gn M1 23 (12 * r + j)) M ∧ MB M (gn M1 23 (12 * r + j)) t = if j + 1 < n then gn M1 23 (12 * r + (j + 1)) else -1) ∧ gI M 4 (gI M 15 (nI r)) = (if n = 0 then -1 else gn M1 23 (12 * r)) ∧ f_laysChain (nI r) t M = rI (rI (rI M1 24 (nI r) (nI n)) 25 (nI r) 0) 26 (nI r) (if lg_cmp t 100000 < 0 then -1 else if mI M 10 = gI M 15 (nI r) then -1 else if amg M t (mI M 10) 13 (gI M 4 (gI M 15 (nI r))) = 0 then mI M 10 else -1) := by
  obtain ⟨w, hw, ew⟩ : ∃ w, w < cnt M 3 ∧ gI M 15 (nI r) = nI w := by
    have h9 : P_num (gI M 15 (nI r)) (nI (cnt M 3)) := (num_in (n := cnt M 3) (by omega)).mpr (by rw [← e3]; exact hp)
    exact P_num_nI h9 (by omega)
  have hb : (gI M 4 (gI M 15 (nI r)) = -1 ∧ 1 ≤ 13) ∨ ∃ j, gI M 4 (gI M 15 (nI r)) = nI j ∧ j < cnt M 3 ∧ j + 2 ≤ 13 ∧ 0 + j ≤ 11 := by
    rw [ew, gI_n, nI_clamp (by omega)]
    rcases hB w hw with z | ⟨j, hj, z⟩
    · exact Or.inl ⟨z, by omega⟩
    · exact Or.inr ⟨j, z, by omega, by omega, by omega⟩
  have key := fun h => lc_ok (t := t) hr hB h12 e3 13 0 (gI M 4 (gI M 15 (nI r))) h M hb ⟨rfl, rfl, fun _ _ _ => rfl, fun _ _ => rfl⟩ (by omega)
  unfold f_laysChain
  by_cases c : mI M 10 = gI M 15 (nI r)
  · rw [if_pos c]
    obtain ⟨n, M1, w1, w2, w3, w4, w5, w6, w7⟩ := key 1
    refine ⟨n, M1, w1, w3, fun j hj => w5 j (by omega) hj, ?_, ?_⟩
    · rcases w6 with ⟨z1, z2⟩ | ⟨z1, z2, z3⟩
      · rw [if_pos z2, z1]
      · rw [if_neg (by omega)]; exact z3.symm
    · rw [if_pos c]
      have e : (if (1 : Int32) = 0 ∧ amg M t (mI M 10) 13 (gI M 4 (gI M 15 (nI r))) = 0 then mI M 10 else (-1 : Int32)) = -1 := if_neg (fun z => absurd z.1 (by decide))
      rw [e] at w7
      exact w7
  · rw [if_neg c]
    obtain ⟨n, M1, w1, w2, w3, w4, w5, w6, w7⟩ := key 0
    refine ⟨n, M1, w1, w3, fun j hj => w5 j (by omega) hj, ?_, ?_⟩
    · rcases w6 with ⟨z1, z2⟩ | ⟨z1, z2, z3⟩
      · rw [if_pos z2, z1]
      · rw [if_neg (by omega)]; exact z3.symm
    · rw [if_neg c]
      have e : (if (0 : Int32) = 0 ∧ amg M t (mI M 10) 13 (gI M 4 (gI M 15 (nI r))) = 0 then mI M 10 else (-1 : Int32)) = (if amg M t (mI M 10) 13 (gI M 4 (gI M 15 (nI r))) = 0 then mI M 10 else -1) := by
        by_cases c2 : amg M t (mI M 10) 13 (gI M 4 (gI M 15 (nI r))) = 0
        · rw [if_pos c2, if_pos ⟨rfl, c2⟩]
        · rw [if_neg c2, if_neg (fun z => c2 z.2)]
      rw [e] at w7
      exact w7
theorem lay_ch {t : Int64} {r n : Nat} (hr : r < 40) {M M1 : MS} {c : Int32} (hW : W23 r M M1) (hn : n ≤ 12) (hj : ∀ j, j < n → P_isPerson (gn M1 23 (12 * r + j)) M ∧ MB M (gn M1 23 (12 * r + j)) t = if j + 1 < n then gn M1 23 (12 * r + (j + 1)) else -1) : CH (rI (rI (rI M1 24 (nI r) (nI n)) 25 (nI r) 0) 26 (nI r) c) (nI r) t := by
  refine ⟨n, 0, hn, Nat.zero_le _, ?_, ?_, fun j hlt => ?_⟩
  · rw [gI_rIn rfl, gI_rIn rfl, gI_rIs]
  · rw [gI_rIn rfl, gI_rIs]; rfl
  · have e : ∀ j, j < 12 → gI (rI (rI (rI M1 24 (nI r) (nI n)) 25 (nI r) 0) 26 (nI r) c) 23 (12 * nI r + nI j) = gn M1 23 (12 * r + j) := fun j hj => by
      rw [gI_rIn rfl, gI_rIn rfl, gI_rIn rfl, gI_n, ch_ix (by omega)]
    have e2 : ∀ b, MB (rI (rI (rI M1 24 (nI r) (nI n)) 25 (nI r) 0) 26 (nI r) c) b t = MB M b t := fun b => hW.mb (b := b) (t := t)
    have e3 : mI M1 3 = mI M 3 := congrFun hW.1 3
    have h9 := hj j hlt
    rw [e j (by omega), e2]
    refine ⟨?_, h9.2.trans ?_⟩
    · show P_in _ 0 (mI M1 3 - 1)
      rw [e3]
      exact h9.1
    · by_cases z : j + 1 < n
      · rw [if_pos z, if_pos z, e (j + 1) (by omega)]
      · rw [if_neg z, if_neg z]
theorem xb_01 {M : MS} {t : Int64} {c : Int32} : ∀ (f : Nat) (b : Int32), amg M t c f b = 0 ∨ amg M t c f b = 1
  | 0, _ => Or.inl rfl
  | f + 1, b => by
    unfold amg
    by_cases c1 : b = -1
    · rw [if_pos c1]; exact Or.inl rfl
    · rw [if_neg c1]
      by_cases c2 : b = c
      · rw [if_pos c2]; exact Or.inr rfl
      · rw [if_neg c2]; exact xb_01 f _
theorem si_two {S : CT} {f : Nat} {x v u : Int32} : si (si S f x v) f x u = si S f x u := by
  have e : (si (si S f x v) f x u).1 = (si S f x u).1 := funext fun a => funext fun i => by
    rw [s1_si, s1_si, s1_si]
    by_cases e1 : a = f ∧ i = x.toNatClampNeg
    · rw [if_pos e1, if_pos e1]
    · rw [if_neg e1, if_neg e1, if_neg e1]
  exact congrArg (fun z => ((z, S.2) : CT)) e
section HK
variable {X : CX} {S : CT} {M : MS}
theorem RR.bo3 (h : RR X S M) (hL : LVX X) : cnt M 3 ≤ 12 ∧ mI M 3 = nI (cnt M 3) := by
  have hb := hL.2.2.1
  rw [h.c3 hL]
  exact ⟨hb.1, h.z3.symm⟩
theorem RR.ctl (h : RR X S M) {b : Int32} (hb : P_isPerson b M) : ci S 362 0 = mI M 10 := by
  have h9 : S.1 362 0 = _ := h.2.2.2.2.1.1
  have hne : ¬ mI M 3 = 0 := fun e => by
    have h1 := hb.1
    have h2 : b ≤ mI M 3 - 1 := hb.2
    rw [e] at h2
    exact absurd (Int32.le_trans h1 h2) (by decide)
  rw [if_neg hne] at h9
  exact h9
theorem RR.xb (h : RR X S M) (hL : LVX X) (hB : BO M) {c : Int32} {t : Int64} : ∀ (f : Nat) (b : Int32), (b = -1 ∨ ∃ j, j < cnt M 3 ∧ b = nI j) → ab_run c t X S f b = amg M t c f b
  | 0, _, _ => rfl
  | f + 1, b, hb => by
    unfold ab_run amg
    by_cases c1 : b = -1
    · rw [if_pos c1, if_pos c1]
    · rw [if_neg c1, if_neg c1]
      by_cases c2 : b = c
      · rw [if_pos c2, if_pos c2]
      · rw [if_neg c2, if_neg c2]
        obtain ⟨j, hj, e⟩ := hb.resolve_left c1
        have h3 := h.bo3 hL
        rw [h.boss hL (by rw [e]; exact per_nI hj h3.2 h3.1)]
        refine h.xb hL hB f _ ?_
        rw [e]
        rcases MB_of (t := t) hB hj h3.1 with z | ⟨j2, z1, z2⟩
        · exact Or.inl z
        · exact Or.inr ⟨j2, by omega, z2⟩
theorem req_n {r : Nat} (h40 : cnt M 14 ≤ 40) (h14 : mI M 14 = nI (cnt M 14)) (hr : r < cnt M 14) : P_isRequest (nI r) M := by
  show P_in (nI r) 0 (mI M 14 - 1)
  rw [h14]
  exact (num_in (n := cnt M 14) (by omega)).mp ⟨nI_pos' (by omega), nI_lt hr (by omega)⟩
theorem RR.bo14 (h : RR X S M) (hL : LVX X) : cnt M 14 ≤ 40 ∧ mI M 14 = nI (cnt M 14) := by
  have hb := hL.2.2.1
  rw [h.c14 hL]
  exact ⟨hb.2.2.2.2.1, h.z14.symm⟩
theorem hO_of (h40 : cnt M 14 ≤ 40) (h14 : mI M 14 = nI (cnt M 14)) (hQ : ∀ p, P_isRequest p M → QK M p) {q : Nat} (hq : dm M 1 q) : gn M 24 q ≤ gn M 25 q ∨ ∃ a, a < 12 ∧ gn M 25 q = nI a := by
  obtain ⟨t, n, a, hn, ha, e1, e2, _⟩ := (hQ (nI q) (req_n h40 h14 hq)).2.2.2.2.1
  have hq2 : q < 40 := Nat.lt_of_lt_of_le hq h40
  rw [gI_n, nI_clamp (by omega)] at e1 e2
  by_cases c : a < n
  · exact Or.inr ⟨a, by omega, e2⟩
  · rw [e1, e2]
    exact Or.inl (nI_le (by omega) (by omega))
/-- the chain of a request is laid -/
theorem RR.start (h : RR X S M) (hL : LVX X) (hB : BO M) {p : Int32} {t : Int64} (hp : P_isRequest p M) (ha : P_isPerson (gI M 15 p) M) (hO : ∀ q, dm M 1 q → gn M 24 q ≤ gn M 25 q ∨ ∃ a, a < 12 ∧ gn M 25 q = nI a) (ht : k_total p X S = t) : RR X (k_startChain p t X S) (f_laysChain p t M) ∧ CH (f_laysChain p t M) p t ∧ mI (f_laysChain p t M) = mI M ∧ mJ (f_laysChain p t M) = mJ M ∧ (∀ a i, a ≠ 23 → a ≠ 24 → a ≠ 25 → a ≠ 26 → gn (f_laysChain p t M) a i = gn M a i) ∧ ∀ a i, gl (f_laysChain p t M) a i = gl M a i := by
  have h3 := h.bo3 hL
  have h14 := h.bo14 hL
  have hd := h.d14 hL hp
  have hda := h.d3 hL ha
  have ectl := h.ctl ha
  have e1 : xi X 256 p = gI M 15 p := h.rdF (f := 256) (j := 15) (c := 1) rfl hd
  have e2 : xi X 193 (xi X 256 p) = gI M 4 (gI M 15 p) := by rw [e1]; exact h.rdF (f := 193) (j := 4) (c := 0) rfl hda
  obtain ⟨r, hr, hr40, rfl, e, h4⟩ := h.rq hL hp
  obtain ⟨n, M1, w1, w2, w3, w4, w5⟩ := lays_ok (t := t) (r := r) (by omega) hB h3.1 h3.2 ha
  have hr2 : r < 40 := by omega
  have hch := lay_ch (c := (if lg_cmp t 100000 < 0 then -1 else if mI M 10 = gI M 15 (nI r) then -1 else if amg M t (mI M 10) 13 (gI M 4 (gI M 15 (nI r))) = 0 then mI M 10 else -1)) hr2 w1 w2 w3
  have hlay := h.lay hr2 w2 w1 hO h14.1 w4
  refine ⟨?_, by rw [w5]; exact hch, by rw [w5]; exact w1.1, by rw [w5]; exact w1.2.1, fun a i z1 z2 z3 z4 => ?_, fun a i => by rw [w5]; exact w1.2.2.2 a i⟩
  · have hpI := hlay.pI (f := 263) (j := 26) (x := nI r) (v := (if lg_cmp t 100000 < 0 then -1 else if mI M 10 = gI M 15 (nI r) then -1 else if amg M t (mI M 10) 13 (gI M 4 (gI M 15 (nI r))) = 0 then mI M 10 else -1)) rfl
    rw [w5]
    suffices hs : k_startChain (nI r) t X S = si (si S 262 (nI r) (gI M 4 (gI M 15 (nI r)))) 263 (nI r) (if lg_cmp t 100000 < 0 then -1 else if mI M 10 = gI M 15 (nI r) then -1 else if amg M t (mI M 10) 13 (gI M 4 (gI M 15 (nI r))) = 0 then mI M 10 else -1) by
      rw [hs]; exact hpI
    unfold k_startChain
    rw [e2, e1, ectl]
    by_cases c1 : lg_cmp t 100000 < 0
    · rw [if_pos c1, if_pos c1]
    · rw [if_neg c1, if_neg c1]
      by_cases c2 : mI M 10 = gI M 15 (nI r)
      · rw [if_pos c2, if_pos c2]
      · rw [if_neg c2, if_neg c2]
        have ek : k_isAmongBosses (nI r) (mI M 10) X (si (si S 262 (nI r) (gI M 4 (gI M 15 (nI r)))) 263 (nI r) (-1)) = amg M t (mI M 10) 13 (gI M 4 (gI M 15 (nI r))) := by
          unfold k_isAmongBosses
          rw [kt_cg rfl, kt_cg rfl, ht, ci_sn rfl, ci_ss]
          refine h.xb hL hB 13 _ ?_
          obtain ⟨w, hw, ew⟩ : ∃ w, w < cnt M 3 ∧ gI M 15 (nI r) = nI w := P_num_nI ((num_in (n := cnt M 3) (by omega)).mpr (by rw [← h3.2]; exact ha)) (by omega)
          rw [ew, gI_n, nI_clamp (by omega)]
          rcases hB w hw with z | ⟨j, hj, z⟩
          · exact Or.inl z
          · exact Or.inr ⟨j, by omega, z⟩
        have h01 := ab_01 (p2 := mI M 10) (q := t) (X := X) (S := S) 13 (gI M 4 (gI M 15 (nI r)))
        unfold K_isAmongBosses
        rw [ek]
        have hx : amg M t (mI M 10) 13 (gI M 4 (gI M 15 (nI r))) = 0 ∨ amg M t (mI M 10) 13 (gI M 4 (gI M 15 (nI r))) = 1 := xb_01 _ _
        rcases hx with z | z
        · rw [z, if_neg (by decide), if_pos rfl, si_two]
        · rw [z, if_pos rfl, if_neg (by decide)]
  · rw [w5, gn_rIn z4, gn_rIn z3, gn_rIn z2]
    exact w1.2.2.1 a i (Or.inl z1)
theorem RR.ln0 (h : RR X S M) (hL : LVX X) {p : Int32} (hp : P_isRequest p M) : nS X 29 p = 0 ↔ gI M 18 p ≤ 0 := by
  obtain ⟨r, hr, h40, rfl, e, h4⟩ := h.rq hL hp
  have e1 : nS X 29 (nI r) = nI (xSz X 29 r) := by unfold nS; rw [nI_clamp (by omega)]
  rw [e1, gI_n, nI_clamp (by omega), e]
  constructor
  · intro z; rw [z]; decide
  · intro z
    have := (nI_leI (a := xSz X 29 r) (b := 0) (by omega) (by omega)).mp z
    rw [show xSz X 29 r = 0 by omega]; rfl
theorem RR.smay (h : RR X S M) (hL : LVX X) {p : Int32} (hp : P_isRequest p M) (h1 : P_isCentre (gI M 16 p)) (hY : P_isYear (f_yearNow M)) : (¬ ci S 33 (xi X 257 p) = 0 ∨ (k_total p X S) ≤ k_free (3 * (xi X 257 p) + (k_thisYear X S)) X S) ↔ P_may (gI M 16 p) (f_yearNow M) (f_total p M) M := by
  rw [h.year, h.total hL hp, show xi X 257 p = gI M 16 p from h.rdF (f := 257) (j := 16) (c := 1) rfl (h.d14 hL hp)]
  exact h.may h1 hY
end HK
theorem rI_two {M : MS} {f : Nat} {x v u : Int32} : rI (rI M f x v) f x u = rI M f x u := by
  have e : (rI (rI M f x v) f x u).2.2.1 = (rI M f x u).2.2.1 := funext fun a => funext fun i => by
    have h1 := gn_rI (M := rI M f x v) (j := f) (a := a) (i := i) (x := x) (v := u)
    have h2 := gn_rI (M := M) (j := f) (a := a) (i := i) (x := x) (v := u)
    have h3 := gn_rI (M := M) (j := f) (a := a) (i := i) (x := x) (v := v)
    refine h1.trans (Eq.trans ?_ h2.symm)
    rw [h3]
    by_cases e1 : a = f ∧ i = x.toNatClampNeg
    · rw [if_pos e1, if_pos e1]
    · rw [if_neg e1, if_neg e1, if_neg e1]
  exact congrArg (fun z => ((M.1, M.2.1, z, M.2.2.2) : MS)) e
theorem left17 {M : MS} {p q v : Int32} : f_left p (rI M 17 q v) = f_left p M := by
  unfold f_left
  rw [gI_rIn rfl, gI_rIn rfl, gI_rIn rfl]
theorem qk_0 {M : MS} {p v : Int32} (h : QK M p) : QK (sI M 0 v) p := by
  have et : f_total p (sI M 0 v) = f_total p M := ft_cg (fun x => rfl) (fun x => rfl) (fun x => rfl)
  have ec : ∀ t, CH M p t → CH (sI M 0 v) p t := fun t z => ch_cg (M := M) (M' := sI M 0 v) rfl (fun x => rfl) rfl rfl (fun x => rfl) (fun x => rfl) z
  obtain ⟨h1, h2, h3, h4, ⟨t, h5⟩, h6, h7, h8, h9⟩ := h
  exact ⟨h1, h2, h3, h4, ⟨t, ec t h5⟩, fun z => by rw [et]; exact ec _ (h6 z), h7, h8, h9⟩
theorem RR.send {X : CX} {S : CT} {M M1 M2 M3 : MS} (h : RR X S M) (hL : LVX X) (hB : BO M) {p : Int32} (hp : P_isRequest p M) (hQ : ∀ p, P_isRequest p M → QK M p) (hY : P_isYear (f_yearNow M)) (e1 : M1 = rI M 20 p (f_yearNow M)) (e2 : M2 = f_commits p (f_total p M1) M1) (e3 : M3 = f_laysChain p (f_total p M2) M2) : (k_waitOrApprove p X (si (k_startChain p (k_total p X S) X (k_commit p (k_total p X S) X (si S 260 p (k_thisYear X S)))) 259 p 1)).1 = f_left p M3 ∧ RR X (k_waitOrApprove p X (si (k_startChain p (k_total p X S) X (k_commit p (k_total p X S) X (si S 260 p (k_thisYear X S)))) 259 p 1)).2 (rI M3 17 p (if f_left p M3 = 0 then 2 else 1)) ∧ mI M3 = mI M := by
  have hq := hQ p hp
  have h14 := h.bo14 hL
  have t1 : f_total p M1 = f_total p M := by
    rw [e1]; exact ft_cg (fun x => gI_rIn rfl) (fun x => gI_rIn rfl) (fun x => gI_rIn rfl)
  have t2 : f_total p M2 = f_total p M := by
    rw [e2, ← t1]; exact ft_cg (fun x => rfl) (fun x => rfl) (fun x => rfl)
  rw [h.year, h.total hL hp]
  have r1 := h.pI (f := 260) (j := 20) (x := p) (v := f_yearNow M) rfl
  rw [← e1] at r1
  have g16 : gI M1 16 p = gI M 16 p := by rw [e1]; exact gI_rIn rfl
  have g20 : gI M1 20 p = f_yearNow M := by rw [e1]; exact gI_rIs
  have m1 : mI M1 = mI M := by rw [e1]; rfl
  have hp1 : P_isRequest p M1 := by
    show P_in p 0 (mI M1 14 - 1)
    rw [m1]; exact hp
  have r2 := r1.commits hL (v := f_total p M) hp1 (by rw [g16]; exact hq.1) (by rw [g20]; exact hY)
  rw [← t1, ← e2, t1] at r2
  have m2 : mI M2 = mI M := by rw [e2, ← m1]; rfl
  have n2 : ∀ a i, a ≠ 20 → gn M2 a i = gn M a i := fun a i z => by
    have y : gn M2 a i = gn M1 a i := by rw [e2]; rfl
    rw [y, e1, gn_rIn z]
  have hp2 : P_isRequest p M2 := by
    show P_in p 0 (mI M2 14 - 1)
    rw [m2]; exact hp
  have c3 : cnt M2 3 = cnt M 3 := by unfold cnt; rw [m2]
  have c14 : cnt M2 14 = cnt M 14 := by unfold cnt; rw [m2]
  have r3 := r2.start hL (p := p) (t := f_total p M) (fun i hi => by rw [n2 4 i (by decide)]; exact hB i (c3 ▸ hi)) hp2 (by
    rw [gI_n, n2 15 _ (by decide)]
    show P_in _ 0 (mI M2 3 - 1)
    rw [m2]; exact hq.2.1) (fun q hq => by
    rw [n2 24 q (by decide), n2 25 q (by decide)]
    exact hO_of h14.1 h14.2 hQ ((dm_cg m2 (fun i => n2 18 i (by decide))).mp hq)) (by rw [r2.total hL hp2, t2])
  have e3' : f_laysChain p (f_total p M) M2 = M3 := by rw [e3, t2]
  rw [e3'] at r3
  obtain ⟨r3, ch, m3, mj3, n3, l3⟩ := r3
  have r4 := r3.pI (f := 259) (j := 17) (x := p) (v := 1) rfl
  have t3 : f_total p M3 = f_total p M := by
    rw [← t2]
    exact ft_cg (fun x => n3 28 _ (by decide) (by decide) (by decide) (by decide)) (fun x => n3 29 _ (by decide) (by decide) (by decide) (by decide)) (fun x => n3 18 _ (by decide) (by decide) (by decide) (by decide))
  have t4 : f_total p (rI M3 17 p 1) = f_total p M := by
    rw [← t3]; exact ft_cg (fun x => gI_rIn rfl) (fun x => gI_rIn rfl) (fun x => gI_rIn rfl)
  have hp4 : P_isRequest p (rI M3 17 p 1) := by
    show P_in p 0 (mI M3 14 - 1)
    rw [m3, m2]; exact hp
  have r5 := r4.wait hL hp4 (by
    rw [t4]
    exact ch_cg rfl (fun x => gI_rIn rfl) (gI_rIn rfl) (gI_rIn rfl) (fun x => gI_rIn rfl) (fun x => gI_rIn rfl) ch) gI_rIs
  rw [left17, rI_two] at r5
  exact ⟨r5.1, r5.2, m3.trans m2⟩
theorem eq_send {X : CX} {S : CT} {M : MS} {p1 : Int32} (hX : XOK X) (hL : LVX X) (h : RR X S M) (hQ : ∀ p, P_isRequest p M → QK M p) (hB : BO M) (hY : P_isYear (f_yearNow M)) : EQi X S xcIS (k_send p1 X S) (f_send p1 M) := by
  unfold k_send f_send
  by_cases c1 : P_isRequest p1 M
  · by_cases c2 : (gI M 17 p1) = 0
    · by_cases c3 : (gI M 18 p1) ≤ 0
      · rw [if_pos ((h.n14 hL).mpr c1), if_pos ((eq_keep (h.rdI (f := 259) (j := 17) (c := 1) (x := p1) rfl (h.d14 hL c1))).mpr c2), if_pos ((h.ln0 hL c1).mpr c3), if_pos c1, if_pos c2, if_pos c3]
        exact ⟨mI_sIs.trans xIS_S.symm, h.thr⟩
      · by_cases c4 : P_may (gI M 16 p1) (f_yearNow M) (f_total p1 M) M
        · by_cases c5 : (f_left p1 (f_laysChain p1 (f_total p1 (f_commits p1 (f_total p1 (rI (sI M 0 0) 20 p1 (f_yearNow (sI M 0 0)))) (rI (sI M 0 0) 20 p1 (f_yearNow (sI M 0 0))))) (f_commits p1 (f_total p1 (rI (sI M 0 0) 20 p1 (f_yearNow (sI M 0 0)))) (rI (sI M 0 0) 20 p1 (f_yearNow (sI M 0 0)))))) = 0
          · rw [if_pos ((h.n14 hL).mpr c1), if_pos ((eq_keep (h.rdI (f := 259) (j := 17) (c := 1) (x := p1) rfl (h.d14 hL c1))).mpr c2), if_neg (fun z => c3 ((h.ln0 hL c1).mp z)), if_pos ((h.smay hL c1 (hQ p1 c1).1 hY).mpr c4), if_pos c1, if_pos c2, if_neg c3, if_pos c4, if_pos c5]
            have r := (h.thr (v := 0)).send hL (fun i hi => hB i hi) (p := p1) c1 (fun p hp => qk_0 (hQ p hp)) hY rfl rfl rfl
            rw [if_pos c5] at r
            exact ⟨congrFun r.2.2 0, r.1.trans left17.symm, r.2.1⟩
          · rw [if_pos ((h.n14 hL).mpr c1), if_pos ((eq_keep (h.rdI (f := 259) (j := 17) (c := 1) (x := p1) rfl (h.d14 hL c1))).mpr c2), if_neg (fun z => c3 ((h.ln0 hL c1).mp z)), if_pos ((h.smay hL c1 (hQ p1 c1).1 hY).mpr c4), if_pos c1, if_pos c2, if_neg c3, if_pos c4, if_neg c5]
            have r := (h.thr (v := 0)).send hL (fun i hi => hB i hi) (p := p1) c1 (fun p hp => qk_0 (hQ p hp)) hY rfl rfl rfl
            rw [if_neg c5] at r
            exact ⟨congrFun r.2.2 0, r.1.trans left17.symm, r.2.1⟩
        · rw [if_pos ((h.n14 hL).mpr c1), if_pos ((eq_keep (h.rdI (f := 259) (j := 17) (c := 1) (x := p1) rfl (h.d14 hL c1))).mpr c2), if_neg (fun z => c3 ((h.ln0 hL c1).mp z)), if_neg (fun z => c4 ((h.smay hL c1 (hQ p1 c1).1 hY).mp z)), if_pos c1, if_pos c2, if_neg c3, if_neg c4]
          exact ⟨mI_sIs.trans xIS_S.symm, h.thr⟩
    · rw [if_pos ((h.n14 hL).mpr c1), if_neg (fun z => c2 ((eq_keep (h.rdI (f := 259) (j := 17) (c := 1) (x := p1) rfl (h.d14 hL c1))).mp z)), if_pos c1, if_neg c2]
      exact ⟨mI_sIs.trans xIS_S.symm, h.thr⟩
  · rw [if_neg (fun z => c1 ((h.n14 hL).mp z)), if_neg c1]
    exact ⟨mI_sIs.trans xIS_I.symm, h.thr⟩
