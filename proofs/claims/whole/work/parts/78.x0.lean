/-- the roles of the first objects, in the order in which they are made -/
def RL0 : List (Nat × Nat) := [(11, 0), (20, 0), (21, 0), (22, 0), (23, 0), (24, 0), (25, 0), (26, 0), (27, 0), (40, 0), (41, 0), (1, 0), (28, 0), (7, 0), (38, 0), (7, 1), (7, 2), (31, 0), (1, 1), (28, 1), (7, 3), (38, 1), (7, 4), (7, 5), (1, 2), (28, 2), (7, 6), (38, 2), (7, 7), (7, 8), (1, 3), (28, 3), (7, 9), (38, 3), (7, 10), (7, 11), (1, 4), (28, 4), (7, 12), (38, 4), (7, 13), (7, 14), (1, 5), (28, 5), (7, 15), (38, 5), (7, 16), (7, 17), (5, 0), (32, 0), (5, 1), (5, 2), (9, 0), (33, 0), (9, 1), (9, 2), (9, 3), (9, 4), (9, 5)]
def sz0 (L : Nat) : Nat := match L with
  | 21 => 6
  | 22 => 3
  | 23 => 6
  | 28 => 3
  | _ => 0
def cp0 (L : Nat) : Nat := match L with
  | 21 => 10
  | 22 => 10
  | 23 => 10
  | 28 => 10
  | _ => 0
/-- the class's objects as they start, at these addresses -/
def X0 (qs : List Nat) : CX := (qs, fun a => RL0[qs.idxOf a]?, fun kd i => qs.getD (RL0.idxOf (kd, i)) 0, fun _ => .inr (0, []), fun f i => if f = 288 then nI i else 0, fun _ _ => 0, fun L _ => sz0 L, fun L _ => cp0 L, fun L _ => nI (sz0 L))
theorem rl0_nd : RL0.Nodup := by decide +kernel
theorem rl0_len : RL0.length = 59 := rfl
section X0
variable {qs : List Nat}
theorem gd0 {n : Nat} (h : n < qs.length) : qs.getD n 0 = qs[n] := by simp [List.getD, h]
theorem x0_at (hn : qs.Nodup) (hl : qs.length = 59) {n : Nat} (h : n < 59) : qs.idxOf (qs.getD n 0) = n := by
  have h2 : n < qs.length := by omega
  rw [gd0 h2]
  exact List.Nodup.idxOf_getElem hn n h2
theorem x0_hx (hn : qs.Nodup) (hl : qs.length = 59) : HX (X0 qs) := fun a kd i h => by
  have h1 : RL0[qs.idxOf a]? = some (kd, i) := h
  obtain ⟨h2, h3⟩ := List.getElem?_eq_some_iff.mp h1
  rw [rl0_len] at h2
  have h4 : qs.idxOf a < qs.length := by omega
  have h5 : RL0.idxOf (kd, i) = qs.idxOf a := by
    rw [← h3]
    exact List.Nodup.idxOf_getElem rl0_nd _ _
  refine ⟨?_, List.idxOf_lt_length_iff.mp h4⟩
  show a = qs.getD (RL0.idxOf (kd, i)) 0
  rw [h5, gd0 h4]
  exact (List.getElem_idxOf h4).symm
theorem x0_lv (hn : qs.Nodup) (hl : qs.length = 59) {kd i : Nat} : lv (X0 qs) kd i ↔ (kd, i) ∈ RL0 := by
  refine ⟨fun h => List.mem_of_getElem? h, fun h => ?_⟩
  have h1 : RL0.idxOf (kd, i) < RL0.length := List.idxOf_lt_length_iff.mpr h
  show RL0[qs.idxOf (qs.getD (RL0.idxOf (kd, i)) 0)]? = some (kd, i)
  rw [x0_at hn hl (by rw [rl0_len] at h1; exact h1), List.getElem?_eq_getElem h1]
  exact congrArg some (List.getElem_idxOf h1)
theorem x0_b1 : ∀ r ∈ RL0, lvb (X0 qs) r.1 r.2 := by
  intro r hr
  unfold RL0 at hr
  simp only [List.mem_cons, List.not_mem_nil, or_false] at hr
  rcases hr with rfl | rfl | rfl | rfl | rfl | rfl | rfl | rfl | rfl | rfl | rfl | rfl | rfl | rfl | rfl | rfl | rfl | rfl | rfl | rfl | rfl | rfl | rfl | rfl | rfl | rfl | rfl | rfl | rfl | rfl | rfl | rfl | rfl | rfl | rfl | rfl | rfl | rfl | rfl | rfl | rfl | rfl | rfl | rfl | rfl | rfl | rfl | rfl | rfl | rfl | rfl | rfl | rfl | rfl | rfl | rfl | rfl | rfl | rfl <;> simp [lvb, X0, xSz, xCp, sz0, cp0]
theorem x0_b2 {kd i : Nat} (h : lvb (X0 qs) kd i) : (kd, i) ∈ RL0 := by
  have h1 : ∀ j, j < 6 → (1, j) ∈ RL0 ∧ (28, j) ∈ RL0 ∧ (38, j) ∈ RL0 ∧ (9, j) ∈ RL0 := by decide +kernel
  have h3 : ∀ j, j < 3 → (5, j) ∈ RL0 := by decide +kernel
  have h18 : ∀ j, j < 18 → (7, j) ∈ RL0 := by decide +kernel
  have h0 : (11, 0) ∈ RL0 ∧ (20, 0) ∈ RL0 ∧ (21, 0) ∈ RL0 ∧ (22, 0) ∈ RL0 ∧ (23, 0) ∈ RL0 ∧ (24, 0) ∈ RL0 ∧ (25, 0) ∈ RL0 ∧ (26, 0) ∈ RL0 ∧ (27, 0) ∈ RL0 ∧ (31, 0) ∈ RL0 ∧ (32, 0) ∈ RL0 ∧ (33, 0) ∈ RL0 ∧ (40, 0) ∈ RL0 ∧ (41, 0) ∈ RL0 := ⟨by decide +kernel, by decide +kernel, by decide +kernel, by decide +kernel, by decide +kernel, by decide +kernel, by decide +kernel, by decide +kernel, by decide +kernel, by decide +kernel, by decide +kernel, by decide +kernel, by decide +kernel, by decide +kernel⟩
  unfold lvb at h
  split at h <;> first | exact absurd h id | exact (h1 i h).1 | exact (h1 i h).2.1 | exact (h1 i h).2.2.2 | exact h3 i h | exact h18 i h | exact (h1 i h.1).2.2.1 | exact absurd h (Nat.not_lt_zero _) | exact absurd h.1 (Nat.not_lt_zero _) | exact absurd rfl h.2 | (subst h; simp only [h0]) | (obtain ⟨rfl, -⟩ := h; simp only [h0])
theorem x0_lvx (hn : qs.Nodup) (hl : qs.length = 59) : LVX (X0 qs) := by
  refine ⟨fun kd i => (x0_lv hn hl).trans ⟨fun h => x0_b1 (kd, i) h, fun h => x0_b2 h⟩, fun L i h1 h2 _ => ?_, ⟨Nat.zero_le _, rfl, rfl, rfl, Nat.zero_le _, Nat.zero_le _, Nat.zero_le _, Nat.zero_le _⟩, fun i _ => rfl, fun i hi => absurd hi (Nat.not_lt_zero _)⟩
  show GC (cp0 L)
  unfold cp0 GC
  split <;> simp
theorem x0_lw (hn : qs.Nodup) (hl : qs.length = 59) {L i : Nat} (h1 : 20 ≤ L) (h2 : L < 30) (h : lv (X0 qs) L i) : LW (X0 qs) L i := by
  refine ⟨⟨h1, h2⟩, h, ?_, ?_, fun hc => ?_⟩
  · show sz0 L ≤ cp0 L
    unfold sz0 cp0
    split <;> simp
  · show cp0 L < 2 ^ 30
    unfold cp0
    split <;> simp
  · have hb := ((x0_lvx hn hl).1 L i).mp h
    refine ((x0_lvx hn hl).1 (L + 10) i).mpr ?_
    have hc2 : cp0 L ≠ 0 := hc
    unfold cp0 at hc2
    split at hc2
    · exact ⟨hb, show (10 : Nat) ≠ 0 by decide⟩
    · exact ⟨hb, show (10 : Nat) ≠ 0 by decide⟩
    · exact ⟨hb, show (10 : Nat) ≠ 0 by decide⟩
    · exact ⟨hb, show (10 : Nat) ≠ 0 by decide⟩
    · exact absurd rfl hc2
theorem x0_xok (hn : qs.Nodup) (hl : qs.length = 59) : XOK (X0 qs) := by
  have hv := (x0_lvx hn hl).1
  have z : ∀ {kd : Nat} {x : Int32}, lI (X0 qs) kd x → lvb (X0 qs) kd x.toNatClampNeg := fun {kd x} h => (hv _ _).mp h.lv
  refine ⟨x0_hx hn hl, ⟨(hv 11 0).mpr rfl, (hv 40 0).mpr rfl, (hv 41 0).mpr rfl⟩, fun Li h1 h2 => x0_lw hn hl h1 (by omega) ((hv Li 0).mpr ?_), ⟨fun x hx => x0_lw hn hl (by decide) (by decide) ((hv 28 _).mpr (show x.toNatClampNeg < 6 from z hx)), fun x hx => absurd (z hx) (Nat.not_lt_zero _)⟩, ?_, fun x hx => absurd (z hx) (Nat.not_lt_zero _), fun x hx => absurd (z hx) (Nat.not_lt_zero _), fun x hx => absurd (z hx) (Nat.not_lt_zero _), fun x hx => absurd (z hx) (Nat.not_lt_zero _)⟩
  · match Li, h1, h2 with
    | 20, _, _ => exact rfl
    | 21, _, _ => exact rfl
    | 22, _, _ => exact rfl
    | 23, _, _ => exact rfl
    | 24, _, _ => exact rfl
    | 25, _, _ => exact rfl
    | 26, _, _ => exact rfl
    | 27, _, _ => exact rfl
    | n + 28, _, h => exact absurd h (by omega)
  · intro Li n q hw hq
    have hb := (hv Li n).mp hw.2.1
    have hq2 : q < sz0 Li := hq
    unfold sz0 at hq2
    split at hq2
    · refine ⟨by show (if _ then _ else _) < _; rw [if_pos (by decide)]; omega, (hv _ _).mpr ?_⟩
      show eI 21 n q < 6
      exact (show eI 21 n q = q from if_pos (by decide)) ▸ hq2
    · refine ⟨by show (if _ then _ else _) < _; rw [if_pos (by decide)]; omega, (hv _ _).mpr ?_⟩
      exact (show eI 22 n q = q from if_pos (by decide)) ▸ hq2
    · refine ⟨by show (if _ then _ else _) < _; rw [if_pos (by decide)]; omega, (hv _ _).mpr ?_⟩
      exact (show eI 23 n q = q from if_pos (by decide)) ▸ hq2
    · have hb2 : n < 6 := hb
      have e : eI 28 n q = 3 * n + q := (if_neg (by decide)).trans (if_pos rfl)
      rw [e]
      refine ⟨by omega, (hv _ _).mpr (show 3 * n + q < 18 by omega)⟩
    · exact absurd hq2 (Nat.not_lt_zero _)
theorem x0_in (hn : qs.Nodup) (hl : qs.length = 59) : IN (X0 qs) sZ mZ3 := ⟨x0_xok hn hl, x0_lvx hn hl, rr_start (fun i _ => rfl) ⟨rfl, rfl, rfl, rfl, rfl⟩, mv_start⟩
end X0
