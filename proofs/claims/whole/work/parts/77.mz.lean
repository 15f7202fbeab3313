theorem mz_I {j : Nat} (h : j ≠ 37) (h2 : j ≠ 38) : mI mZ3 j = 0 := by
  show (if j = 37 then (20 : Int32) else if j = 38 then 100 else 0) = 0
  rw [if_neg h, if_neg h2]
theorem mz_c {j : Nat} (h : j ≠ 37) (h2 : j ≠ 38) : cnt mZ3 j = 0 := by
  unfold cnt
  rw [mz_I h h2]
  rfl
theorem mz_n {j i : Nat} (h : j ≠ 36) : gn mZ3 j i = 0 := by
  unfold gn mZ3 rI
  simp [h, mZ]
theorem mz_l {j i : Nat} : gl mZ3 j i = 0 := rfl
theorem mv_start : MV mZ3 := by
  have c3 := mz_c (j := 3) (by decide) (by decide)
  have c14 := mz_c (j := 14) (by decide) (by decide)
  have c39 := mz_c (j := 39) (by decide) (by decide)
  have c57 := mz_c (j := 57) (by decide) (by decide)
  have c59 := mz_c (j := 59) (by decide) (by decide)
  have n := fun {j i : Nat} (h : j ≠ 36) => mz_n (j := j) (i := i) h
  refine ⟨⟨0, by decide, rfl⟩, ⟨⟨by omega, by rw [c3]; rfl⟩, fun _ => rfl, fun z => absurd rfl z, ?_, ?_, fun i _ => ⟨n (by decide), n (by decide), n (by decide)⟩⟩, fun i _ => ⟨rfl, rfl⟩, ⟨fun i _ => ⟨Or.inl (n (by decide)), ?_, ?_⟩, fun i _ => ?_⟩, ⟨⟨by omega, by rw [c59]; rfl⟩, fun i hi => absurd hi (by omega), fun i _ => n (by decide)⟩, ⟨by omega, by rw [c57]; rfl⟩, ⟨⟨by omega, by rw [c14]; rfl⟩, fun r hr => absurd hr (by omega), fun i _ => ⟨⟨n (by decide), n (by decide), n (by decide), n (by decide)⟩, rfl, rfl⟩⟩, ⟨fun q hq => ?_, fun q _ => n (by decide)⟩, ⟨⟨by omega, by rw [c39]; rfl⟩, fun i hi => absurd hi (by omega), fun i _ => ⟨⟨n (by decide), n (by decide), n (by decide), n (by decide)⟩, rfl, rfl, rfl, rfl⟩, ?_⟩⟩
  · exact fun i hi => absurd hi (by omega)
  · exact fun b hb => absurd hb (by rintro ⟨h1, h2⟩; rw [mz_I (by decide) (by decide)] at h2; exact absurd (Int32.le_trans h1 h2) (by decide))
  · rw [n (by decide)]; decide
  · rw [n (by decide)]; decide
  · rw [n (by decide)]; decide
  · exact absurd hq.1 (by omega)
  · exact fun i hi => absurd hi (by omega)
/-- the class's numbers as they start -/
def sZ : CT := (fun f _ => if f = 160 then 1000 else if f = 362 then -1 else if f = 365 then 20 else if f = 366 then 100 else 0, fun _ _ => 0)
theorem sz_0 {f i : Nat} (h : f ≠ 160) (h2 : f ≠ 362) (h3 : f ≠ 365) (h4 : f ≠ 366) : sZ.1 f i = 0 := by
  show (if f = 160 then (1000 : Int32) else if f = 362 then -1 else if f = 365 then 20 else if f = 366 then 100 else 0) = 0
  rw [if_neg h, if_neg h2, if_neg h3, if_neg h4]
theorem mz_36 {i : Nat} (h : i < 3) : gn mZ3 36 i = 1000 := by
  match i, h with
  | 0, _ => rfl
  | 1, _ => rfl
  | 2, _ => rfl
set_option maxHeartbeats 4000000 in
theorem rr_start {X : CX} (h1 : ∀ i, i < 6 → xFi X 288 i = nI i) (h2 : xSz X 20 0 = 0 ∧ xSz X 24 0 = 0 ∧ xSz X 25 0 = 0 ∧ xSz X 26 0 = 0 ∧ xSz X 27 0 = 0) : RR X sZ mZ3 := by
  have c3 := mz_c (j := 3) (by decide) (by decide)
  have c14 := mz_c (j := 14) (by decide) (by decide)
  have c39 := mz_c (j := 39) (by decide) (by decide)
  have c57 := mz_c (j := 57) (by decide) (by decide)
  have c59 := mz_c (j := 59) (by decide) (by decide)
  have d0 : ∀ i, ¬ dm mZ3 0 i := fun i (z : i < cnt mZ3 3) => by omega
  have d1 : ∀ i, ¬ dm mZ3 1 i := fun i (z : i < cnt mZ3 14) => by omega
  have d2 : ∀ i, ¬ dm mZ3 2 i := fun i (z : i < cnt mZ3 39) => by omega
  have d3 : ∀ i, ¬ dm mZ3 3 i := fun i (z : i < cnt mZ3 57) => by omega
  have d4 : ∀ i, ¬ dm mZ3 4 i := fun i (z : i < cnt mZ3 59) => by omega
  have d9 : ∀ i, ¬ dm mZ3 9 i := fun i z => by have := z.1; omega
  obtain ⟨s0, s4, s5, s6, s7⟩ := h2
  have n := fun {j i : Nat} (h : j ≠ 36) => mz_n (j := j) (i := i) h
  refine ⟨⟨?_, fun t ht i hi => rfl⟩, ⟨?_, ?_, fun i hi => absurd hi (d0 i), h1, fun i hi => absurd hi (d2 i)⟩, ⟨?_, rfl⟩, ⟨⟨by rw [s0]; rfl, by rw [s4]; rfl, by rw [s5]; rfl, by rw [s6]; rfl, by rw [s7]; rfl⟩, fun r hr => absurd hr (by omega)⟩, ⟨rfl, fun i hi => absurd hi (d0 i)⟩, fun i hi => absurd hi (d1 i), fun i hi => absurd hi (d9 i), fun i hi => absurd hi (d2 i), fun q u _ _ z _ => rfl⟩
  · intro t ht i hi
    unfold TI at ht
    simp only [List.mem_cons, List.not_mem_nil, or_false] at ht
    rcases ht with rfl | rfl | rfl | rfl | rfl | rfl | rfl | rfl | rfl | rfl | rfl | rfl | rfl | rfl | rfl | rfl | rfl | rfl | rfl | rfl <;> first | exact absurd hi (d0 i) | exact absurd hi (d1 i) | exact absurd hi (d2 i) | exact absurd hi (d4 i) | exact absurd hi (d9 i) | exact (mz_36 hi).symm | exact (sz_0 (by decide) (by decide) (by decide) (by decide)).trans (n (by decide)).symm
  · intro t ht i hi
    unfold TF at ht
    simp only [List.mem_cons, List.not_mem_nil, or_false] at ht
    rcases ht with rfl | rfl | rfl | rfl | rfl | rfl | rfl | rfl | rfl | rfl | rfl <;> first | exact absurd hi (d0 i) | exact absurd hi (d1 i) | exact absurd hi (d2 i) | exact absurd hi (d4 i) | exact absurd hi (d9 i)
  · intro t ht i hi
    unfold TG at ht
    simp only [List.mem_cons, List.not_mem_nil, or_false] at ht
    rcases ht with rfl | rfl
    · exact absurd hi (d2 i)
    · exact absurd hi (d3 i)
  · intro t ht
    unfold T0 at ht
    simp only [List.mem_cons, List.not_mem_nil, or_false] at ht
    rcases ht with rfl | rfl | rfl | rfl | rfl | rfl <;> rfl
