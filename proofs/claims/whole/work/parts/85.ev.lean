section EVL
variable {s : State} {args : Array Value}
theorem kn_ex (hts : ∀ w ∈ TB, w.before args s = true) : ∀ c : Nat, ∃ d : ClassId × (Nat → Nat), ∀ q : vw_C, vwCl[c]? = some q → u_Kn s q.1 q.2.1 q.2.2 d.1 d.2 := fun c => by
  match c with
  | 0 => obtain ⟨a, f, h⟩ := u_known hts i_Jx4a65c (hts _ q_it_Jx4a65c); exact ⟨(a, f), fun q hq => by cases hq; exact h⟩
  | 1 => obtain ⟨a, f, h⟩ := u_known hts i_X0 (hts _ q_it_X0); exact ⟨(a, f), fun q hq => by cases hq; exact h⟩
  | 2 => obtain ⟨a, f, h⟩ := u_known hts i_X1 (hts _ q_it_X1); exact ⟨(a, f), fun q hq => by cases hq; exact h⟩
  | 3 => obtain ⟨a, f, h⟩ := u_known hts i_X2 (hts _ q_it_X2); exact ⟨(a, f), fun q hq => by cases hq; exact h⟩
  | 4 => obtain ⟨a, f, h⟩ := u_known hts i_X3 (hts _ q_it_X3); exact ⟨(a, f), fun q hq => by cases hq; exact h⟩
  | 5 => obtain ⟨a, f, h⟩ := u_known hts i_X4 (hts _ q_it_X4); exact ⟨(a, f), fun q hq => by cases hq; exact h⟩
  | 6 => obtain ⟨a, f, h⟩ := u_known hts i_X5 (hts _ q_it_X5); exact ⟨(a, f), fun q hq => by cases hq; exact h⟩
  | 7 => obtain ⟨a, f, h⟩ := u_known hts i_X6 (hts _ q_it_X6); exact ⟨(a, f), fun q hq => by cases hq; exact h⟩
  | 8 => obtain ⟨a, f, h⟩ := u_known hts i_X7 (hts _ q_it_X7); exact ⟨(a, f), fun q hq => by cases hq; exact h⟩
  | 9 => obtain ⟨a, f, h⟩ := u_known hts i_X8 (hts _ q_it_X8); exact ⟨(a, f), fun q hq => by cases hq; exact h⟩
  | 10 => obtain ⟨a, f, h⟩ := u_known hts i_X9 (hts _ q_it_X9); exact ⟨(a, f), fun q hq => by cases hq; exact h⟩
  | 11 => obtain ⟨a, f, h⟩ := u_known hts i_X10 (hts _ q_it_X10); exact ⟨(a, f), fun q hq => by cases hq; exact h⟩
  | 12 => obtain ⟨a, f, h⟩ := u_known hts i_X11 (hts _ q_it_X11); exact ⟨(a, f), fun q hq => by cases hq; exact h⟩
  | c + 13 =>
    refine ⟨(0, fun _ => 0), fun q hq => ?_⟩
    have h9 : c + 13 < 13 := (List.getElem?_eq_some_iff.mp hq).1
    omega
theorem ar_ex {ty : FieldType} (hp : ∀ C, ty ≠ .object C) (harr : (Cond.arrayClass ty).before args s = true) : ∃ cA : ClassId, ArrOfT s cA ty ∧ va_RA s cA ty := by
  obtain ⟨cA, kA, comp, h1, h2, h3⟩ := Cond.arrayClass_spec harr
  refine ⟨cA, fun n z => ⟨fun k h => (by cases h), kA, h2, comp, h3⟩, ?_⟩
  cases ty with
  | object C => exact absurd rfl (hp C)
  | _ => exact h1
theorem ao_ex {C : String} (h : (Cond.arrayOver (.object C)).before args s = true) : ∃ cA : ClassId, ArrOfT s cA (.object C) ∧ va_RA s cA (.object C) := by
  obtain ⟨comp, cA, kA, h1, _, h3, h4, h5⟩ := Cond.arrayOver_spec h
  exact ⟨cA, fun n z => ⟨fun k h => (by cases h), kA, h3, comp, h4⟩, kA, comp, h3, h4, h1, h5⟩
theorem str_ex {q : Nat × String} (h1 : (Cond.stringRef RX10 q.1 q.2).before args s = true) (h2 : (Cond.exactly (.string RX10 q.1) "java/lang/String").before args s = true) : ∃ a, vk_R RX10 q.1 q.2 a s := by
  obtain ⟨a, _, _, _, e, _⟩ := Cond.exactly_spec h2
  exact ⟨a, vk_R.of h1 e⟩
set_option maxRecDepth 100000 in
theorem m_str : ∀ q ∈ xs_str, Cond.stringRef RX10 q.1 q.2 ∈ lw_tbl := by decide +kernel
set_option maxRecDepth 100000 in
theorem m_cast : ∀ q ∈ xs_cast, Cond.castable q.1 q.2 ∈ lw_tbl := by decide +kernel
set_option maxRecDepth 100000 in
theorem m_nest : ∀ q ∈ xs_nest, Cond.methodLinkNest q.1 q.2.1 q.2.2.1 q.2.2.2 ∈ lw_tbl := by decide +kernel
set_option maxRecDepth 100000 in
theorem m_decl : ∀ x ∈ xs_decl, Cond.declares x ∈ lw_tbl := by decide +kernel
set_option maxRecDepth 100000 in
theorem m_ao : Cond.arrayOver (.object "java/lang/Object") ∈ lw_tbl := by decide +kernel
set_option maxRecDepth 100000 in
theorem m_ex : ∀ q ∈ xs_str, Cond.exactly (.string RX10 q.1) "java/lang/String" ∈ flatC (Jvm.Cond.and given_1 narrow_1) := by decide +kernel
set_option maxRecDepth 100000 in
theorem m_nc : ∀ q ∈ xs_nc, Cond.not (.castable q.1 q.2) ∈ flatC (Jvm.Cond.and given_1 narrow_1) := by decide +kernel
set_option maxRecDepth 100000 in
theorem m_mir : Cond.isRef (.mirror "[Ljava/lang/Object;") ∈ flatC (Jvm.Cond.and given_1 narrow_1) := by decide +kernel
theorem ev_of (hts : ∀ w ∈ lw_tbl, w.before args s = true) (hg : (Jvm.Cond.and given_1 narrow_1).before args s = true) {d : Nat} : ∃ k : KC, EV k s ∧ k.2.2.2.2.2.1 = d := by
  have hT : ∀ w ∈ TB, w.before args s = true := fun w hw => hts w (List.mem_filter.mp hw).1
  have hn := flat_of_before _ hg
  obtain ⟨D, hD⟩ := Classical.skolem.mp (kn_ex hT)
  obtain ⟨cI, hI⟩ := ar_ex (fun C => by intro h; cases h) (hT _ q_ac_int)
  obtain ⟨cJ, hJ⟩ := ar_ex (fun C => by intro h; cases h) (hT _ q_ac_long)
  obtain ⟨cZ, hZ⟩ := ar_ex (fun C => by intro h; cases h) (hT _ q_ac_boolean)
  obtain ⟨cO, hO⟩ := ao_ex (hts _ m_ao)
  obtain ⟨mi, hmi⟩ := va_Mi.of (hn _ m_mir)
  refine ⟨((fun c => (D c).1, fun c => (D c).2), cI, cJ, cZ, cO, d, mi), ⟨⟨fun c q hq => hD c q hq, fun i q hq => ?_⟩, fun q hq => str_ex (hts _ (m_str q hq)) (hn _ (m_ex q hq)), fun q hq => va_Nw.of rfl (hts _ (m_cast q hq)), fun q hq => va_Nw.of rfl (hts _ (m_nest q hq)), fun x hx => va_Nw.of rfl (hts _ (m_decl x hx)), hmi, va_AO.of (hts _ m_ao), fun q hq => va_Nc.of (hn _ (m_nc q hq))⟩, rfl⟩
  match i, hq with
  | 0, hq => cases hq; exact hI
  | 1, hq => cases hq; exact hJ
  | 2, hq => cases hq; exact hZ
  | 3, hq => cases hq; exact hO
  | i + 4, hq =>
    have h9 : i + 4 < 4 := (List.getElem?_eq_some_iff.mp hq).1
    omega
end EVL
