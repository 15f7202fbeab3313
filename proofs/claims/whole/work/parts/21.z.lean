section CZ
variable {p : Program} {l : Launch} {e : Env} {R : Room} {s : State} {m : MethodId} {args : Array Value} {below : List Frame} {meth : Method} {c : Code}
variable {k : KC} {A : Nat → Prop} {nL : Nat} {Q : State → Prop} {bc bs pc : Nat} {L : List (Option Value)} {st : List Value} {h h1 : Wd} {own : String} {cc : ByteArray} {ret : Option FieldType} {X : CX} {S : CT}
theorem z_aload0 (G : GX p l R s m args meth c k A own cc nL ret) {t : List (Option Value)} {v : Value} (hv : v = .null ∨ ∃ a, v = .ref a) (d : decode cc pc = .ok (.aload_n 0, 1)) (kk : Wx p l e R s m args below meth c k A nL Q bc bs (pc + 1) (some v :: t) (v :: st) h) : Wx p l e R s m args below meth c k A nL Q bc bs pc (some v :: t) st h := by
  rcases hv with rfl | ⟨a, rfl⟩
  · exact x_aloadN0 G d kk
  · exact x_aload0 G d kk
theorem z_astore0 (G : GX p l R s m args meth c k A own cc nL ret) {o : Option Value} {t : List (Option Value)} {v : Value} (hv : v = .null ∨ ∃ a, v = .ref a) (d : decode cc pc = .ok (.astore_n 0, 1)) (hn : 0 < nL) (kk : Wx p l e R s m args below meth c k A nL Q bc bs (pc + 1) (some v :: t) st h) : Wx p l e R s m args below meth c k A nL Q bc bs pc (o :: t) (v :: st) h := by
  rcases hv with rfl | ⟨a, rfl⟩
  · exact x_astoreN0 G d hn kk
  · exact x_astore0 G d hn kk
theorem z_aload1 (G : GX p l R s m args meth c k A own cc nL ret) {a0 : Option Value} {t : List (Option Value)} {v : Value} (hv : v = .null ∨ ∃ a, v = .ref a) (d : decode cc pc = .ok (.aload_n 1, 1)) (kk : Wx p l e R s m args below meth c k A nL Q bc bs (pc + 1) (a0 :: some v :: t) (v :: st) h) : Wx p l e R s m args below meth c k A nL Q bc bs pc (a0 :: some v :: t) st h := by
  rcases hv with rfl | ⟨a, rfl⟩
  · exact x_aloadN1 G d kk
  · exact x_aload1 G d kk
theorem z_astore1 (G : GX p l R s m args meth c k A own cc nL ret) {a0 : Option Value} {o : Option Value} {t : List (Option Value)} {v : Value} (hv : v = .null ∨ ∃ a, v = .ref a) (d : decode cc pc = .ok (.astore_n 1, 1)) (hn : 1 < nL) (hc : lp_c2 a0 = false) (kk : Wx p l e R s m args below meth c k A nL Q bc bs (pc + 1) (a0 :: some v :: t) st h) : Wx p l e R s m args below meth c k A nL Q bc bs pc (a0 :: o :: t) (v :: st) h := by
  rcases hv with rfl | ⟨a, rfl⟩
  · exact x_astoreN1 G d hn hc kk
  · exact x_astore1 G d hn hc kk
theorem z_aload2 (G : GX p l R s m args meth c k A own cc nL ret) {a0 a1 : Option Value} {t : List (Option Value)} {v : Value} (hv : v = .null ∨ ∃ a, v = .ref a) (d : decode cc pc = .ok (.aload_n 2, 1)) (kk : Wx p l e R s m args below meth c k A nL Q bc bs (pc + 1) (a0 :: a1 :: some v :: t) (v :: st) h) : Wx p l e R s m args below meth c k A nL Q bc bs pc (a0 :: a1 :: some v :: t) st h := by
  rcases hv with rfl | ⟨a, rfl⟩
  · exact x_aloadN2 G d kk
  · exact x_aload2 G d kk
theorem z_astore2 (G : GX p l R s m args meth c k A own cc nL ret) {a0 a1 : Option Value} {o : Option Value} {t : List (Option Value)} {v : Value} (hv : v = .null ∨ ∃ a, v = .ref a) (d : decode cc pc = .ok (.astore_n 2, 1)) (hn : 2 < nL) (hc : lp_c2 a1 = false) (kk : Wx p l e R s m args below meth c k A nL Q bc bs (pc + 1) (a0 :: a1 :: some v :: t) st h) : Wx p l e R s m args below meth c k A nL Q bc bs pc (a0 :: a1 :: o :: t) (v :: st) h := by
  rcases hv with rfl | ⟨a, rfl⟩
  · exact x_astoreN2 G d hn hc kk
  · exact x_astore2 G d hn hc kk
theorem z_aload3 (G : GX p l R s m args meth c k A own cc nL ret) {a0 a1 a2 : Option Value} {t : List (Option Value)} {v : Value} (hv : v = .null ∨ ∃ a, v = .ref a) (d : decode cc pc = .ok (.aload_n 3, 1)) (kk : Wx p l e R s m args below meth c k A nL Q bc bs (pc + 1) (a0 :: a1 :: a2 :: some v :: t) (v :: st) h) : Wx p l e R s m args below meth c k A nL Q bc bs pc (a0 :: a1 :: a2 :: some v :: t) st h := by
  rcases hv with rfl | ⟨a, rfl⟩
  · exact x_aloadN3 G d kk
  · exact x_aload3 G d kk
theorem z_astore3 (G : GX p l R s m args meth c k A own cc nL ret) {a0 a1 a2 : Option Value} {o : Option Value} {t : List (Option Value)} {v : Value} (hv : v = .null ∨ ∃ a, v = .ref a) (d : decode cc pc = .ok (.astore_n 3, 1)) (hn : 3 < nL) (hc : lp_c2 a2 = false) (kk : Wx p l e R s m args below meth c k A nL Q bc bs (pc + 1) (a0 :: a1 :: a2 :: some v :: t) st h) : Wx p l e R s m args below meth c k A nL Q bc bs pc (a0 :: a1 :: a2 :: o :: t) (v :: st) h := by
  rcases hv with rfl | ⟨a, rfl⟩
  · exact x_astoreN3 G d hn hc kk
  · exact x_astore3 G d hn hc kk
theorem z_aload4 (G : GX p l R s m args meth c k A own cc nL ret) {a0 a1 a2 a3 : Option Value} {t : List (Option Value)} {v : Value} (hv : v = .null ∨ ∃ a, v = .ref a) (d : decode cc pc = .ok (.aload 4, 2)) (kk : Wx p l e R s m args below meth c k A nL Q bc bs (pc + 2) (a0 :: a1 :: a2 :: a3 :: some v :: t) (v :: st) h) : Wx p l e R s m args below meth c k A nL Q bc bs pc (a0 :: a1 :: a2 :: a3 :: some v :: t) st h := by
  rcases hv with rfl | ⟨a, rfl⟩
  · exact x_aloadN4 G d kk
  · exact x_aload4 G d kk
theorem z_astore4 (G : GX p l R s m args meth c k A own cc nL ret) {a0 a1 a2 a3 : Option Value} {o : Option Value} {t : List (Option Value)} {v : Value} (hv : v = .null ∨ ∃ a, v = .ref a) (d : decode cc pc = .ok (.astore 4, 2)) (hn : 4 < nL) (hc : lp_c2 a3 = false) (kk : Wx p l e R s m args below meth c k A nL Q bc bs (pc + 2) (a0 :: a1 :: a2 :: a3 :: some v :: t) st h) : Wx p l e R s m args below meth c k A nL Q bc bs pc (a0 :: a1 :: a2 :: a3 :: o :: t) (v :: st) h := by
  rcases hv with rfl | ⟨a, rfl⟩
  · exact x_astoreN4 G d hn hc kk
  · exact x_astore4 G d hn hc kk
theorem z_aload5 (G : GX p l R s m args meth c k A own cc nL ret) {a0 a1 a2 a3 a4 : Option Value} {t : List (Option Value)} {v : Value} (hv : v = .null ∨ ∃ a, v = .ref a) (d : decode cc pc = .ok (.aload 5, 2)) (kk : Wx p l e R s m args below meth c k A nL Q bc bs (pc + 2) (a0 :: a1 :: a2 :: a3 :: a4 :: some v :: t) (v :: st) h) : Wx p l e R s m args below meth c k A nL Q bc bs pc (a0 :: a1 :: a2 :: a3 :: a4 :: some v :: t) st h := by
  rcases hv with rfl | ⟨a, rfl⟩
  · exact x_aloadN5 G d kk
  · exact x_aload5 G d kk
theorem z_astore5 (G : GX p l R s m args meth c k A own cc nL ret) {a0 a1 a2 a3 a4 : Option Value} {o : Option Value} {t : List (Option Value)} {v : Value} (hv : v = .null ∨ ∃ a, v = .ref a) (d : decode cc pc = .ok (.astore 5, 2)) (hn : 5 < nL) (hc : lp_c2 a4 = false) (kk : Wx p l e R s m args below meth c k A nL Q bc bs (pc + 2) (a0 :: a1 :: a2 :: a3 :: a4 :: some v :: t) st h) : Wx p l e R s m args below meth c k A nL Q bc bs pc (a0 :: a1 :: a2 :: a3 :: a4 :: o :: t) (v :: st) h := by
  rcases hv with rfl | ⟨a, rfl⟩
  · exact x_astoreN5 G d hn hc kk
  · exact x_astore5 G d hn hc kk
theorem z_aload6 (G : GX p l R s m args meth c k A own cc nL ret) {a0 a1 a2 a3 a4 a5 : Option Value} {t : List (Option Value)} {v : Value} (hv : v = .null ∨ ∃ a, v = .ref a) (d : decode cc pc = .ok (.aload 6, 2)) (kk : Wx p l e R s m args below meth c k A nL Q bc bs (pc + 2) (a0 :: a1 :: a2 :: a3 :: a4 :: a5 :: some v :: t) (v :: st) h) : Wx p l e R s m args below meth c k A nL Q bc bs pc (a0 :: a1 :: a2 :: a3 :: a4 :: a5 :: some v :: t) st h := by
  rcases hv with rfl | ⟨a, rfl⟩
  · exact x_aloadN6 G d kk
  · exact x_aload6 G d kk
theorem z_astore6 (G : GX p l R s m args meth c k A own cc nL ret) {a0 a1 a2 a3 a4 a5 : Option Value} {o : Option Value} {t : List (Option Value)} {v : Value} (hv : v = .null ∨ ∃ a, v = .ref a) (d : decode cc pc = .ok (.astore 6, 2)) (hn : 6 < nL) (hc : lp_c2 a5 = false) (kk : Wx p l e R s m args below meth c k A nL Q bc bs (pc + 2) (a0 :: a1 :: a2 :: a3 :: a4 :: a5 :: some v :: t) st h) : Wx p l e R s m args below meth c k A nL Q bc bs pc (a0 :: a1 :: a2 :: a3 :: a4 :: a5 :: o :: t) (v :: st) h := by
  rcases hv with rfl | ⟨a, rfl⟩
  · exact x_astoreN6 G d hn hc kk
  · exact x_astore6 G d hn hc kk
theorem z_aload7 (G : GX p l R s m args meth c k A own cc nL ret) {a0 a1 a2 a3 a4 a5 a6 : Option Value} {t : List (Option Value)} {v : Value} (hv : v = .null ∨ ∃ a, v = .ref a) (d : decode cc pc = .ok (.aload 7, 2)) (kk : Wx p l e R s m args below meth c k A nL Q bc bs (pc + 2) (a0 :: a1 :: a2 :: a3 :: a4 :: a5 :: a6 :: some v :: t) (v :: st) h) : Wx p l e R s m args below meth c k A nL Q bc bs pc (a0 :: a1 :: a2 :: a3 :: a4 :: a5 :: a6 :: some v :: t) st h := by
  rcases hv with rfl | ⟨a, rfl⟩
  · exact x_aloadN7 G d kk
  · exact x_aload7 G d kk
theorem z_astore7 (G : GX p l R s m args meth c k A own cc nL ret) {a0 a1 a2 a3 a4 a5 a6 : Option Value} {o : Option Value} {t : List (Option Value)} {v : Value} (hv : v = .null ∨ ∃ a, v = .ref a) (d : decode cc pc = .ok (.astore 7, 2)) (hn : 7 < nL) (hc : lp_c2 a6 = false) (kk : Wx p l e R s m args below meth c k A nL Q bc bs (pc + 2) (a0 :: a1 :: a2 :: a3 :: a4 :: a5 :: a6 :: some v :: t) st h) : Wx p l e R s m args below meth c k A nL Q bc bs pc (a0 :: a1 :: a2 :: a3 :: a4 :: a5 :: a6 :: o :: t) (v :: st) h := by
  rcases hv with rfl | ⟨a, rfl⟩
  · exact x_astoreN7 G d hn hc kk
  · exact x_astore7 G d hn hc kk
theorem z_aload8 (G : GX p l R s m args meth c k A own cc nL ret) {a0 a1 a2 a3 a4 a5 a6 a7 : Option Value} {t : List (Option Value)} {v : Value} (hv : v = .null ∨ ∃ a, v = .ref a) (d : decode cc pc = .ok (.aload 8, 2)) (kk : Wx p l e R s m args below meth c k A nL Q bc bs (pc + 2) (a0 :: a1 :: a2 :: a3 :: a4 :: a5 :: a6 :: a7 :: some v :: t) (v :: st) h) : Wx p l e R s m args below meth c k A nL Q bc bs pc (a0 :: a1 :: a2 :: a3 :: a4 :: a5 :: a6 :: a7 :: some v :: t) st h := by
  rcases hv with rfl | ⟨a, rfl⟩
  · exact x_aloadN8 G d kk
  · exact x_aload8 G d kk
theorem z_astore8 (G : GX p l R s m args meth c k A own cc nL ret) {a0 a1 a2 a3 a4 a5 a6 a7 : Option Value} {o : Option Value} {t : List (Option Value)} {v : Value} (hv : v = .null ∨ ∃ a, v = .ref a) (d : decode cc pc = .ok (.astore 8, 2)) (hn : 8 < nL) (hc : lp_c2 a7 = false) (kk : Wx p l e R s m args below meth c k A nL Q bc bs (pc + 2) (a0 :: a1 :: a2 :: a3 :: a4 :: a5 :: a6 :: a7 :: some v :: t) st h) : Wx p l e R s m args below meth c k A nL Q bc bs pc (a0 :: a1 :: a2 :: a3 :: a4 :: a5 :: a6 :: a7 :: o :: t) (v :: st) h := by
  rcases hv with rfl | ⟨a, rfl⟩
  · exact x_astoreN8 G d hn hc kk
  · exact x_astore8 G d hn hc kk
theorem z_aload9 (G : GX p l R s m args meth c k A own cc nL ret) {a0 a1 a2 a3 a4 a5 a6 a7 a8 : Option Value} {t : List (Option Value)} {v : Value} (hv : v = .null ∨ ∃ a, v = .ref a) (d : decode cc pc = .ok (.aload 9, 2)) (kk : Wx p l e R s m args below meth c k A nL Q bc bs (pc + 2) (a0 :: a1 :: a2 :: a3 :: a4 :: a5 :: a6 :: a7 :: a8 :: some v :: t) (v :: st) h) : Wx p l e R s m args below meth c k A nL Q bc bs pc (a0 :: a1 :: a2 :: a3 :: a4 :: a5 :: a6 :: a7 :: a8 :: some v :: t) st h := by
  rcases hv with rfl | ⟨a, rfl⟩
  · exact x_aloadN9 G d kk
  · exact x_aload9 G d kk
theorem z_astore9 (G : GX p l R s m args meth c k A own cc nL ret) {a0 a1 a2 a3 a4 a5 a6 a7 a8 : Option Value} {o : Option Value} {t : List (Option Value)} {v : Value} (hv : v = .null ∨ ∃ a, v = .ref a) (d : decode cc pc = .ok (.astore 9, 2)) (hn : 9 < nL) (hc : lp_c2 a8 = false) (kk : Wx p l e R s m args below meth c k A nL Q bc bs (pc + 2) (a0 :: a1 :: a2 :: a3 :: a4 :: a5 :: a6 :: a7 :: a8 :: some v :: t) st h) : Wx p l e R s m args below meth c k A nL Q bc bs pc (a0 :: a1 :: a2 :: a3 :: a4 :: a5 :: a6 :: a7 :: a8 :: o :: t) (v :: st) h := by
  rcases hv with rfl | ⟨a, rfl⟩
  · exact x_astoreN9 G d hn hc kk
  · exact x_astore9 G d hn hc kk
theorem z_aload10 (G : GX p l R s m args meth c k A own cc nL ret) {a0 a1 a2 a3 a4 a5 a6 a7 a8 a9 : Option Value} {t : List (Option Value)} {v : Value} (hv : v = .null ∨ ∃ a, v = .ref a) (d : decode cc pc = .ok (.aload 10, 2)) (kk : Wx p l e R s m args below meth c k A nL Q bc bs (pc + 2) (a0 :: a1 :: a2 :: a3 :: a4 :: a5 :: a6 :: a7 :: a8 :: a9 :: some v :: t) (v :: st) h) : Wx p l e R s m args below meth c k A nL Q bc bs pc (a0 :: a1 :: a2 :: a3 :: a4 :: a5 :: a6 :: a7 :: a8 :: a9 :: some v :: t) st h := by
  rcases hv with rfl | ⟨a, rfl⟩
  · exact x_aloadN10 G d kk
  · exact x_aload10 G d kk
theorem z_astore10 (G : GX p l R s m args meth c k A own cc nL ret) {a0 a1 a2 a3 a4 a5 a6 a7 a8 a9 : Option Value} {o : Option Value} {t : List (Option Value)} {v : Value} (hv : v = .null ∨ ∃ a, v = .ref a) (d : decode cc pc = .ok (.astore 10, 2)) (hn : 10 < nL) (hc : lp_c2 a9 = false) (kk : Wx p l e R s m args below meth c k A nL Q bc bs (pc + 2) (a0 :: a1 :: a2 :: a3 :: a4 :: a5 :: a6 :: a7 :: a8 :: a9 :: some v :: t) st h) : Wx p l e R s m args below meth c k A nL Q bc bs pc (a0 :: a1 :: a2 :: a3 :: a4 :: a5 :: a6 :: a7 :: a8 :: a9 :: o :: t) (v :: st) h := by
  rcases hv with rfl | ⟨a, rfl⟩
  · exact x_astoreN10 G d hn hc kk
  · exact x_astore10 G d hn hc kk
theorem z_aload11 (G : GX p l R s m args meth c k A own cc nL ret) {a0 a1 a2 a3 a4 a5 a6 a7 a8 a9 a10 : Option Value} {t : List (Option Value)} {v : Value} (hv : v = .null ∨ ∃ a, v = .ref a) (d : decode cc pc = .ok (.aload 11, 2)) (kk : Wx p l e R s m args below meth c k A nL Q bc bs (pc + 2) (a0 :: a1 :: a2 :: a3 :: a4 :: a5 :: a6 :: a7 :: a8 :: a9 :: a10 :: some v :: t) (v :: st) h) : Wx p l e R s m args below meth c k A nL Q bc bs pc (a0 :: a1 :: a2 :: a3 :: a4 :: a5 :: a6 :: a7 :: a8 :: a9 :: a10 :: some v :: t) st h := by
  rcases hv with rfl | ⟨a, rfl⟩
  · exact x_aloadN11 G d kk
  · exact x_aload11 G d kk
theorem z_astore11 (G : GX p l R s m args meth c k A own cc nL ret) {a0 a1 a2 a3 a4 a5 a6 a7 a8 a9 a10 : Option Value} {o : Option Value} {t : List (Option Value)} {v : Value} (hv : v = .null ∨ ∃ a, v = .ref a) (d : decode cc pc = .ok (.astore 11, 2)) (hn : 11 < nL) (hc : lp_c2 a10 = false) (kk : Wx p l e R s m args below meth c k A nL Q bc bs (pc + 2) (a0 :: a1 :: a2 :: a3 :: a4 :: a5 :: a6 :: a7 :: a8 :: a9 :: a10 :: some v :: t) st h) : Wx p l e R s m args below meth c k A nL Q bc bs pc (a0 :: a1 :: a2 :: a3 :: a4 :: a5 :: a6 :: a7 :: a8 :: a9 :: a10 :: o :: t) (v :: st) h := by
  rcases hv with rfl | ⟨a, rfl⟩
  · exact x_astoreN11 G d hn hc kk
  · exact x_astore11 G d hn hc kk
theorem z_aload12 (G : GX p l R s m args meth c k A own cc nL ret) {a0 a1 a2 a3 a4 a5 a6 a7 a8 a9 a10 a11 : Option Value} {t : List (Option Value)} {v : Value} (hv : v = .null ∨ ∃ a, v = .ref a) (d : decode cc pc = .ok (.aload 12, 2)) (kk : Wx p l e R s m args below meth c k A nL Q bc bs (pc + 2) (a0 :: a1 :: a2 :: a3 :: a4 :: a5 :: a6 :: a7 :: a8 :: a9 :: a10 :: a11 :: some v :: t) (v :: st) h) : Wx p l e R s m args below meth c k A nL Q bc bs pc (a0 :: a1 :: a2 :: a3 :: a4 :: a5 :: a6 :: a7 :: a8 :: a9 :: a10 :: a11 :: some v :: t) st h := by
  rcases hv with rfl | ⟨a, rfl⟩
  · exact x_aloadN12 G d kk
  · exact x_aload12 G d kk
theorem z_astore12 (G : GX p l R s m args meth c k A own cc nL ret) {a0 a1 a2 a3 a4 a5 a6 a7 a8 a9 a10 a11 : Option Value} {o : Option Value} {t : List (Option Value)} {v : Value} (hv : v = .null ∨ ∃ a, v = .ref a) (d : decode cc pc = .ok (.astore 12, 2)) (hn : 12 < nL) (hc : lp_c2 a11 = false) (kk : Wx p l e R s m args below meth c k A nL Q bc bs (pc + 2) (a0 :: a1 :: a2 :: a3 :: a4 :: a5 :: a6 :: a7 :: a8 :: a9 :: a10 :: a11 :: some v :: t) st h) : Wx p l e R s m args below meth c k A nL Q bc bs pc (a0 :: a1 :: a2 :: a3 :: a4 :: a5 :: a6 :: a7 :: a8 :: a9 :: a10 :: a11 :: o :: t) (v :: st) h := by
  rcases hv with rfl | ⟨a, rfl⟩
  · exact x_astoreN12 G d hn hc kk
  · exact x_astore12 G d hn hc kk
/-- a kind of object: its class, its fields -/
def KB (kd : Nat) (C : String) (T : u_T) (N : Nat) (ty : Nat → FieldType) : Prop := kd < 20 ∧ N ≤ 18 ∧ nF kd = N ∧ vwCl[kd]? = some (C, T, N) ∧ (∀ w ∈ u_ws C T N, w ∈ TB) ∧ (∀ j, j < N → parseFieldDescriptor (T j).2.2.1 = some (ty j)) ∧ (∀ a, a < N → ∀ b, b < N → a ≠ b → (T a).2.1 ≠ (T b).2.1)
def GB (own : String) (idx : Nat) (C : String) (T : u_T) (N j : Nat) : Prop := j < N ∧ Cond.fieldLink own idx C (T j).2.1 (T j).2.2.1 ∈ TB ∧ (T j).1 = C
theorem kb_1 : KB 1 RX0 TX0 2 tyX0 := ⟨by decide, by decide, rfl, rfl, i_X0, tyX0_ok, nmX0⟩
theorem kb_2 : KB 2 RX1 TX1 3 tyX1 := ⟨by decide, by decide, rfl, rfl, i_X1, tyX1_ok, nmX1⟩
theorem kb_3 : KB 3 RX2 TX2 18 tyX2 := ⟨by decide, by decide, rfl, rfl, i_X2, tyX2_ok, nmX2⟩
theorem kb_4 : KB 4 RX3 TX3 6 tyX3 := ⟨by decide, by decide, rfl, rfl, i_X3, tyX3_ok, nmX3⟩
theorem kb_5 : KB 5 RX4 TX4 1 tyX4 := ⟨by decide, by decide, rfl, rfl, i_X4, tyX4_ok, nmX4⟩
theorem kb_6 : KB 6 RX5 TX5 7 tyX5 := ⟨by decide, by decide, rfl, rfl, i_X5, tyX5_ok, nmX5⟩
theorem kb_7 : KB 7 RX6 TX6 3 tyX6 := ⟨by decide, by decide, rfl, rfl, i_X6, tyX6_ok, nmX6⟩
theorem kb_8 : KB 8 RX7 TX7 10 tyX7 := ⟨by decide, by decide, rfl, rfl, i_X7, tyX7_ok, nmX7⟩
theorem kb_9 : KB 9 RX8 TX8 6 tyX8 := ⟨by decide, by decide, rfl, rfl, i_X8, tyX8_ok, nmX8⟩
theorem kb_10 : KB 10 RX9 TX9 1 tyX9 := ⟨by decide, by decide, rfl, rfl, i_X9, tyX9_ok, nmX9⟩
theorem kb_11 : KB 11 RX10 TX10 18 tyX10 := ⟨by decide, by decide, rfl, rfl, i_X10, tyX10_ok, nmX10⟩
theorem gb_X6_7 : GB RX6 7 RX6 TX6 3 0 := ⟨by decide, q_fl_X6_7, rfl⟩
theorem gb_X10_131 : GB RX10 131 RX6 TX6 3 0 := ⟨by decide, q_fl_X10_131, rfl⟩
theorem gb_X6_13 : GB RX6 13 RX6 TX6 3 1 := ⟨by decide, q_fl_X6_13, rfl⟩
theorem gb_X10_442 : GB RX10 442 RX6 TX6 3 1 := ⟨by decide, q_fl_X10_442, rfl⟩
theorem gb_X6_16 : GB RX6 16 RX6 TX6 3 2 := ⟨by decide, q_fl_X6_16, rfl⟩
theorem gb_X10_443 : GB RX10 443 RX6 TX6 3 2 := ⟨by decide, q_fl_X10_443, rfl⟩
theorem gb_X0_12 : GB RX0 12 RX0 TX0 2 0 := ⟨by decide, q_fl_X0_12, rfl⟩
theorem gb_X10_491 : GB RX10 491 RX0 TX0 2 0 := ⟨by decide, q_fl_X10_491, rfl⟩
theorem gb_X0_18 : GB RX0 18 RX0 TX0 2 1 := ⟨by decide, q_fl_X0_18, rfl⟩
theorem gb_X10_148 : GB RX10 148 RX0 TX0 2 1 := ⟨by decide, q_fl_X10_148, rfl⟩
theorem gb_X4_9 : GB RX4 9 RX4 TX4 1 0 := ⟨by decide, q_fl_X4_9, rfl⟩
theorem gb_X2_74 : GB RX2 74 RX4 TX4 1 0 := ⟨by decide, q_fl_X2_74, rfl⟩
theorem gb_X10_185 : GB RX10 185 RX4 TX4 1 0 := ⟨by decide, q_fl_X10_185, rfl⟩
theorem gb_X8_24 : GB RX8 24 RX8 TX8 6 0 := ⟨by decide, q_fl_X8_24, rfl⟩
theorem gb_X10_453 : GB RX10 453 RX8 TX8 6 0 := ⟨by decide, q_fl_X10_453, rfl⟩
theorem gb_X8_27 : GB RX8 27 RX8 TX8 6 1 := ⟨by decide, q_fl_X8_27, rfl⟩
theorem gb_X2_68 : GB RX2 68 RX8 TX8 6 1 := ⟨by decide, q_fl_X2_68, rfl⟩
theorem gb_X10_167 : GB RX10 167 RX8 TX8 6 1 := ⟨by decide, q_fl_X10_167, rfl⟩
theorem gb_X8_9 : GB RX8 9 RX8 TX8 6 2 := ⟨by decide, q_fl_X8_9, rfl⟩
theorem gb_X10_164 : GB RX10 164 RX8 TX8 6 2 := ⟨by decide, q_fl_X10_164, rfl⟩
theorem gb_X8_15 : GB RX8 15 RX8 TX8 6 3 := ⟨by decide, q_fl_X8_15, rfl⟩
theorem gb_X10_171 : GB RX10 171 RX8 TX8 6 3 := ⟨by decide, q_fl_X10_171, rfl⟩
theorem gb_X8_18 : GB RX8 18 RX8 TX8 6 4 := ⟨by decide, q_fl_X8_18, rfl⟩
theorem gb_X10_174 : GB RX10 174 RX8 TX8 6 4 := ⟨by decide, q_fl_X10_174, rfl⟩
theorem gb_X8_21 : GB RX8 21 RX8 TX8 6 5 := ⟨by decide, q_fl_X8_21, rfl⟩
theorem gb_X10_177 : GB RX10 177 RX8 TX8 6 5 := ⟨by decide, q_fl_X10_177, rfl⟩
theorem gb_X10_10 : GB RX10 10 RX10 TX10 18 0 := ⟨by decide, q_fl_X10_10, rfl⟩
theorem gb_X10_16 : GB RX10 16 RX10 TX10 18 1 := ⟨by decide, q_fl_X10_16, rfl⟩
theorem gb_X10_19 : GB RX10 19 RX10 TX10 18 2 := ⟨by decide, q_fl_X10_19, rfl⟩
theorem gb_X10_22 : GB RX10 22 RX10 TX10 18 3 := ⟨by decide, q_fl_X10_22, rfl⟩
theorem gb_X10_25 : GB RX10 25 RX10 TX10 18 4 := ⟨by decide, q_fl_X10_25, rfl⟩
theorem gb_X10_28 : GB RX10 28 RX10 TX10 18 5 := ⟨by decide, q_fl_X10_28, rfl⟩
theorem gb_X10_31 : GB RX10 31 RX10 TX10 18 6 := ⟨by decide, q_fl_X10_31, rfl⟩
theorem gb_X10_34 : GB RX10 34 RX10 TX10 18 7 := ⟨by decide, q_fl_X10_34, rfl⟩
theorem gb_X10_37 : GB RX10 37 RX10 TX10 18 8 := ⟨by decide, q_fl_X10_37, rfl⟩
theorem gb_X10_41 : GB RX10 41 RX10 TX10 18 9 := ⟨by decide, q_fl_X10_41, rfl⟩
theorem gb_X10_45 : GB RX10 45 RX10 TX10 18 10 := ⟨by decide, q_fl_X10_45, rfl⟩
theorem gb_X10_49 : GB RX10 49 RX10 TX10 18 11 := ⟨by decide, q_fl_X10_49, rfl⟩
theorem gb_X10_53 : GB RX10 53 RX10 TX10 18 12 := ⟨by decide, q_fl_X10_53, rfl⟩
theorem gb_X10_56 : GB RX10 56 RX10 TX10 18 13 := ⟨by decide, q_fl_X10_56, rfl⟩
theorem gb_X10_59 : GB RX10 59 RX10 TX10 18 14 := ⟨by decide, q_fl_X10_59, rfl⟩
theorem gb_X10_62 : GB RX10 62 RX10 TX10 18 15 := ⟨by decide, q_fl_X10_62, rfl⟩
theorem gb_X10_66 : GB RX10 66 RX10 TX10 18 16 := ⟨by decide, q_fl_X10_66, rfl⟩
theorem gb_X10_69 : GB RX10 69 RX10 TX10 18 17 := ⟨by decide, q_fl_X10_69, rfl⟩
theorem gb_X5_24 : GB RX5 24 RX5 TX5 7 0 := ⟨by decide, q_fl_X5_24, rfl⟩
theorem gb_X10_112 : GB RX10 112 RX5 TX5 7 0 := ⟨by decide, q_fl_X10_112, rfl⟩
theorem gb_X5_27 : GB RX5 27 RX5 TX5 7 1 := ⟨by decide, q_fl_X5_27, rfl⟩
theorem gb_X10_517 : GB RX10 517 RX5 TX5 7 1 := ⟨by decide, q_fl_X10_517, rfl⟩
theorem gb_X5_30 : GB RX5 30 RX5 TX5 7 2 := ⟨by decide, q_fl_X5_30, rfl⟩
theorem gb_X10_526 : GB RX10 526 RX5 TX5 7 2 := ⟨by decide, q_fl_X10_526, rfl⟩
theorem gb_X5_7 : GB RX5 7 RX5 TX5 7 3 := ⟨by decide, q_fl_X5_7, rfl⟩
theorem gb_X10_120 : GB RX10 120 RX5 TX5 7 3 := ⟨by decide, q_fl_X10_120, rfl⟩
theorem gb_X5_13 : GB RX5 13 RX5 TX5 7 4 := ⟨by decide, q_fl_X5_13, rfl⟩
theorem gb_X10_123 : GB RX10 123 RX5 TX5 7 4 := ⟨by decide, q_fl_X10_123, rfl⟩
theorem gb_X5_17 : GB RX5 17 RX5 TX5 7 5 := ⟨by decide, q_fl_X5_17, rfl⟩
theorem gb_X10_410 : GB RX10 410 RX5 TX5 7 5 := ⟨by decide, q_fl_X10_410, rfl⟩
theorem gb_X5_21 : GB RX5 21 RX5 TX5 7 6 := ⟨by decide, q_fl_X5_21, rfl⟩
theorem gb_X10_417 : GB RX10 417 RX5 TX5 7 6 := ⟨by decide, q_fl_X10_417, rfl⟩
theorem gb_X7_43 : GB RX7 43 RX7 TX7 10 0 := ⟨by decide, q_fl_X7_43, rfl⟩
theorem gb_X10_514 : GB RX10 514 RX7 TX7 10 0 := ⟨by decide, q_fl_X10_514, rfl⟩
theorem gb_X7_46 : GB RX7 46 RX7 TX7 10 1 := ⟨by decide, q_fl_X7_46, rfl⟩
theorem gb_X10_231 : GB RX10 231 RX7 TX7 10 1 := ⟨by decide, q_fl_X10_231, rfl⟩
theorem gb_X7_12 : GB RX7 12 RX7 TX7 10 2 := ⟨by decide, q_fl_X7_12, rfl⟩
theorem gb_X10_212 : GB RX10 212 RX7 TX7 10 2 := ⟨by decide, q_fl_X10_212, rfl⟩
theorem gb_X7_18 : GB RX7 18 RX7 TX7 10 3 := ⟨by decide, q_fl_X7_18, rfl⟩
theorem gb_X10_209 : GB RX10 209 RX7 TX7 10 3 := ⟨by decide, q_fl_X10_209, rfl⟩
theorem gb_X7_22 : GB RX7 22 RX7 TX7 10 4 := ⟨by decide, q_fl_X7_22, rfl⟩
theorem gb_X10_239 : GB RX10 239 RX7 TX7 10 4 := ⟨by decide, q_fl_X10_239, rfl⟩
theorem gb_X7_25 : GB RX7 25 RX7 TX7 10 5 := ⟨by decide, q_fl_X7_25, rfl⟩
theorem gb_X10_273 : GB RX10 273 RX7 TX7 10 5 := ⟨by decide, q_fl_X10_273, rfl⟩
theorem gb_X7_29 : GB RX7 29 RX7 TX7 10 6 := ⟨by decide, q_fl_X7_29, rfl⟩
theorem gb_X10_255 : GB RX10 255 RX7 TX7 10 6 := ⟨by decide, q_fl_X10_255, rfl⟩
theorem gb_X7_33 : GB RX7 33 RX7 TX7 10 7 := ⟨by decide, q_fl_X7_33, rfl⟩
theorem gb_X10_266 : GB RX10 266 RX7 TX7 10 7 := ⟨by decide, q_fl_X10_266, rfl⟩
theorem gb_X7_36 : GB RX7 36 RX7 TX7 10 8 := ⟨by decide, q_fl_X7_36, rfl⟩
theorem gb_X10_291 : GB RX10 291 RX7 TX7 10 8 := ⟨by decide, q_fl_X10_291, rfl⟩
theorem gb_X7_40 : GB RX7 40 RX7 TX7 10 9 := ⟨by decide, q_fl_X7_40, rfl⟩
theorem gb_X10_295 : GB RX10 295 RX7 TX7 10 9 := ⟨by decide, q_fl_X10_295, rfl⟩
theorem gb_X3_19 : GB RX3 19 RX3 TX3 6 0 := ⟨by decide, q_fl_X3_19, rfl⟩
theorem gb_X2_90 : GB RX2 90 RX3 TX3 6 0 := ⟨by decide, q_fl_X2_90, rfl⟩
theorem gb_X7_69 : GB RX7 69 RX3 TX3 6 0 := ⟨by decide, q_fl_X7_69, rfl⟩
theorem gb_X10_300 : GB RX10 300 RX3 TX3 6 0 := ⟨by decide, q_fl_X10_300, rfl⟩
theorem gb_X3_26 : GB RX3 26 RX3 TX3 6 1 := ⟨by decide, q_fl_X3_26, rfl⟩
theorem gb_X2_84 : GB RX2 84 RX3 TX3 6 1 := ⟨by decide, q_fl_X2_84, rfl⟩
theorem gb_X7_63 : GB RX7 63 RX3 TX3 6 1 := ⟨by decide, q_fl_X7_63, rfl⟩
theorem gb_X10_324 : GB RX10 324 RX3 TX3 6 1 := ⟨by decide, q_fl_X10_324, rfl⟩
theorem gb_X3_23 : GB RX3 23 RX3 TX3 6 2 := ⟨by decide, q_fl_X3_23, rfl⟩
theorem gb_X7_60 : GB RX7 60 RX3 TX3 6 2 := ⟨by decide, q_fl_X7_60, rfl⟩
theorem gb_X2_93 : GB RX2 93 RX3 TX3 6 2 := ⟨by decide, q_fl_X2_93, rfl⟩
theorem gb_X10_286 : GB RX10 286 RX3 TX3 6 2 := ⟨by decide, q_fl_X10_286, rfl⟩
theorem gb_X3_7 : GB RX3 7 RX3 TX3 6 3 := ⟨by decide, q_fl_X3_7, rfl⟩
theorem gb_X2_96 : GB RX2 96 RX3 TX3 6 3 := ⟨by decide, q_fl_X2_96, rfl⟩
theorem gb_X7_73 : GB RX7 73 RX3 TX3 6 3 := ⟨by decide, q_fl_X7_73, rfl⟩
theorem gb_X10_305 : GB RX10 305 RX3 TX3 6 3 := ⟨by decide, q_fl_X10_305, rfl⟩
theorem gb_X3_13 : GB RX3 13 RX3 TX3 6 4 := ⟨by decide, q_fl_X3_13, rfl⟩
theorem gb_X2_87 : GB RX2 87 RX3 TX3 6 4 := ⟨by decide, q_fl_X2_87, rfl⟩
theorem gb_X7_76 : GB RX7 76 RX3 TX3 6 4 := ⟨by decide, q_fl_X7_76, rfl⟩
theorem gb_X10_308 : GB RX10 308 RX3 TX3 6 4 := ⟨by decide, q_fl_X10_308, rfl⟩
theorem gb_X3_16 : GB RX3 16 RX3 TX3 6 5 := ⟨by decide, q_fl_X3_16, rfl⟩
theorem gb_X7_66 : GB RX7 66 RX3 TX3 6 5 := ⟨by decide, q_fl_X7_66, rfl⟩
theorem gb_X10_319 : GB RX10 319 RX3 TX3 6 5 := ⟨by decide, q_fl_X10_319, rfl⟩
theorem gb_X2_50 : GB RX2 50 RX2 TX2 18 0 := ⟨by decide, q_fl_X2_50, rfl⟩
theorem gb_X10_547 : GB RX10 547 RX2 TX2 18 0 := ⟨by decide, q_fl_X10_547, rfl⟩
theorem gb_X2_54 : GB RX2 54 RX2 TX2 18 1 := ⟨by decide, q_fl_X2_54, rfl⟩
theorem gb_X10_529 : GB RX10 529 RX2 TX2 18 1 := ⟨by decide, q_fl_X10_529, rfl⟩
theorem gb_X2_58 : GB RX2 58 RX2 TX2 18 2 := ⟨by decide, q_fl_X2_58, rfl⟩
theorem gb_X10_536 : GB RX10 536 RX2 TX2 18 2 := ⟨by decide, q_fl_X10_536, rfl⟩
theorem gb_X2_62 : GB RX2 62 RX2 TX2 18 3 := ⟨by decide, q_fl_X2_62, rfl⟩
theorem gb_X10_544 : GB RX10 544 RX2 TX2 18 3 := ⟨by decide, q_fl_X10_544, rfl⟩
theorem gb_X2_65 : GB RX2 65 RX2 TX2 18 4 := ⟨by decide, q_fl_X2_65, rfl⟩
theorem gb_X2_81 : GB RX2 81 RX2 TX2 18 5 := ⟨by decide, q_fl_X2_81, rfl⟩
theorem gb_X10_461 : GB RX10 461 RX2 TX2 18 5 := ⟨by decide, q_fl_X10_461, rfl⟩
theorem gb_X2_9 : GB RX2 9 RX2 TX2 18 6 := ⟨by decide, q_fl_X2_9, rfl⟩
theorem gb_X10_353 : GB RX10 353 RX2 TX2 18 6 := ⟨by decide, q_fl_X10_353, rfl⟩
theorem gb_X2_15 : GB RX2 15 RX2 TX2 18 7 := ⟨by decide, q_fl_X2_15, rfl⟩
theorem gb_X10_361 : GB RX10 361 RX2 TX2 18 7 := ⟨by decide, q_fl_X10_361, rfl⟩
theorem gb_X2_19 : GB RX2 19 RX2 TX2 18 8 := ⟨by decide, q_fl_X2_19, rfl⟩
theorem gb_X10_537 : GB RX10 537 RX2 TX2 18 8 := ⟨by decide, q_fl_X10_537, rfl⟩
theorem gb_X2_22 : GB RX2 22 RX2 TX2 18 9 := ⟨by decide, q_fl_X2_22, rfl⟩
theorem gb_X10_540 : GB RX10 540 RX2 TX2 18 9 := ⟨by decide, q_fl_X10_540, rfl⟩
theorem gb_X2_25 : GB RX2 25 RX2 TX2 18 10 := ⟨by decide, q_fl_X2_25, rfl⟩
theorem gb_X10_464 : GB RX10 464 RX2 TX2 18 10 := ⟨by decide, q_fl_X10_464, rfl⟩
theorem gb_X2_29 : GB RX2 29 RX2 TX2 18 11 := ⟨by decide, q_fl_X2_29, rfl⟩
theorem gb_X10_467 : GB RX10 467 RX2 TX2 18 11 := ⟨by decide, q_fl_X10_467, rfl⟩
theorem gb_X2_32 : GB RX2 32 RX2 TX2 18 12 := ⟨by decide, q_fl_X2_32, rfl⟩
theorem gb_X10_383 : GB RX10 383 RX2 TX2 18 12 := ⟨by decide, q_fl_X10_383, rfl⟩
theorem gb_X2_35 : GB RX2 35 RX2 TX2 18 13 := ⟨by decide, q_fl_X2_35, rfl⟩
theorem gb_X10_541 : GB RX10 541 RX2 TX2 18 13 := ⟨by decide, q_fl_X10_541, rfl⟩
theorem gb_X2_38 : GB RX2 38 RX2 TX2 18 14 := ⟨by decide, q_fl_X2_38, rfl⟩
theorem gb_X10_470 : GB RX10 470 RX2 TX2 18 14 := ⟨by decide, q_fl_X10_470, rfl⟩
theorem gb_X2_41 : GB RX2 41 RX2 TX2 18 15 := ⟨by decide, q_fl_X2_41, rfl⟩
theorem gb_X10_386 : GB RX10 386 RX2 TX2 18 15 := ⟨by decide, q_fl_X10_386, rfl⟩
theorem gb_X2_44 : GB RX2 44 RX2 TX2 18 16 := ⟨by decide, q_fl_X2_44, rfl⟩
theorem gb_X10_378 : GB RX10 378 RX2 TX2 18 16 := ⟨by decide, q_fl_X10_378, rfl⟩
theorem gb_X2_47 : GB RX2 47 RX2 TX2 18 17 := ⟨by decide, q_fl_X2_47, rfl⟩
theorem gb_X10_381 : GB RX10 381 RX2 TX2 18 17 := ⟨by decide, q_fl_X10_381, rfl⟩
theorem gb_X9_7 : GB RX9 7 RX9 TX9 1 0 := ⟨by decide, q_fl_X9_7, rfl⟩
theorem gb_X10_475 : GB RX10 475 RX9 TX9 1 0 := ⟨by decide, q_fl_X10_475, rfl⟩
theorem gb_X1_13 : GB RX1 13 RX1 TX1 3 0 := ⟨by decide, q_fl_X1_13, rfl⟩
theorem gb_X10_439 : GB RX10 439 RX1 TX1 3 0 := ⟨by decide, q_fl_X10_439, rfl⟩
theorem gb_X1_17 : GB RX1 17 RX1 TX1 3 1 := ⟨by decide, q_fl_X1_17, rfl⟩
theorem gb_X10_431 : GB RX10 431 RX1 TX1 3 1 := ⟨by decide, q_fl_X10_431, rfl⟩
theorem gb_X1_7 : GB RX1 7 RX1 TX1 3 2 := ⟨by decide, q_fl_X1_7, rfl⟩
theorem gb_X10_434 : GB RX10 434 RX1 TX1 3 2 := ⟨by decide, q_fl_X10_434, rfl⟩
theorem cr_32 {X : CX} {S : CT} {x : Int32} : cR X S 32 x.toNatClampNeg = aR X 28 x := rfl
theorem cr_33 {X : CX} {S : CT} {x : Int32} : cR X S 33 x.toNatClampNeg = .int (ci S 33 x) := rfl
theorem cr_64 {X : CX} {S : CT} {x : Int32} : cR X S 64 x.toNatClampNeg = vr X 6 (xi X 64 x) := rfl
theorem cr_65 {X : CX} {S : CT} {x : Int32} : cR X S 65 x.toNatClampNeg = .int (xi X 65 x) := rfl
theorem cr_66 {X : CX} {S : CT} {x : Int32} : cR X S 66 x.toNatClampNeg = .int (ci S 66 x) := rfl
theorem cr_96 {X : CX} {S : CT} {x : Int32} : cR X S 96 x.toNatClampNeg = vr X 8 (xi X 96 x) := rfl
theorem cr_97 {X : CX} {S : CT} {x : Int32} : cR X S 97 x.toNatClampNeg = vr X 4 (xi X 97 x) := rfl
theorem cr_98 {X : CX} {S : CT} {x : Int32} : cR X S 98 x.toNatClampNeg = vr X 9 (xi X 98 x) := rfl
theorem cr_99 {X : CX} {S : CT} {x : Int32} : cR X S 99 x.toNatClampNeg = .int (xi X 99 x) := rfl
theorem cr_100 {X : CX} {S : CT} {x : Int32} : cR X S 100 x.toNatClampNeg = .int (xi X 100 x) := rfl
theorem cr_101 {X : CX} {S : CT} {x : Int32} : cR X S 101 x.toNatClampNeg = .long (xj X 101 x) := rfl
theorem cr_102 {X : CX} {S : CT} {x : Int32} : cR X S 102 x.toNatClampNeg = .int (ci S 102 x) := rfl
theorem cr_103 {X : CX} {S : CT} {x : Int32} : cR X S 103 x.toNatClampNeg = .int (ci S 103 x) := rfl
theorem cr_104 {X : CX} {S : CT} {x : Int32} : cR X S 104 x.toNatClampNeg = .int (ci S 104 x) := rfl
theorem cr_105 {X : CX} {S : CT} {x : Int32} : cR X S 105 x.toNatClampNeg = .int (ci S 105 x) := rfl
theorem cr_106 {X : CX} {S : CT} {x : Int32} : cR X S 106 x.toNatClampNeg = .long (cj S 106 x) := rfl
theorem cr_107 {X : CX} {S : CT} {x : Int32} : cR X S 107 x.toNatClampNeg = .long (cj S 107 x) := rfl
theorem cr_108 {X : CX} {S : CT} {x : Int32} : cR X S 108 x.toNatClampNeg = .long (cj S 108 x) := rfl
theorem cr_109 {X : CX} {S : CT} {x : Int32} : cR X S 109 x.toNatClampNeg = .int (ci S 109 x) := rfl
theorem cr_110 {X : CX} {S : CT} {x : Int32} : cR X S 110 x.toNatClampNeg = .int (ci S 110 x) := rfl
theorem cr_111 {X : CX} {S : CT} {x : Int32} : cR X S 111 x.toNatClampNeg = .int (ci S 111 x) := rfl
theorem cr_112 {X : CX} {S : CT} {x : Int32} : cR X S 112 x.toNatClampNeg = .long (cj S 112 x) := rfl
theorem cr_113 {X : CX} {S : CT} {x : Int32} : cR X S 113 x.toNatClampNeg = .long (cj S 113 x) := rfl
theorem cr_128 {X : CX} {S : CT} {x : Int32} : cR X S 128 x.toNatClampNeg = .int (xi X 128 x) := rfl
theorem cr_129 {X : CX} {S : CT} {x : Int32} : cR X S 129 x.toNatClampNeg = .int (xi X 129 x) := rfl
theorem cr_130 {X : CX} {S : CT} {x : Int32} : cR X S 130 x.toNatClampNeg = .int (ci S 130 x) := rfl
theorem cr_131 {X : CX} {S : CT} {x : Int32} : cR X S 131 x.toNatClampNeg = .int (ci S 131 x) := rfl
theorem cr_132 {X : CX} {S : CT} {x : Int32} : cR X S 132 x.toNatClampNeg = .int (ci S 132 x) := rfl
theorem cr_133 {X : CX} {S : CT} {x : Int32} : cR X S 133 x.toNatClampNeg = .int (ci S 133 x) := rfl
theorem cr_160 {X : CX} {S : CT} {x : Int32} : cR X S 160 x.toNatClampNeg = .int (ci S 160 x) := rfl
theorem cr_192 {X : CX} {S : CT} {x : Int32} : cR X S 192 x.toNatClampNeg = .int (xi X 192 x) := rfl
theorem cr_193 {X : CX} {S : CT} {x : Int32} : cR X S 193 x.toNatClampNeg = vr X 6 (xi X 193 x) := rfl
theorem cr_194 {X : CX} {S : CT} {x : Int32} : cR X S 194 x.toNatClampNeg = .int (xi X 194 x) := rfl
theorem cr_195 {X : CX} {S : CT} {x : Int32} : cR X S 195 x.toNatClampNeg = .int (ci S 195 x) := rfl
theorem cr_196 {X : CX} {S : CT} {x : Int32} : cR X S 196 x.toNatClampNeg = vr X 6 (ci S 196 x) := rfl
theorem cr_197 {X : CX} {S : CT} {x : Int32} : cR X S 197 x.toNatClampNeg = .long (cj S 197 x) := rfl
theorem cr_198 {X : CX} {S : CT} {x : Int32} : cR X S 198 x.toNatClampNeg = .long (cj S 198 x) := rfl
theorem cr_224 {X : CX} {S : CT} {x : Int32} : cR X S 224 x.toNatClampNeg = .long (cj S 224 x) := rfl
theorem cr_225 {X : CX} {S : CT} {x : Int32} : cR X S 225 x.toNatClampNeg = .long (cj S 225 x) := rfl
theorem cr_226 {X : CX} {S : CT} {x : Int32} : cR X S 226 x.toNatClampNeg = .long (cj S 226 x) := rfl
theorem cr_256 {X : CX} {S : CT} {x : Int32} : cR X S 256 x.toNatClampNeg = vr X 6 (xi X 256 x) := rfl
theorem cr_257 {X : CX} {S : CT} {x : Int32} : cR X S 257 x.toNatClampNeg = vr X 1 (xi X 257 x) := rfl
theorem cr_258 {X : CX} {S : CT} {x : Int32} : cR X S 258 x.toNatClampNeg = aR X 29 x := rfl
theorem cr_259 {X : CX} {S : CT} {x : Int32} : cR X S 259 x.toNatClampNeg = .int (ci S 259 x) := rfl
theorem cr_260 {X : CX} {S : CT} {x : Int32} : cR X S 260 x.toNatClampNeg = .int (ci S 260 x) := rfl
theorem cr_261 {X : CX} {S : CT} {x : Int32} : cR X S 261 x.toNatClampNeg = .long (cj S 261 x) := rfl
theorem cr_262 {X : CX} {S : CT} {x : Int32} : cR X S 262 x.toNatClampNeg = vr X 6 (ci S 262 x) := rfl
theorem cr_263 {X : CX} {S : CT} {x : Int32} : cR X S 263 x.toNatClampNeg = vr X 6 (ci S 263 x) := rfl
theorem cr_264 {X : CX} {S : CT} {x : Int32} : cR X S 264 x.toNatClampNeg = vr X 9 (ci S 264 x) := rfl
theorem cr_265 {X : CX} {S : CT} {x : Int32} : cR X S 265 x.toNatClampNeg = .long (cj S 265 x) := rfl
theorem cr_288 {X : CX} {S : CT} {x : Int32} : cR X S 288 x.toNatClampNeg = .int (xi X 288 x) := rfl
theorem cr_289 {X : CX} {S : CT} {x : Int32} : cR X S 289 x.toNatClampNeg = vr X 5 (ci S 289 x) := rfl
theorem cr_290 {X : CX} {S : CT} {x : Int32} : cR X S 290 x.toNatClampNeg = .int (ci S 290 x) := rfl
theorem cr_291 {X : CX} {S : CT} {x : Int32} : cR X S 291 x.toNatClampNeg = .int (ci S 291 x) := rfl
theorem cr_292 {X : CX} {S : CT} {x : Int32} : cR X S 292 x.toNatClampNeg = .int (ci S 292 x) := rfl
theorem cr_293 {X : CX} {S : CT} {x : Int32} : cR X S 293 x.toNatClampNeg = .int (ci S 293 x) := rfl
theorem cr_320 {X : CX} {S : CT} {x : Int32} : cR X S 320 x.toNatClampNeg = .long (xj X 320 x) := rfl
theorem cr_352 {X : CX} {S : CT} {x : Int32} : cR X S 352 x.toNatClampNeg = aR X 20 x := rfl
theorem cr_353 {X : CX} {S : CT} {x : Int32} : cR X S 353 x.toNatClampNeg = aR X 21 x := rfl
theorem cr_354 {X : CX} {S : CT} {x : Int32} : cR X S 354 x.toNatClampNeg = aR X 22 x := rfl
theorem cr_355 {X : CX} {S : CT} {x : Int32} : cR X S 355 x.toNatClampNeg = aR X 23 x := rfl
theorem cr_356 {X : CX} {S : CT} {x : Int32} : cR X S 356 x.toNatClampNeg = aR X 24 x := rfl
theorem cr_357 {X : CX} {S : CT} {x : Int32} : cR X S 357 x.toNatClampNeg = aR X 25 x := rfl
theorem cr_358 {X : CX} {S : CT} {x : Int32} : cR X S 358 x.toNatClampNeg = aR X 26 x := rfl
theorem cr_359 {X : CX} {S : CT} {x : Int32} : cR X S 359 x.toNatClampNeg = aR X 27 x := rfl
theorem cr_360 {X : CX} {S : CT} {x : Int32} : cR X S 360 x.toNatClampNeg = aR X 40 x := rfl
theorem cr_361 {X : CX} {S : CT} {x : Int32} : cR X S 361 x.toNatClampNeg = aR X 41 x := rfl
theorem cr_362 {X : CX} {S : CT} {x : Int32} : cR X S 362 x.toNatClampNeg = vr X 6 (ci S 362 x) := rfl
theorem cr_363 {X : CX} {S : CT} {x : Int32} : cR X S 363 x.toNatClampNeg = .int (ci S 363 x) := rfl
theorem cr_364 {X : CX} {S : CT} {x : Int32} : cR X S 364 x.toNatClampNeg = .int (ci S 364 x) := rfl
theorem cr_365 {X : CX} {S : CT} {x : Int32} : cR X S 365 x.toNatClampNeg = .int (ci S 365 x) := rfl
theorem cr_366 {X : CX} {S : CT} {x : Int32} : cR X S 366 x.toNatClampNeg = .int (ci S 366 x) := rfl
theorem cr_367 {X : CX} {S : CT} {x : Int32} : cR X S 367 x.toNatClampNeg = .long (cj S 367 x) := rfl
theorem cr_368 {X : CX} {S : CT} {x : Int32} : cR X S 368 x.toNatClampNeg = .int (ci S 368 x) := rfl
theorem cr_369 {X : CX} {S : CT} {x : Int32} : cR X S 369 x.toNatClampNeg = .int (ci S 369 x) := rfl
theorem z_g {kd N j idx f : Nat} {C : String} {T : u_T} {ty : Nat → FieldType} (G : GX p l R s m args meth c k A own cc nL ret) (kb : KB kd C T N ty) (gb : GB own idx C T N j) (hfe : 32 * kd + j = f) (hX : HX X) {x : Int32} {v : Value} (hx : lI X kd x) (hv : cR X S f x.toNatClampNeg = v) (d : decode cc pc = .ok (.getfield idx, 3)) (kk : Wx p l e R s m args below meth c k A nL Q bc bs (pc + 3) L (v :: st) (cW k X S)) : Wx p l e R s m args below meth c k A nL Q bc bs pc L (vr X kd x :: st) (cW k X S) := by
  subst hfe
  rw [hx.vr]
  obtain ⟨k1, -, k3, k4, k5, -, -⟩ := kb
  have h9 := cW_in (k := k) (S := S) hX hx.lv
  refine x_getf (ci := kd) (fs := cF X S kd x.toNatClampNeg) G h9.1 (by rw [h9.2]; unfold cE; rw [if_pos k1]) k4 k5 gb.1 gb.2.1 (by rw [gb.2.2]; exact fun _ h => h) ?_ d kk
  rw [cF_get (by rw [k3]; exact gb.1), hv]
theorem z_pI {kd N j idx f : Nat} {C : String} {T : u_T} {ty : Nat → FieldType} (G : GX p l R s m args meth c k A own cc nL ret) (kb : KB kd C T N ty) (gb : GB own idx C T N j) (hfe : 32 * kd + j = f) (hX : HX X) {x : Int32} {v : Int32} (hx : lI X kd x) (hfin : (T j).2.2.2 = false) (hv : cR X (si S f x v) f x.toNatClampNeg = .int v) (hn : narrow (ty j) (.int v) = .int v) (hf : fits (ty j) (.int v) = true) (d : decode cc pc = .ok (.putfield idx, 3)) (kk : Wx p l e R s m args below meth c k A nL Q bc bs (pc + 3) L st (cW k X (si S f x v))) : Wx p l e R s m args below meth c k A nL Q bc bs pc L (.int v :: vr X kd x :: st) (cW k X S) := by
  subst hfe
  rw [hx.vr]
  obtain ⟨k1, k2, k3, k4, k5, k6, k7⟩ := kb
  have h9 := cW_in (k := k) (S := S) hX hx.lv
  have hj := gb.1
  refine x_putf (ci := kd) (fs := cF X S kd x.toNatClampNeg) G h9.1 (by rw [h9.2]; unfold cE; rw [if_pos k1]) k4 k5 gb.1 gb.2.1 (by rw [gb.2.2]; exact fun _ h => h) ty k6 k7 hfin hn hf (by simp only [cF, List.length_map, List.length_range]; omega) d ?_
  rw [cW_pi hX k1 (by omega) hx.lv hv]
  exact kk
theorem z_pJ {kd N j idx f : Nat} {C : String} {T : u_T} {ty : Nat → FieldType} (G : GX p l R s m args meth c k A own cc nL ret) (kb : KB kd C T N ty) (gb : GB own idx C T N j) (hfe : 32 * kd + j = f) (hX : HX X) {x : Int32} {v : Int64} (hx : lI X kd x) (hfin : (T j).2.2.2 = false) (hv : cR X (sj S f x v) f x.toNatClampNeg = .long v) (hn : narrow (ty j) (.long v) = .long v) (hf : fits (ty j) (.long v) = true) (d : decode cc pc = .ok (.putfield idx, 3)) (kk : Wx p l e R s m args below meth c k A nL Q bc bs (pc + 3) L st (cW k X (sj S f x v))) : Wx p l e R s m args below meth c k A nL Q bc bs pc L (.long v :: vr X kd x :: st) (cW k X S) := by
  subst hfe
  rw [hx.vr]
  obtain ⟨k1, k2, k3, k4, k5, k6, k7⟩ := kb
  have h9 := cW_in (k := k) (S := S) hX hx.lv
  have hj := gb.1
  refine x_putf (ci := kd) (fs := cF X S kd x.toNatClampNeg) G h9.1 (by rw [h9.2]; unfold cE; rw [if_pos k1]) k4 k5 gb.1 gb.2.1 (by rw [gb.2.2]; exact fun _ h => h) ty k6 k7 hfin hn hf (by simp only [cF, List.length_map, List.length_range]; omega) d ?_
  rw [cW_pj hX k1 (by omega) hx.lv hv]
  exact kk
theorem z_pR {kd N j idx f : Nat} {C : String} {T : u_T} {ty : Nat → FieldType} {t : Nat} (G : GX p l R s m args meth c k A own cc nL ret) (kb : KB kd C T N ty) (gb : GB own idx C T N j) (hfe : 32 * kd + j = f) (hX : HX X) {x : Int32} {v : Int32} (hx : lI X kd x) (hfin : (T j).2.2.2 = false) (hv : cR X (si S f x v) f x.toNatClampNeg = vr X t v) (hn : (∃ n, ty j = .object n) ∨ ∃ q, ty j = .array q) (d : decode cc pc = .ok (.putfield idx, 3)) (kk : Wx p l e R s m args below meth c k A nL Q bc bs (pc + 3) L st (cW k X (si S f x v))) : Wx p l e R s m args below meth c k A nL Q bc bs pc L (vr X t v :: vr X kd x :: st) (cW k X S) := by
  subst hfe
  rw [hx.vr]
  obtain ⟨k1, k2, k3, k4, k5, k6, k7⟩ := kb
  have h9 := cW_in (k := k) (S := S) hX hx.lv
  have hj := gb.1
  refine x_putf (ci := kd) (fs := cF X S kd x.toNatClampNeg) G h9.1 (by rw [h9.2]; unfold cE; rw [if_pos k1]) k4 k5 gb.1 gb.2.1 (by rw [gb.2.2]; exact fun _ h => h) ty k6 k7 hfin (by rcases vr_r (X := X) (kd := t) (x := v) with e | ⟨a, e⟩ <;> rw [e] <;> rcases hn with ⟨q, h⟩ | ⟨q, h⟩ <;> rw [h] <;> rfl) (by rcases vr_r (X := X) (kd := t) (x := v) with e | ⟨a, e⟩ <;> rw [e] <;> rcases hn with ⟨q, h⟩ | ⟨q, h⟩ <;> rw [h] <;> rfl) (by simp only [cF, List.length_map, List.length_range]; omega) d ?_
  rw [cW_pi hX k1 (by omega) hx.lv hv]
  exact kk
theorem z_acmp_eq (G : GX p l R s m args meth c k A own cc nL ret) {off : Int} {tgt kd : Nat} {x y : Int32} (hx : oI X kd x) (hy : oI X kd y) (d : decode cc pc = .ok (.if_acmp .eq off, 3)) (ht : (pc : Int) + off = (tgt : Int)) (kt : x = y → Wx p l e R s m args below meth c k A nL Q bc bs tgt L st h) (kf : ¬ x = y → Wx p l e R s m args below meth c k A nL Q bc bs (pc + 3) L st h) : Wx p l e R s m args below meth c k A nL Q bc bs pc L (vr X kd y :: vr X kd x :: st) h := by
  have e : ∀ z, vr X kd z = va_rf (if z = -1 then none else some (xAd X kd z.toNatClampNeg)) := fun z => by unfold vr; split <;> rfl
  have e2 : (if x = -1 then none else some (xAd X kd x.toNatClampNeg)) = (if y = -1 then none else some (xAd X kd y.toNatClampNeg)) ↔ x = y := ⟨fun q => vr_inj hx hy (by rw [e, e, q]), fun q => by rw [q]⟩
  rw [e, e]
  exact x_acmp_eq G d ht (fun q => kt (by simpa only [e2] using q)) (fun q => kf (by simpa only [e2] using q))
theorem z_acmp_ne (G : GX p l R s m args meth c k A own cc nL ret) {off : Int} {tgt kd : Nat} {x y : Int32} (hx : oI X kd x) (hy : oI X kd y) (d : decode cc pc = .ok (.if_acmp .ne off, 3)) (ht : (pc : Int) + off = (tgt : Int)) (kt : ¬ x = y → Wx p l e R s m args below meth c k A nL Q bc bs tgt L st h) (kf : x = y → Wx p l e R s m args below meth c k A nL Q bc bs (pc + 3) L st h) : Wx p l e R s m args below meth c k A nL Q bc bs pc L (vr X kd y :: vr X kd x :: st) h := by
  have e : ∀ z, vr X kd z = va_rf (if z = -1 then none else some (xAd X kd z.toNatClampNeg)) := fun z => by unfold vr; split <;> rfl
  have e2 : (if x = -1 then none else some (xAd X kd x.toNatClampNeg)) = (if y = -1 then none else some (xAd X kd y.toNatClampNeg)) ↔ x = y := ⟨fun q => vr_inj hx hy (by rw [e, e, q]), fun q => by rw [q]⟩
  rw [e, e]
  exact x_acmp_ne G d ht (fun q => kt (by simpa only [e2] using q)) (fun q => kf (by simpa only [e2] using q))
theorem z_ifnull (G : GX p l R s m args meth c k A own cc nL ret) {off : Int} {tgt kd : Nat} {x : Int32} (d : decode cc pc = .ok (.ifnull off, 3)) (ht : (pc : Int) + off = (tgt : Int)) (kt : x = -1 → Wx p l e R s m args below meth c k A nL Q bc bs tgt L st h) (kf : ¬ x = -1 → Wx p l e R s m args below meth c k A nL Q bc bs (pc + 3) L st h) : Wx p l e R s m args below meth c k A nL Q bc bs pc L (vr X kd x :: st) h := by
  by_cases q : x = -1
  · rw [show vr X kd x = .null from if_pos q]
    exact x_ifnullN G d ht (kt q)
  · rw [show vr X kd x = .ref (xAd X kd x.toNatClampNeg) from if_neg q]
    exact x_ifnull G d (kf q)
theorem z_ifnonnull (G : GX p l R s m args meth c k A own cc nL ret) {off : Int} {tgt kd : Nat} {x : Int32} (d : decode cc pc = .ok (.ifnonnull off, 3)) (ht : (pc : Int) + off = (tgt : Int)) (kt : ¬ x = -1 → Wx p l e R s m args below meth c k A nL Q bc bs tgt L st h) (kf : x = -1 → Wx p l e R s m args below meth c k A nL Q bc bs (pc + 3) L st h) : Wx p l e R s m args below meth c k A nL Q bc bs pc L (vr X kd x :: st) h := by
  by_cases q : x = -1
  · rw [show vr X kd x = .null from if_pos q]
    exact x_ifnonnullN G d (kf q)
  · rw [show vr X kd x = .ref (xAd X kd x.toNatClampNeg) from if_neg q]
    exact x_ifnonnull G d ht (kt q)
theorem z_null (kd : Nat) (X : CX) (G : GX p l R s m args meth c k A own cc nL ret) (d : decode cc pc = .ok (.aconst_null, 1)) (kk : Wx p l e R s m args below meth c k A nL Q bc bs (pc + 1) L (vr X kd (-1) :: st) h) : Wx p l e R s m args below meth c k A nL Q bc bs pc L st h := x_null G d kk
theorem z_cast {kd N idx : Nat} {C : String} {T : u_T} {ty : Nat → FieldType} (G : GX p l R s m args meth c k A own cc nL ret) (kb : KB kd C T N ty) (hX : HX X) {x : Int32} (hx : lI X kd x) (hlink : Cond.classLink own idx C ∈ TB) (d : decode cc pc = .ok (.checkcast idx, 3)) (kk : Wx p l e R s m args below meth c k A nL Q bc bs (pc + 3) L (vr X kd x :: st) (cW k X S)) : Wx p l e R s m args below meth c k A nL Q bc bs pc L (vr X kd x :: st) (cW k X S) := by
  rw [hx.vr] at kk ⊢
  obtain ⟨k1, -, -, k4, -, -, -⟩ := kb
  have h9 := cW_in (k := k) (S := S) hX hx.lv
  exact x_cast (ci := kd) (fs := cF X S kd x.toNatClampNeg) G h9.1 (by rw [h9.2]; unfold cE; rw [if_pos k1]) k4 hlink d kk
theorem z_iald (G : GX p l R s m args meth c k A own cc nL ret) (hX : HX X) (hl : lv X 40 0) {i v : Int32} (hi : vp_in i 4) (hv : ci S 1280 i = v) (d : decode cc pc = .ok (.iaload, 1)) (kk : Wx p l e R s m args below meth c k A nL Q bc bs (pc + 1) L (.int v :: st) (cW k X S)) : Wx p l e R s m args below meth c k A nL Q bc bs pc L (.int i :: aR X 40 0 :: st) (cW k X S) := by
  subst hv
  have h9 := cW_in (k := k) (S := S) hX hl
  exact x_iald (n := 4) (f := S.1 1280) G h9.1 h9.2 hi d kk
theorem z_iast (G : GX p l R s m args meth c k A own cc nL ret) (hX : HX X) (hl : lv X 40 0) {i v : Int32} (hi : vp_in i 4) (d : decode cc pc = .ok (.iastore, 1)) (kk : Wx p l e R s m args below meth c k A nL Q bc bs (pc + 1) L st (cW k X (si S 1280 i v))) : Wx p l e R s m args below meth c k A nL Q bc bs pc L (.int v :: .int i :: aR X 40 0 :: st) (cW k X S) := by
  have h9 := cW_in (k := k) (S := S) hX hl
  refine x_iast (n := 4) (f := S.1 1280) G h9.1 h9.2 hi d ?_
  rw [show xAd X 40 (0 : Int32).toNatClampNeg = xAd X 40 0 from rfl, cW_ai hX hl]
  exact kk
theorem z_lald (G : GX p l R s m args meth c k A own cc nL ret) (hX : HX X) (hl : lv X 41 0) {i : Int32} {v : Int64} (hi : vp_in i 9) (hv : cj S 1312 i = v) (d : decode cc pc = .ok (.laload, 1)) (kk : Wx p l e R s m args below meth c k A nL Q bc bs (pc + 1) L (.long v :: st) (cW k X S)) : Wx p l e R s m args below meth c k A nL Q bc bs pc L (.int i :: aR X 41 0 :: st) (cW k X S) := by
  subst hv
  have h9 := cW_in (k := k) (S := S) hX hl
  exact x_lald (n := 9) (f := S.2 1312) G h9.1 h9.2 hi d kk
theorem z_last (G : GX p l R s m args meth c k A own cc nL ret) (hX : HX X) (hl : lv X 41 0) {i : Int32} {v : Int64} (hi : vp_in i 9) (d : decode cc pc = .ok (.lastore, 1)) (kk : Wx p l e R s m args below meth c k A nL Q bc bs (pc + 1) L st (cW k X (sj S 1312 i v))) : Wx p l e R s m args below meth c k A nL Q bc bs pc L (.long v :: .int i :: aR X 41 0 :: st) (cW k X S) := by
  have h9 := cW_in (k := k) (S := S) hX hl
  refine x_last (n := 9) (f := S.2 1312) G h9.1 h9.2 hi d ?_
  rw [show xAd X 41 (0 : Int32).toNatClampNeg = xAd X 41 0 from rfl, cW_aj hX hl]
  exact kk
theorem z_ilen (G : GX p l R s m args meth c k A own cc nL ret) (hX : HX X) (hl : lv X 40 0) (d : decode cc pc = .ok (.arraylength, 1)) (kk : Wx p l e R s m args below meth c k A nL Q bc bs (pc + 1) L (.int 4 :: st) (cW k X S)) : Wx p l e R s m args below meth c k A nL Q bc bs pc L (aR X 40 0 :: st) (cW k X S) := by
  have h9 := cW_in (k := k) (S := S) hX hl
  exact x_ilen (x := (4, .inl (S.1 1280))) G h9.1 h9.2 d kk
theorem z_llen (G : GX p l R s m args meth c k A own cc nL ret) (hX : HX X) (hl : lv X 41 0) (d : decode cc pc = .ok (.arraylength, 1)) (kk : Wx p l e R s m args below meth c k A nL Q bc bs (pc + 1) L (.int 9 :: st) (cW k X S)) : Wx p l e R s m args below meth c k A nL Q bc bs pc L (aR X 41 0 :: st) (cW k X S) := by
  have h9 := cW_in (k := k) (S := S) hX hl
  exact x_llen (x := (9, .inr (.inl (S.2 1312)))) G h9.1 h9.2 d kk
theorem ci_ss {f : Nat} {x v : Int32} : ci (si S f x v) f x = v := by simp [ci, si, upd]
theorem ci_sn {f g : Nat} {x y v : Int32} (h : (g == f) = false) : ci (si S f y v) g x = ci S g x := by
  have h1 : g ≠ f := fun e => by rw [e, beq_self_eq_true] at h; cases h
  simp [ci, si, h1]
theorem ci_j {f g : Nat} {x y : Int32} {v : Int64} : ci (sj S f y v) g x = ci S g x := id rfl
theorem cj_ss {f : Nat} {x : Int32} {v : Int64} : cj (sj S f x v) f x = v := by simp [cj, sj, vp_updL]
theorem cj_sn {f g : Nat} {x y : Int32} {v : Int64} (h : (g == f) = false) : cj (sj S f y v) g x = cj S g x := by
  have h1 : g ≠ f := fun e => by rw [e, beq_self_eq_true] at h; cases h
  simp [cj, sj, h1]
theorem cj_i {f g : Nat} {x y v : Int32} : cj (si S f y v) g x = cj S g x := id rfl
theorem ci_sc {f : Nat} {x y v : Int32} (h : (x.toNatClampNeg == y.toNatClampNeg) = false) : ci (si S f y v) f x = ci S f x := by
  have h1 : x.toNatClampNeg ≠ y.toNatClampNeg := fun e => by rw [e, beq_self_eq_true] at h; cases h
  simp [ci, si, upd, h1]
theorem cj_sc {f : Nat} {x y : Int32} {v : Int64} (h : (x.toNatClampNeg == y.toNatClampNeg) = false) : cj (sj S f y v) f x = cj S f x := by
  have h1 : x.toNatClampNeg ≠ y.toNatClampNeg := fun e => by rw [e, beq_self_eq_true] at h; cases h
  simp [cj, sj, vp_updL, h1]
theorem z_cV0 {bc1 bs1 idx maxL kd N : Nat} {y : MethodName} {bytes : ByteArray} {rt : Option FieldType} {rm : Room} {C : String} {T : u_T} {ty : Nat → FieldType} {x : Int32} (G : GX p l R s m args meth c k A own cc nL ret) (kb : KB kd C T N ty) (hX : HX X) (hx : lI X kd x) {r : Value} (hM : MC l k y (.code y bytes maxL rt) rm (vr X kd x :: []) (cW k X S) (pR (some r) h1)) (hyc : y.cls = C) (hlk : Cond.methodLink own idx y ∈ TB) (hv : hV y bytes maxL rt 0) (hR : rm.frames + 1 ≤ R.frames ∧ 8 + (maxL + 11) + rm.locals ≤ R.locals) (hw8 : (st.map fun v => v.category).sum ≤ 8) (hb1 : bc1 + rm.cells ≤ bc) (hb2 : bs1 + rm.slots ≤ bs) (d : decode cc pc = .ok (.invokevirtual idx, 3)) (kk : Wx p l e R s m args below meth c k A nL Q bc1 bs1 (pc + 3) L (r :: st) h1) : Wx p l e R s m args below meth c k A nL Q bc bs pc L (vr X kd x :: st) (cW k X S) := by
  rw [hx.vr] at hM ⊢
  have h9 := cW_in (k := k) (S := S) hX hx.lv
  exact x_cV0 (ci := kd) (fs := cF X S kd x.toNatClampNeg) G hM h9.1 (by rw [h9.2]; unfold cE; rw [if_pos kb.1]) (by rw [hyc]; exact kb.2.2.2.1) hlk hv hR hw8 hb1 hb2 d kk
theorem z_cVv0 {bc1 bs1 idx maxL kd N : Nat} {y : MethodName} {bytes : ByteArray} {rt : Option FieldType} {rm : Room} {C : String} {T : u_T} {ty : Nat → FieldType} {x : Int32} (G : GX p l R s m args meth c k A own cc nL ret) (kb : KB kd C T N ty) (hX : HX X) (hx : lI X kd x) (hM : MC l k y (.code y bytes maxL rt) rm (vr X kd x :: []) (cW k X S) (pR none h1)) (hyc : y.cls = C) (hlk : Cond.methodLink own idx y ∈ TB) (hv : hV y bytes maxL rt 0) (hR : rm.frames + 1 ≤ R.frames ∧ 8 + (maxL + 11) + rm.locals ≤ R.locals) (hw8 : (st.map fun v => v.category).sum ≤ 8) (hb1 : bc1 + rm.cells ≤ bc) (hb2 : bs1 + rm.slots ≤ bs) (d : decode cc pc = .ok (.invokevirtual idx, 3)) (kk : Wx p l e R s m args below meth c k A nL Q bc1 bs1 (pc + 3) L st h1) : Wx p l e R s m args below meth c k A nL Q bc bs pc L (vr X kd x :: st) (cW k X S) := by
  rw [hx.vr] at hM ⊢
  have h9 := cW_in (k := k) (S := S) hX hx.lv
  exact x_cVv0 (ci := kd) (fs := cF X S kd x.toNatClampNeg) G hM h9.1 (by rw [h9.2]; unfold cE; rw [if_pos kb.1]) (by rw [hyc]; exact kb.2.2.2.1) hlk hv hR hw8 hb1 hb2 d kk
theorem z_cVb0 {bc1 bs1 idx maxL kd N : Nat} {y : MethodName} {bytes : ByteArray} {rt : Option FieldType} {rm : Room} {C : String} {T : u_T} {ty : Nat → FieldType} {x : Int32} (G : GX p l R s m args meth c k A own cc nL ret) (kb : KB kd C T N ty) (hX : HX X) (hx : lI X kd x) {P : Prop} [Decidable P] (hM : (P → MC l k y (.code y bytes maxL rt) rm (vr X kd x :: []) (cW k X S) (pR (some (.int 1)) h1)) ∧ (¬ P → MC l k y (.code y bytes maxL rt) rm (vr X kd x :: []) (cW k X S) (pR (some (.int 0)) h1))) (hyc : y.cls = C) (hlk : Cond.methodLink own idx y ∈ TB) (hv : hV y bytes maxL rt 0) (hR : rm.frames + 1 ≤ R.frames ∧ 8 + (maxL + 11) + rm.locals ≤ R.locals) (hw8 : (st.map fun v => v.category).sum ≤ 8) (hb1 : bc1 + rm.cells ≤ bc) (hb2 : bs1 + rm.slots ≤ bs) (d : decode cc pc = .ok (.invokevirtual idx, 3)) (kt : P → Wx p l e R s m args below meth c k A nL Q bc1 bs1 (pc + 3) L (.int 1 :: st) h1) (kf : ¬ P → Wx p l e R s m args below meth c k A nL Q bc1 bs1 (pc + 3) L (.int 0 :: st) h1) : Wx p l e R s m args below meth c k A nL Q bc bs pc L (vr X kd x :: st) (cW k X S) := by
  rw [hx.vr] at hM ⊢
  have h9 := cW_in (k := k) (S := S) hX hx.lv
  exact x_cVb0 (ci := kd) (fs := cF X S kd x.toNatClampNeg) G hM h9.1 (by rw [h9.2]; unfold cE; rw [if_pos kb.1]) (by rw [hyc]; exact kb.2.2.2.1) hlk hv hR hw8 hb1 hb2 d kt kf
theorem z_cVt0 {bc1 bs1 idx maxL kd N : Nat} {y : MethodName} {bytes : ByteArray} {rt : Option FieldType} {rm : Room} {C : String} {T : u_T} {ty : Nat → FieldType} {x : Int32} (G : GX p l R s m args meth c k A own cc nL ret) (kb : KB kd C T N ty) (hX : HX X) (hx : lI X kd x) {E : String} {h0 : Wd} {post : Out → Wd → Prop} (B : RQ below args s R k A h0 post Q) (B2 : TQ below args s R k h0 post Q) (hout : ∀ x ∈ c.exceptionTable.toList, False) (hM : MC l k y (.code y bytes maxL rt) rm (vr X kd x :: []) (cW k X S) (pT E h1)) (hyc : y.cls = C) (hlk : Cond.methodLink own idx y ∈ TB) (hv : hV y bytes maxL rt 0) (hR : rm.frames + 1 ≤ R.frames ∧ 8 + (maxL + 11) + rm.locals ≤ R.locals) (hw8 : (st.map fun v => v.category).sum ≤ 8) (hb1 : bc1 + rm.cells ≤ bc) (hb2 : bs1 + rm.slots ≤ bs) (d : decode cc pc = .ok (.invokevirtual idx, 3)) (hp : post (.inr E) h1) : Wx p l e R s m args below meth c k A nL Q bc bs pc L (vr X kd x :: st) (cW k X S) := by
  rw [hx.vr] at hM ⊢
  have h9 := cW_in (k := k) (S := S) hX hx.lv
  exact x_cVt0 (ci := kd) (fs := cF X S kd x.toNatClampNeg) G B B2 hout hM h9.1 (by rw [h9.2]; unfold cE; rw [if_pos kb.1]) (by rw [hyc]; exact kb.2.2.2.1) hlk hv hR hw8 hb1 hb2 d hp
theorem z_cV1 {bc1 bs1 idx maxL kd N : Nat} {y : MethodName} {bytes : ByteArray} {rt : Option FieldType} {rm : Room} {C : String} {T : u_T} {ty : Nat → FieldType} {a1 : Value} {x : Int32} (G : GX p l R s m args meth c k A own cc nL ret) (kb : KB kd C T N ty) (hX : HX X) (hx : lI X kd x) {r : Value} (hM : MC l k y (.code y bytes maxL rt) rm (vr X kd x :: [a1]) (cW k X S) (pR (some r) h1)) (hyc : y.cls = C) (hlk : Cond.methodLink own idx y ∈ TB) (hv : hV y bytes maxL rt 1) (hR : rm.frames + 1 ≤ R.frames ∧ 8 + (maxL + 11) + rm.locals ≤ R.locals) (hw8 : (st.map fun v => v.category).sum ≤ 8) (hb1 : bc1 + rm.cells ≤ bc) (hb2 : bs1 + rm.slots ≤ bs) (d : decode cc pc = .ok (.invokevirtual idx, 3)) (kk : Wx p l e R s m args below meth c k A nL Q bc1 bs1 (pc + 3) L (r :: st) h1) : Wx p l e R s m args below meth c k A nL Q bc bs pc L (a1 :: vr X kd x :: st) (cW k X S) := by
  rw [hx.vr] at hM ⊢
  have h9 := cW_in (k := k) (S := S) hX hx.lv
  exact x_cV1 (ci := kd) (fs := cF X S kd x.toNatClampNeg) G hM h9.1 (by rw [h9.2]; unfold cE; rw [if_pos kb.1]) (by rw [hyc]; exact kb.2.2.2.1) hlk hv hR hw8 hb1 hb2 d kk
theorem z_cVv1 {bc1 bs1 idx maxL kd N : Nat} {y : MethodName} {bytes : ByteArray} {rt : Option FieldType} {rm : Room} {C : String} {T : u_T} {ty : Nat → FieldType} {a1 : Value} {x : Int32} (G : GX p l R s m args meth c k A own cc nL ret) (kb : KB kd C T N ty) (hX : HX X) (hx : lI X kd x) (hM : MC l k y (.code y bytes maxL rt) rm (vr X kd x :: [a1]) (cW k X S) (pR none h1)) (hyc : y.cls = C) (hlk : Cond.methodLink own idx y ∈ TB) (hv : hV y bytes maxL rt 1) (hR : rm.frames + 1 ≤ R.frames ∧ 8 + (maxL + 11) + rm.locals ≤ R.locals) (hw8 : (st.map fun v => v.category).sum ≤ 8) (hb1 : bc1 + rm.cells ≤ bc) (hb2 : bs1 + rm.slots ≤ bs) (d : decode cc pc = .ok (.invokevirtual idx, 3)) (kk : Wx p l e R s m args below meth c k A nL Q bc1 bs1 (pc + 3) L st h1) : Wx p l e R s m args below meth c k A nL Q bc bs pc L (a1 :: vr X kd x :: st) (cW k X S) := by
  rw [hx.vr] at hM ⊢
  have h9 := cW_in (k := k) (S := S) hX hx.lv
  exact x_cVv1 (ci := kd) (fs := cF X S kd x.toNatClampNeg) G hM h9.1 (by rw [h9.2]; unfold cE; rw [if_pos kb.1]) (by rw [hyc]; exact kb.2.2.2.1) hlk hv hR hw8 hb1 hb2 d kk
theorem z_cVb1 {bc1 bs1 idx maxL kd N : Nat} {y : MethodName} {bytes : ByteArray} {rt : Option FieldType} {rm : Room} {C : String} {T : u_T} {ty : Nat → FieldType} {a1 : Value} {x : Int32} (G : GX p l R s m args meth c k A own cc nL ret) (kb : KB kd C T N ty) (hX : HX X) (hx : lI X kd x) {P : Prop} [Decidable P] (hM : (P → MC l k y (.code y bytes maxL rt) rm (vr X kd x :: [a1]) (cW k X S) (pR (some (.int 1)) h1)) ∧ (¬ P → MC l k y (.code y bytes maxL rt) rm (vr X kd x :: [a1]) (cW k X S) (pR (some (.int 0)) h1))) (hyc : y.cls = C) (hlk : Cond.methodLink own idx y ∈ TB) (hv : hV y bytes maxL rt 1) (hR : rm.frames + 1 ≤ R.frames ∧ 8 + (maxL + 11) + rm.locals ≤ R.locals) (hw8 : (st.map fun v => v.category).sum ≤ 8) (hb1 : bc1 + rm.cells ≤ bc) (hb2 : bs1 + rm.slots ≤ bs) (d : decode cc pc = .ok (.invokevirtual idx, 3)) (kt : P → Wx p l e R s m args below meth c k A nL Q bc1 bs1 (pc + 3) L (.int 1 :: st) h1) (kf : ¬ P → Wx p l e R s m args below meth c k A nL Q bc1 bs1 (pc + 3) L (.int 0 :: st) h1) : Wx p l e R s m args below meth c k A nL Q bc bs pc L (a1 :: vr X kd x :: st) (cW k X S) := by
  rw [hx.vr] at hM ⊢
  have h9 := cW_in (k := k) (S := S) hX hx.lv
  exact x_cVb1 (ci := kd) (fs := cF X S kd x.toNatClampNeg) G hM h9.1 (by rw [h9.2]; unfold cE; rw [if_pos kb.1]) (by rw [hyc]; exact kb.2.2.2.1) hlk hv hR hw8 hb1 hb2 d kt kf
theorem z_cVt1 {bc1 bs1 idx maxL kd N : Nat} {y : MethodName} {bytes : ByteArray} {rt : Option FieldType} {rm : Room} {C : String} {T : u_T} {ty : Nat → FieldType} {a1 : Value} {x : Int32} (G : GX p l R s m args meth c k A own cc nL ret) (kb : KB kd C T N ty) (hX : HX X) (hx : lI X kd x) {E : String} {h0 : Wd} {post : Out → Wd → Prop} (B : RQ below args s R k A h0 post Q) (B2 : TQ below args s R k h0 post Q) (hout : ∀ x ∈ c.exceptionTable.toList, False) (hM : MC l k y (.code y bytes maxL rt) rm (vr X kd x :: [a1]) (cW k X S) (pT E h1)) (hyc : y.cls = C) (hlk : Cond.methodLink own idx y ∈ TB) (hv : hV y bytes maxL rt 1) (hR : rm.frames + 1 ≤ R.frames ∧ 8 + (maxL + 11) + rm.locals ≤ R.locals) (hw8 : (st.map fun v => v.category).sum ≤ 8) (hb1 : bc1 + rm.cells ≤ bc) (hb2 : bs1 + rm.slots ≤ bs) (d : decode cc pc = .ok (.invokevirtual idx, 3)) (hp : post (.inr E) h1) : Wx p l e R s m args below meth c k A nL Q bc bs pc L (a1 :: vr X kd x :: st) (cW k X S) := by
  rw [hx.vr] at hM ⊢
  have h9 := cW_in (k := k) (S := S) hX hx.lv
  exact x_cVt1 (ci := kd) (fs := cF X S kd x.toNatClampNeg) G B B2 hout hM h9.1 (by rw [h9.2]; unfold cE; rw [if_pos kb.1]) (by rw [hyc]; exact kb.2.2.2.1) hlk hv hR hw8 hb1 hb2 d hp
theorem z_cV2 {bc1 bs1 idx maxL kd N : Nat} {y : MethodName} {bytes : ByteArray} {rt : Option FieldType} {rm : Room} {C : String} {T : u_T} {ty : Nat → FieldType} {a1 a2 : Value} {x : Int32} (G : GX p l R s m args meth c k A own cc nL ret) (kb : KB kd C T N ty) (hX : HX X) (hx : lI X kd x) {r : Value} (hM : MC l k y (.code y bytes maxL rt) rm (vr X kd x :: [a1, a2]) (cW k X S) (pR (some r) h1)) (hyc : y.cls = C) (hlk : Cond.methodLink own idx y ∈ TB) (hv : hV y bytes maxL rt 2) (hR : rm.frames + 1 ≤ R.frames ∧ 8 + (maxL + 11) + rm.locals ≤ R.locals) (hw8 : (st.map fun v => v.category).sum ≤ 8) (hb1 : bc1 + rm.cells ≤ bc) (hb2 : bs1 + rm.slots ≤ bs) (d : decode cc pc = .ok (.invokevirtual idx, 3)) (kk : Wx p l e R s m args below meth c k A nL Q bc1 bs1 (pc + 3) L (r :: st) h1) : Wx p l e R s m args below meth c k A nL Q bc bs pc L (a2 :: a1 :: vr X kd x :: st) (cW k X S) := by
  rw [hx.vr] at hM ⊢
  have h9 := cW_in (k := k) (S := S) hX hx.lv
  exact x_cV2 (ci := kd) (fs := cF X S kd x.toNatClampNeg) G hM h9.1 (by rw [h9.2]; unfold cE; rw [if_pos kb.1]) (by rw [hyc]; exact kb.2.2.2.1) hlk hv hR hw8 hb1 hb2 d kk
theorem z_cVv2 {bc1 bs1 idx maxL kd N : Nat} {y : MethodName} {bytes : ByteArray} {rt : Option FieldType} {rm : Room} {C : String} {T : u_T} {ty : Nat → FieldType} {a1 a2 : Value} {x : Int32} (G : GX p l R s m args meth c k A own cc nL ret) (kb : KB kd C T N ty) (hX : HX X) (hx : lI X kd x) (hM : MC l k y (.code y bytes maxL rt) rm (vr X kd x :: [a1, a2]) (cW k X S) (pR none h1)) (hyc : y.cls = C) (hlk : Cond.methodLink own idx y ∈ TB) (hv : hV y bytes maxL rt 2) (hR : rm.frames + 1 ≤ R.frames ∧ 8 + (maxL + 11) + rm.locals ≤ R.locals) (hw8 : (st.map fun v => v.category).sum ≤ 8) (hb1 : bc1 + rm.cells ≤ bc) (hb2 : bs1 + rm.slots ≤ bs) (d : decode cc pc = .ok (.invokevirtual idx, 3)) (kk : Wx p l e R s m args below meth c k A nL Q bc1 bs1 (pc + 3) L st h1) : Wx p l e R s m args below meth c k A nL Q bc bs pc L (a2 :: a1 :: vr X kd x :: st) (cW k X S) := by
  rw [hx.vr] at hM ⊢
  have h9 := cW_in (k := k) (S := S) hX hx.lv
  exact x_cVv2 (ci := kd) (fs := cF X S kd x.toNatClampNeg) G hM h9.1 (by rw [h9.2]; unfold cE; rw [if_pos kb.1]) (by rw [hyc]; exact kb.2.2.2.1) hlk hv hR hw8 hb1 hb2 d kk
theorem z_cVb2 {bc1 bs1 idx maxL kd N : Nat} {y : MethodName} {bytes : ByteArray} {rt : Option FieldType} {rm : Room} {C : String} {T : u_T} {ty : Nat → FieldType} {a1 a2 : Value} {x : Int32} (G : GX p l R s m args meth c k A own cc nL ret) (kb : KB kd C T N ty) (hX : HX X) (hx : lI X kd x) {P : Prop} [Decidable P] (hM : (P → MC l k y (.code y bytes maxL rt) rm (vr X kd x :: [a1, a2]) (cW k X S) (pR (some (.int 1)) h1)) ∧ (¬ P → MC l k y (.code y bytes maxL rt) rm (vr X kd x :: [a1, a2]) (cW k X S) (pR (some (.int 0)) h1))) (hyc : y.cls = C) (hlk : Cond.methodLink own idx y ∈ TB) (hv : hV y bytes maxL rt 2) (hR : rm.frames + 1 ≤ R.frames ∧ 8 + (maxL + 11) + rm.locals ≤ R.locals) (hw8 : (st.map fun v => v.category).sum ≤ 8) (hb1 : bc1 + rm.cells ≤ bc) (hb2 : bs1 + rm.slots ≤ bs) (d : decode cc pc = .ok (.invokevirtual idx, 3)) (kt : P → Wx p l e R s m args below meth c k A nL Q bc1 bs1 (pc + 3) L (.int 1 :: st) h1) (kf : ¬ P → Wx p l e R s m args below meth c k A nL Q bc1 bs1 (pc + 3) L (.int 0 :: st) h1) : Wx p l e R s m args below meth c k A nL Q bc bs pc L (a2 :: a1 :: vr X kd x :: st) (cW k X S) := by
  rw [hx.vr] at hM ⊢
  have h9 := cW_in (k := k) (S := S) hX hx.lv
  exact x_cVb2 (ci := kd) (fs := cF X S kd x.toNatClampNeg) G hM h9.1 (by rw [h9.2]; unfold cE; rw [if_pos kb.1]) (by rw [hyc]; exact kb.2.2.2.1) hlk hv hR hw8 hb1 hb2 d kt kf
theorem z_cVt2 {bc1 bs1 idx maxL kd N : Nat} {y : MethodName} {bytes : ByteArray} {rt : Option FieldType} {rm : Room} {C : String} {T : u_T} {ty : Nat → FieldType} {a1 a2 : Value} {x : Int32} (G : GX p l R s m args meth c k A own cc nL ret) (kb : KB kd C T N ty) (hX : HX X) (hx : lI X kd x) {E : String} {h0 : Wd} {post : Out → Wd → Prop} (B : RQ below args s R k A h0 post Q) (B2 : TQ below args s R k h0 post Q) (hout : ∀ x ∈ c.exceptionTable.toList, False) (hM : MC l k y (.code y bytes maxL rt) rm (vr X kd x :: [a1, a2]) (cW k X S) (pT E h1)) (hyc : y.cls = C) (hlk : Cond.methodLink own idx y ∈ TB) (hv : hV y bytes maxL rt 2) (hR : rm.frames + 1 ≤ R.frames ∧ 8 + (maxL + 11) + rm.locals ≤ R.locals) (hw8 : (st.map fun v => v.category).sum ≤ 8) (hb1 : bc1 + rm.cells ≤ bc) (hb2 : bs1 + rm.slots ≤ bs) (d : decode cc pc = .ok (.invokevirtual idx, 3)) (hp : post (.inr E) h1) : Wx p l e R s m args below meth c k A nL Q bc bs pc L (a2 :: a1 :: vr X kd x :: st) (cW k X S) := by
  rw [hx.vr] at hM ⊢
  have h9 := cW_in (k := k) (S := S) hX hx.lv
  exact x_cVt2 (ci := kd) (fs := cF X S kd x.toNatClampNeg) G B B2 hout hM h9.1 (by rw [h9.2]; unfold cE; rw [if_pos kb.1]) (by rw [hyc]; exact kb.2.2.2.1) hlk hv hR hw8 hb1 hb2 d hp
theorem z_cV3 {bc1 bs1 idx maxL kd N : Nat} {y : MethodName} {bytes : ByteArray} {rt : Option FieldType} {rm : Room} {C : String} {T : u_T} {ty : Nat → FieldType} {a1 a2 a3 : Value} {x : Int32} (G : GX p l R s m args meth c k A own cc nL ret) (kb : KB kd C T N ty) (hX : HX X) (hx : lI X kd x) {r : Value} (hM : MC l k y (.code y bytes maxL rt) rm (vr X kd x :: [a1, a2, a3]) (cW k X S) (pR (some r) h1)) (hyc : y.cls = C) (hlk : Cond.methodLink own idx y ∈ TB) (hv : hV y bytes maxL rt 3) (hR : rm.frames + 1 ≤ R.frames ∧ 8 + (maxL + 11) + rm.locals ≤ R.locals) (hw8 : (st.map fun v => v.category).sum ≤ 8) (hb1 : bc1 + rm.cells ≤ bc) (hb2 : bs1 + rm.slots ≤ bs) (d : decode cc pc = .ok (.invokevirtual idx, 3)) (kk : Wx p l e R s m args below meth c k A nL Q bc1 bs1 (pc + 3) L (r :: st) h1) : Wx p l e R s m args below meth c k A nL Q bc bs pc L (a3 :: a2 :: a1 :: vr X kd x :: st) (cW k X S) := by
  rw [hx.vr] at hM ⊢
  have h9 := cW_in (k := k) (S := S) hX hx.lv
  exact x_cV3 (ci := kd) (fs := cF X S kd x.toNatClampNeg) G hM h9.1 (by rw [h9.2]; unfold cE; rw [if_pos kb.1]) (by rw [hyc]; exact kb.2.2.2.1) hlk hv hR hw8 hb1 hb2 d kk
theorem z_cVv3 {bc1 bs1 idx maxL kd N : Nat} {y : MethodName} {bytes : ByteArray} {rt : Option FieldType} {rm : Room} {C : String} {T : u_T} {ty : Nat → FieldType} {a1 a2 a3 : Value} {x : Int32} (G : GX p l R s m args meth c k A own cc nL ret) (kb : KB kd C T N ty) (hX : HX X) (hx : lI X kd x) (hM : MC l k y (.code y bytes maxL rt) rm (vr X kd x :: [a1, a2, a3]) (cW k X S) (pR none h1)) (hyc : y.cls = C) (hlk : Cond.methodLink own idx y ∈ TB) (hv : hV y bytes maxL rt 3) (hR : rm.frames + 1 ≤ R.frames ∧ 8 + (maxL + 11) + rm.locals ≤ R.locals) (hw8 : (st.map fun v => v.category).sum ≤ 8) (hb1 : bc1 + rm.cells ≤ bc) (hb2 : bs1 + rm.slots ≤ bs) (d : decode cc pc = .ok (.invokevirtual idx, 3)) (kk : Wx p l e R s m args below meth c k A nL Q bc1 bs1 (pc + 3) L st h1) : Wx p l e R s m args below meth c k A nL Q bc bs pc L (a3 :: a2 :: a1 :: vr X kd x :: st) (cW k X S) := by
  rw [hx.vr] at hM ⊢
  have h9 := cW_in (k := k) (S := S) hX hx.lv
  exact x_cVv3 (ci := kd) (fs := cF X S kd x.toNatClampNeg) G hM h9.1 (by rw [h9.2]; unfold cE; rw [if_pos kb.1]) (by rw [hyc]; exact kb.2.2.2.1) hlk hv hR hw8 hb1 hb2 d kk
theorem z_cVb3 {bc1 bs1 idx maxL kd N : Nat} {y : MethodName} {bytes : ByteArray} {rt : Option FieldType} {rm : Room} {C : String} {T : u_T} {ty : Nat → FieldType} {a1 a2 a3 : Value} {x : Int32} (G : GX p l R s m args meth c k A own cc nL ret) (kb : KB kd C T N ty) (hX : HX X) (hx : lI X kd x) {P : Prop} [Decidable P] (hM : (P → MC l k y (.code y bytes maxL rt) rm (vr X kd x :: [a1, a2, a3]) (cW k X S) (pR (some (.int 1)) h1)) ∧ (¬ P → MC l k y (.code y bytes maxL rt) rm (vr X kd x :: [a1, a2, a3]) (cW k X S) (pR (some (.int 0)) h1))) (hyc : y.cls = C) (hlk : Cond.methodLink own idx y ∈ TB) (hv : hV y bytes maxL rt 3) (hR : rm.frames + 1 ≤ R.frames ∧ 8 + (maxL + 11) + rm.locals ≤ R.locals) (hw8 : (st.map fun v => v.category).sum ≤ 8) (hb1 : bc1 + rm.cells ≤ bc) (hb2 : bs1 + rm.slots ≤ bs) (d : decode cc pc = .ok (.invokevirtual idx, 3)) (kt : P → Wx p l e R s m args below meth c k A nL Q bc1 bs1 (pc + 3) L (.int 1 :: st) h1) (kf : ¬ P → Wx p l e R s m args below meth c k A nL Q bc1 bs1 (pc + 3) L (.int 0 :: st) h1) : Wx p l e R s m args below meth c k A nL Q bc bs pc L (a3 :: a2 :: a1 :: vr X kd x :: st) (cW k X S) := by
  rw [hx.vr] at hM ⊢
  have h9 := cW_in (k := k) (S := S) hX hx.lv
  exact x_cVb3 (ci := kd) (fs := cF X S kd x.toNatClampNeg) G hM h9.1 (by rw [h9.2]; unfold cE; rw [if_pos kb.1]) (by rw [hyc]; exact kb.2.2.2.1) hlk hv hR hw8 hb1 hb2 d kt kf
theorem z_cVt3 {bc1 bs1 idx maxL kd N : Nat} {y : MethodName} {bytes : ByteArray} {rt : Option FieldType} {rm : Room} {C : String} {T : u_T} {ty : Nat → FieldType} {a1 a2 a3 : Value} {x : Int32} (G : GX p l R s m args meth c k A own cc nL ret) (kb : KB kd C T N ty) (hX : HX X) (hx : lI X kd x) {E : String} {h0 : Wd} {post : Out → Wd → Prop} (B : RQ below args s R k A h0 post Q) (B2 : TQ below args s R k h0 post Q) (hout : ∀ x ∈ c.exceptionTable.toList, False) (hM : MC l k y (.code y bytes maxL rt) rm (vr X kd x :: [a1, a2, a3]) (cW k X S) (pT E h1)) (hyc : y.cls = C) (hlk : Cond.methodLink own idx y ∈ TB) (hv : hV y bytes maxL rt 3) (hR : rm.frames + 1 ≤ R.frames ∧ 8 + (maxL + 11) + rm.locals ≤ R.locals) (hw8 : (st.map fun v => v.category).sum ≤ 8) (hb1 : bc1 + rm.cells ≤ bc) (hb2 : bs1 + rm.slots ≤ bs) (d : decode cc pc = .ok (.invokevirtual idx, 3)) (hp : post (.inr E) h1) : Wx p l e R s m args below meth c k A nL Q bc bs pc L (a3 :: a2 :: a1 :: vr X kd x :: st) (cW k X S) := by
  rw [hx.vr] at hM ⊢
  have h9 := cW_in (k := k) (S := S) hX hx.lv
  exact x_cVt3 (ci := kd) (fs := cF X S kd x.toNatClampNeg) G B B2 hout hM h9.1 (by rw [h9.2]; unfold cE; rw [if_pos kb.1]) (by rw [hyc]; exact kb.2.2.2.1) hlk hv hR hw8 hb1 hb2 d hp
theorem z_cV4 {bc1 bs1 idx maxL kd N : Nat} {y : MethodName} {bytes : ByteArray} {rt : Option FieldType} {rm : Room} {C : String} {T : u_T} {ty : Nat → FieldType} {a1 a2 a3 a4 : Value} {x : Int32} (G : GX p l R s m args meth c k A own cc nL ret) (kb : KB kd C T N ty) (hX : HX X) (hx : lI X kd x) {r : Value} (hM : MC l k y (.code y bytes maxL rt) rm (vr X kd x :: [a1, a2, a3, a4]) (cW k X S) (pR (some r) h1)) (hyc : y.cls = C) (hlk : Cond.methodLink own idx y ∈ TB) (hv : hV y bytes maxL rt 4) (hR : rm.frames + 1 ≤ R.frames ∧ 8 + (maxL + 11) + rm.locals ≤ R.locals) (hw8 : (st.map fun v => v.category).sum ≤ 8) (hb1 : bc1 + rm.cells ≤ bc) (hb2 : bs1 + rm.slots ≤ bs) (d : decode cc pc = .ok (.invokevirtual idx, 3)) (kk : Wx p l e R s m args below meth c k A nL Q bc1 bs1 (pc + 3) L (r :: st) h1) : Wx p l e R s m args below meth c k A nL Q bc bs pc L (a4 :: a3 :: a2 :: a1 :: vr X kd x :: st) (cW k X S) := by
  rw [hx.vr] at hM ⊢
  have h9 := cW_in (k := k) (S := S) hX hx.lv
  exact x_cV4 (ci := kd) (fs := cF X S kd x.toNatClampNeg) G hM h9.1 (by rw [h9.2]; unfold cE; rw [if_pos kb.1]) (by rw [hyc]; exact kb.2.2.2.1) hlk hv hR hw8 hb1 hb2 d kk
theorem z_cVv4 {bc1 bs1 idx maxL kd N : Nat} {y : MethodName} {bytes : ByteArray} {rt : Option FieldType} {rm : Room} {C : String} {T : u_T} {ty : Nat → FieldType} {a1 a2 a3 a4 : Value} {x : Int32} (G : GX p l R s m args meth c k A own cc nL ret) (kb : KB kd C T N ty) (hX : HX X) (hx : lI X kd x) (hM : MC l k y (.code y bytes maxL rt) rm (vr X kd x :: [a1, a2, a3, a4]) (cW k X S) (pR none h1)) (hyc : y.cls = C) (hlk : Cond.methodLink own idx y ∈ TB) (hv : hV y bytes maxL rt 4) (hR : rm.frames + 1 ≤ R.frames ∧ 8 + (maxL + 11) + rm.locals ≤ R.locals) (hw8 : (st.map fun v => v.category).sum ≤ 8) (hb1 : bc1 + rm.cells ≤ bc) (hb2 : bs1 + rm.slots ≤ bs) (d : decode cc pc = .ok (.invokevirtual idx, 3)) (kk : Wx p l e R s m args below meth c k A nL Q bc1 bs1 (pc + 3) L st h1) : Wx p l e R s m args below meth c k A nL Q bc bs pc L (a4 :: a3 :: a2 :: a1 :: vr X kd x :: st) (cW k X S) := by
  rw [hx.vr] at hM ⊢
  have h9 := cW_in (k := k) (S := S) hX hx.lv
  exact x_cVv4 (ci := kd) (fs := cF X S kd x.toNatClampNeg) G hM h9.1 (by rw [h9.2]; unfold cE; rw [if_pos kb.1]) (by rw [hyc]; exact kb.2.2.2.1) hlk hv hR hw8 hb1 hb2 d kk
theorem z_cVb4 {bc1 bs1 idx maxL kd N : Nat} {y : MethodName} {bytes : ByteArray} {rt : Option FieldType} {rm : Room} {C : String} {T : u_T} {ty : Nat → FieldType} {a1 a2 a3 a4 : Value} {x : Int32} (G : GX p l R s m args meth c k A own cc nL ret) (kb : KB kd C T N ty) (hX : HX X) (hx : lI X kd x) {P : Prop} [Decidable P] (hM : (P → MC l k y (.code y bytes maxL rt) rm (vr X kd x :: [a1, a2, a3, a4]) (cW k X S) (pR (some (.int 1)) h1)) ∧ (¬ P → MC l k y (.code y bytes maxL rt) rm (vr X kd x :: [a1, a2, a3, a4]) (cW k X S) (pR (some (.int 0)) h1))) (hyc : y.cls = C) (hlk : Cond.methodLink own idx y ∈ TB) (hv : hV y bytes maxL rt 4) (hR : rm.frames + 1 ≤ R.frames ∧ 8 + (maxL + 11) + rm.locals ≤ R.locals) (hw8 : (st.map fun v => v.category).sum ≤ 8) (hb1 : bc1 + rm.cells ≤ bc) (hb2 : bs1 + rm.slots ≤ bs) (d : decode cc pc = .ok (.invokevirtual idx, 3)) (kt : P → Wx p l e R s m args below meth c k A nL Q bc1 bs1 (pc + 3) L (.int 1 :: st) h1) (kf : ¬ P → Wx p l e R s m args below meth c k A nL Q bc1 bs1 (pc + 3) L (.int 0 :: st) h1) : Wx p l e R s m args below meth c k A nL Q bc bs pc L (a4 :: a3 :: a2 :: a1 :: vr X kd x :: st) (cW k X S) := by
  rw [hx.vr] at hM ⊢
  have h9 := cW_in (k := k) (S := S) hX hx.lv
  exact x_cVb4 (ci := kd) (fs := cF X S kd x.toNatClampNeg) G hM h9.1 (by rw [h9.2]; unfold cE; rw [if_pos kb.1]) (by rw [hyc]; exact kb.2.2.2.1) hlk hv hR hw8 hb1 hb2 d kt kf
theorem z_cVt4 {bc1 bs1 idx maxL kd N : Nat} {y : MethodName} {bytes : ByteArray} {rt : Option FieldType} {rm : Room} {C : String} {T : u_T} {ty : Nat → FieldType} {a1 a2 a3 a4 : Value} {x : Int32} (G : GX p l R s m args meth c k A own cc nL ret) (kb : KB kd C T N ty) (hX : HX X) (hx : lI X kd x) {E : String} {h0 : Wd} {post : Out → Wd → Prop} (B : RQ below args s R k A h0 post Q) (B2 : TQ below args s R k h0 post Q) (hout : ∀ x ∈ c.exceptionTable.toList, False) (hM : MC l k y (.code y bytes maxL rt) rm (vr X kd x :: [a1, a2, a3, a4]) (cW k X S) (pT E h1)) (hyc : y.cls = C) (hlk : Cond.methodLink own idx y ∈ TB) (hv : hV y bytes maxL rt 4) (hR : rm.frames + 1 ≤ R.frames ∧ 8 + (maxL + 11) + rm.locals ≤ R.locals) (hw8 : (st.map fun v => v.category).sum ≤ 8) (hb1 : bc1 + rm.cells ≤ bc) (hb2 : bs1 + rm.slots ≤ bs) (d : decode cc pc = .ok (.invokevirtual idx, 3)) (hp : post (.inr E) h1) : Wx p l e R s m args below meth c k A nL Q bc bs pc L (a4 :: a3 :: a2 :: a1 :: vr X kd x :: st) (cW k X S) := by
  rw [hx.vr] at hM ⊢
  have h9 := cW_in (k := k) (S := S) hX hx.lv
  exact x_cVt4 (ci := kd) (fs := cF X S kd x.toNatClampNeg) G B B2 hout hM h9.1 (by rw [h9.2]; unfold cE; rw [if_pos kb.1]) (by rw [hyc]; exact kb.2.2.2.1) hlk hv hR hw8 hb1 hb2 d hp
theorem z_cV5 {bc1 bs1 idx maxL kd N : Nat} {y : MethodName} {bytes : ByteArray} {rt : Option FieldType} {rm : Room} {C : String} {T : u_T} {ty : Nat → FieldType} {a1 a2 a3 a4 a5 : Value} {x : Int32} (G : GX p l R s m args meth c k A own cc nL ret) (kb : KB kd C T N ty) (hX : HX X) (hx : lI X kd x) {r : Value} (hM : MC l k y (.code y bytes maxL rt) rm (vr X kd x :: [a1, a2, a3, a4, a5]) (cW k X S) (pR (some r) h1)) (hyc : y.cls = C) (hlk : Cond.methodLink own idx y ∈ TB) (hv : hV y bytes maxL rt 5) (hR : rm.frames + 1 ≤ R.frames ∧ 8 + (maxL + 11) + rm.locals ≤ R.locals) (hw8 : (st.map fun v => v.category).sum ≤ 8) (hb1 : bc1 + rm.cells ≤ bc) (hb2 : bs1 + rm.slots ≤ bs) (d : decode cc pc = .ok (.invokevirtual idx, 3)) (kk : Wx p l e R s m args below meth c k A nL Q bc1 bs1 (pc + 3) L (r :: st) h1) : Wx p l e R s m args below meth c k A nL Q bc bs pc L (a5 :: a4 :: a3 :: a2 :: a1 :: vr X kd x :: st) (cW k X S) := by
  rw [hx.vr] at hM ⊢
  have h9 := cW_in (k := k) (S := S) hX hx.lv
  exact x_cV5 (ci := kd) (fs := cF X S kd x.toNatClampNeg) G hM h9.1 (by rw [h9.2]; unfold cE; rw [if_pos kb.1]) (by rw [hyc]; exact kb.2.2.2.1) hlk hv hR hw8 hb1 hb2 d kk
theorem z_cVv5 {bc1 bs1 idx maxL kd N : Nat} {y : MethodName} {bytes : ByteArray} {rt : Option FieldType} {rm : Room} {C : String} {T : u_T} {ty : Nat → FieldType} {a1 a2 a3 a4 a5 : Value} {x : Int32} (G : GX p l R s m args meth c k A own cc nL ret) (kb : KB kd C T N ty) (hX : HX X) (hx : lI X kd x) (hM : MC l k y (.code y bytes maxL rt) rm (vr X kd x :: [a1, a2, a3, a4, a5]) (cW k X S) (pR none h1)) (hyc : y.cls = C) (hlk : Cond.methodLink own idx y ∈ TB) (hv : hV y bytes maxL rt 5) (hR : rm.frames + 1 ≤ R.frames ∧ 8 + (maxL + 11) + rm.locals ≤ R.locals) (hw8 : (st.map fun v => v.category).sum ≤ 8) (hb1 : bc1 + rm.cells ≤ bc) (hb2 : bs1 + rm.slots ≤ bs) (d : decode cc pc = .ok (.invokevirtual idx, 3)) (kk : Wx p l e R s m args below meth c k A nL Q bc1 bs1 (pc + 3) L st h1) : Wx p l e R s m args below meth c k A nL Q bc bs pc L (a5 :: a4 :: a3 :: a2 :: a1 :: vr X kd x :: st) (cW k X S) := by
  rw [hx.vr] at hM ⊢
  have h9 := cW_in (k := k) (S := S) hX hx.lv
  exact x_cVv5 (ci := kd) (fs := cF X S kd x.toNatClampNeg) G hM h9.1 (by rw [h9.2]; unfold cE; rw [if_pos kb.1]) (by rw [hyc]; exact kb.2.2.2.1) hlk hv hR hw8 hb1 hb2 d kk
theorem z_cVb5 {bc1 bs1 idx maxL kd N : Nat} {y : MethodName} {bytes : ByteArray} {rt : Option FieldType} {rm : Room} {C : String} {T : u_T} {ty : Nat → FieldType} {a1 a2 a3 a4 a5 : Value} {x : Int32} (G : GX p l R s m args meth c k A own cc nL ret) (kb : KB kd C T N ty) (hX : HX X) (hx : lI X kd x) {P : Prop} [Decidable P] (hM : (P → MC l k y (.code y bytes maxL rt) rm (vr X kd x :: [a1, a2, a3, a4, a5]) (cW k X S) (pR (some (.int 1)) h1)) ∧ (¬ P → MC l k y (.code y bytes maxL rt) rm (vr X kd x :: [a1, a2, a3, a4, a5]) (cW k X S) (pR (some (.int 0)) h1))) (hyc : y.cls = C) (hlk : Cond.methodLink own idx y ∈ TB) (hv : hV y bytes maxL rt 5) (hR : rm.frames + 1 ≤ R.frames ∧ 8 + (maxL + 11) + rm.locals ≤ R.locals) (hw8 : (st.map fun v => v.category).sum ≤ 8) (hb1 : bc1 + rm.cells ≤ bc) (hb2 : bs1 + rm.slots ≤ bs) (d : decode cc pc = .ok (.invokevirtual idx, 3)) (kt : P → Wx p l e R s m args below meth c k A nL Q bc1 bs1 (pc + 3) L (.int 1 :: st) h1) (kf : ¬ P → Wx p l e R s m args below meth c k A nL Q bc1 bs1 (pc + 3) L (.int 0 :: st) h1) : Wx p l e R s m args below meth c k A nL Q bc bs pc L (a5 :: a4 :: a3 :: a2 :: a1 :: vr X kd x :: st) (cW k X S) := by
  rw [hx.vr] at hM ⊢
  have h9 := cW_in (k := k) (S := S) hX hx.lv
  exact x_cVb5 (ci := kd) (fs := cF X S kd x.toNatClampNeg) G hM h9.1 (by rw [h9.2]; unfold cE; rw [if_pos kb.1]) (by rw [hyc]; exact kb.2.2.2.1) hlk hv hR hw8 hb1 hb2 d kt kf
theorem z_cVt5 {bc1 bs1 idx maxL kd N : Nat} {y : MethodName} {bytes : ByteArray} {rt : Option FieldType} {rm : Room} {C : String} {T : u_T} {ty : Nat → FieldType} {a1 a2 a3 a4 a5 : Value} {x : Int32} (G : GX p l R s m args meth c k A own cc nL ret) (kb : KB kd C T N ty) (hX : HX X) (hx : lI X kd x) {E : String} {h0 : Wd} {post : Out → Wd → Prop} (B : RQ below args s R k A h0 post Q) (B2 : TQ below args s R k h0 post Q) (hout : ∀ x ∈ c.exceptionTable.toList, False) (hM : MC l k y (.code y bytes maxL rt) rm (vr X kd x :: [a1, a2, a3, a4, a5]) (cW k X S) (pT E h1)) (hyc : y.cls = C) (hlk : Cond.methodLink own idx y ∈ TB) (hv : hV y bytes maxL rt 5) (hR : rm.frames + 1 ≤ R.frames ∧ 8 + (maxL + 11) + rm.locals ≤ R.locals) (hw8 : (st.map fun v => v.category).sum ≤ 8) (hb1 : bc1 + rm.cells ≤ bc) (hb2 : bs1 + rm.slots ≤ bs) (d : decode cc pc = .ok (.invokevirtual idx, 3)) (hp : post (.inr E) h1) : Wx p l e R s m args below meth c k A nL Q bc bs pc L (a5 :: a4 :: a3 :: a2 :: a1 :: vr X kd x :: st) (cW k X S) := by
  rw [hx.vr] at hM ⊢
  have h9 := cW_in (k := k) (S := S) hX hx.lv
  exact x_cVt5 (ci := kd) (fs := cF X S kd x.toNatClampNeg) G B B2 hout hM h9.1 (by rw [h9.2]; unfold cE; rw [if_pos kb.1]) (by rw [hyc]; exact kb.2.2.2.1) hlk hv hR hw8 hb1 hb2 d hp
theorem z_cV6 {bc1 bs1 idx maxL kd N : Nat} {y : MethodName} {bytes : ByteArray} {rt : Option FieldType} {rm : Room} {C : String} {T : u_T} {ty : Nat → FieldType} {a1 a2 a3 a4 a5 a6 : Value} {x : Int32} (G : GX p l R s m args meth c k A own cc nL ret) (kb : KB kd C T N ty) (hX : HX X) (hx : lI X kd x) {r : Value} (hM : MC l k y (.code y bytes maxL rt) rm (vr X kd x :: [a1, a2, a3, a4, a5, a6]) (cW k X S) (pR (some r) h1)) (hyc : y.cls = C) (hlk : Cond.methodLink own idx y ∈ TB) (hv : hV y bytes maxL rt 6) (hR : rm.frames + 1 ≤ R.frames ∧ 8 + (maxL + 11) + rm.locals ≤ R.locals) (hw8 : (st.map fun v => v.category).sum ≤ 8) (hb1 : bc1 + rm.cells ≤ bc) (hb2 : bs1 + rm.slots ≤ bs) (d : decode cc pc = .ok (.invokevirtual idx, 3)) (kk : Wx p l e R s m args below meth c k A nL Q bc1 bs1 (pc + 3) L (r :: st) h1) : Wx p l e R s m args below meth c k A nL Q bc bs pc L (a6 :: a5 :: a4 :: a3 :: a2 :: a1 :: vr X kd x :: st) (cW k X S) := by
  rw [hx.vr] at hM ⊢
  have h9 := cW_in (k := k) (S := S) hX hx.lv
  exact x_cV6 (ci := kd) (fs := cF X S kd x.toNatClampNeg) G hM h9.1 (by rw [h9.2]; unfold cE; rw [if_pos kb.1]) (by rw [hyc]; exact kb.2.2.2.1) hlk hv hR hw8 hb1 hb2 d kk
theorem z_cVv6 {bc1 bs1 idx maxL kd N : Nat} {y : MethodName} {bytes : ByteArray} {rt : Option FieldType} {rm : Room} {C : String} {T : u_T} {ty : Nat → FieldType} {a1 a2 a3 a4 a5 a6 : Value} {x : Int32} (G : GX p l R s m args meth c k A own cc nL ret) (kb : KB kd C T N ty) (hX : HX X) (hx : lI X kd x) (hM : MC l k y (.code y bytes maxL rt) rm (vr X kd x :: [a1, a2, a3, a4, a5, a6]) (cW k X S) (pR none h1)) (hyc : y.cls = C) (hlk : Cond.methodLink own idx y ∈ TB) (hv : hV y bytes maxL rt 6) (hR : rm.frames + 1 ≤ R.frames ∧ 8 + (maxL + 11) + rm.locals ≤ R.locals) (hw8 : (st.map fun v => v.category).sum ≤ 8) (hb1 : bc1 + rm.cells ≤ bc) (hb2 : bs1 + rm.slots ≤ bs) (d : decode cc pc = .ok (.invokevirtual idx, 3)) (kk : Wx p l e R s m args below meth c k A nL Q bc1 bs1 (pc + 3) L st h1) : Wx p l e R s m args below meth c k A nL Q bc bs pc L (a6 :: a5 :: a4 :: a3 :: a2 :: a1 :: vr X kd x :: st) (cW k X S) := by
  rw [hx.vr] at hM ⊢
  have h9 := cW_in (k := k) (S := S) hX hx.lv
  exact x_cVv6 (ci := kd) (fs := cF X S kd x.toNatClampNeg) G hM h9.1 (by rw [h9.2]; unfold cE; rw [if_pos kb.1]) (by rw [hyc]; exact kb.2.2.2.1) hlk hv hR hw8 hb1 hb2 d kk
theorem z_cVb6 {bc1 bs1 idx maxL kd N : Nat} {y : MethodName} {bytes : ByteArray} {rt : Option FieldType} {rm : Room} {C : String} {T : u_T} {ty : Nat → FieldType} {a1 a2 a3 a4 a5 a6 : Value} {x : Int32} (G : GX p l R s m args meth c k A own cc nL ret) (kb : KB kd C T N ty) (hX : HX X) (hx : lI X kd x) {P : Prop} [Decidable P] (hM : (P → MC l k y (.code y bytes maxL rt) rm (vr X kd x :: [a1, a2, a3, a4, a5, a6]) (cW k X S) (pR (some (.int 1)) h1)) ∧ (¬ P → MC l k y (.code y bytes maxL rt) rm (vr X kd x :: [a1, a2, a3, a4, a5, a6]) (cW k X S) (pR (some (.int 0)) h1))) (hyc : y.cls = C) (hlk : Cond.methodLink own idx y ∈ TB) (hv : hV y bytes maxL rt 6) (hR : rm.frames + 1 ≤ R.frames ∧ 8 + (maxL + 11) + rm.locals ≤ R.locals) (hw8 : (st.map fun v => v.category).sum ≤ 8) (hb1 : bc1 + rm.cells ≤ bc) (hb2 : bs1 + rm.slots ≤ bs) (d : decode cc pc = .ok (.invokevirtual idx, 3)) (kt : P → Wx p l e R s m args below meth c k A nL Q bc1 bs1 (pc + 3) L (.int 1 :: st) h1) (kf : ¬ P → Wx p l e R s m args below meth c k A nL Q bc1 bs1 (pc + 3) L (.int 0 :: st) h1) : Wx p l e R s m args below meth c k A nL Q bc bs pc L (a6 :: a5 :: a4 :: a3 :: a2 :: a1 :: vr X kd x :: st) (cW k X S) := by
  rw [hx.vr] at hM ⊢
  have h9 := cW_in (k := k) (S := S) hX hx.lv
  exact x_cVb6 (ci := kd) (fs := cF X S kd x.toNatClampNeg) G hM h9.1 (by rw [h9.2]; unfold cE; rw [if_pos kb.1]) (by rw [hyc]; exact kb.2.2.2.1) hlk hv hR hw8 hb1 hb2 d kt kf
theorem z_cVt6 {bc1 bs1 idx maxL kd N : Nat} {y : MethodName} {bytes : ByteArray} {rt : Option FieldType} {rm : Room} {C : String} {T : u_T} {ty : Nat → FieldType} {a1 a2 a3 a4 a5 a6 : Value} {x : Int32} (G : GX p l R s m args meth c k A own cc nL ret) (kb : KB kd C T N ty) (hX : HX X) (hx : lI X kd x) {E : String} {h0 : Wd} {post : Out → Wd → Prop} (B : RQ below args s R k A h0 post Q) (B2 : TQ below args s R k h0 post Q) (hout : ∀ x ∈ c.exceptionTable.toList, False) (hM : MC l k y (.code y bytes maxL rt) rm (vr X kd x :: [a1, a2, a3, a4, a5, a6]) (cW k X S) (pT E h1)) (hyc : y.cls = C) (hlk : Cond.methodLink own idx y ∈ TB) (hv : hV y bytes maxL rt 6) (hR : rm.frames + 1 ≤ R.frames ∧ 8 + (maxL + 11) + rm.locals ≤ R.locals) (hw8 : (st.map fun v => v.category).sum ≤ 8) (hb1 : bc1 + rm.cells ≤ bc) (hb2 : bs1 + rm.slots ≤ bs) (d : decode cc pc = .ok (.invokevirtual idx, 3)) (hp : post (.inr E) h1) : Wx p l e R s m args below meth c k A nL Q bc bs pc L (a6 :: a5 :: a4 :: a3 :: a2 :: a1 :: vr X kd x :: st) (cW k X S) := by
  rw [hx.vr] at hM ⊢
  have h9 := cW_in (k := k) (S := S) hX hx.lv
  exact x_cVt6 (ci := kd) (fs := cF X S kd x.toNatClampNeg) G B B2 hout hM h9.1 (by rw [h9.2]; unfold cE; rw [if_pos kb.1]) (by rw [hyc]; exact kb.2.2.2.1) hlk hv hR hw8 hb1 hb2 d hp
theorem z_cV7 {bc1 bs1 idx maxL kd N : Nat} {y : MethodName} {bytes : ByteArray} {rt : Option FieldType} {rm : Room} {C : String} {T : u_T} {ty : Nat → FieldType} {a1 a2 a3 a4 a5 a6 a7 : Value} {x : Int32} (G : GX p l R s m args meth c k A own cc nL ret) (kb : KB kd C T N ty) (hX : HX X) (hx : lI X kd x) {r : Value} (hM : MC l k y (.code y bytes maxL rt) rm (vr X kd x :: [a1, a2, a3, a4, a5, a6, a7]) (cW k X S) (pR (some r) h1)) (hyc : y.cls = C) (hlk : Cond.methodLink own idx y ∈ TB) (hv : hV y bytes maxL rt 7) (hR : rm.frames + 1 ≤ R.frames ∧ 8 + (maxL + 11) + rm.locals ≤ R.locals) (hw8 : (st.map fun v => v.category).sum ≤ 8) (hb1 : bc1 + rm.cells ≤ bc) (hb2 : bs1 + rm.slots ≤ bs) (d : decode cc pc = .ok (.invokevirtual idx, 3)) (kk : Wx p l e R s m args below meth c k A nL Q bc1 bs1 (pc + 3) L (r :: st) h1) : Wx p l e R s m args below meth c k A nL Q bc bs pc L (a7 :: a6 :: a5 :: a4 :: a3 :: a2 :: a1 :: vr X kd x :: st) (cW k X S) := by
  rw [hx.vr] at hM ⊢
  have h9 := cW_in (k := k) (S := S) hX hx.lv
  exact x_cV7 (ci := kd) (fs := cF X S kd x.toNatClampNeg) G hM h9.1 (by rw [h9.2]; unfold cE; rw [if_pos kb.1]) (by rw [hyc]; exact kb.2.2.2.1) hlk hv hR hw8 hb1 hb2 d kk
theorem z_cVv7 {bc1 bs1 idx maxL kd N : Nat} {y : MethodName} {bytes : ByteArray} {rt : Option FieldType} {rm : Room} {C : String} {T : u_T} {ty : Nat → FieldType} {a1 a2 a3 a4 a5 a6 a7 : Value} {x : Int32} (G : GX p l R s m args meth c k A own cc nL ret) (kb : KB kd C T N ty) (hX : HX X) (hx : lI X kd x) (hM : MC l k y (.code y bytes maxL rt) rm (vr X kd x :: [a1, a2, a3, a4, a5, a6, a7]) (cW k X S) (pR none h1)) (hyc : y.cls = C) (hlk : Cond.methodLink own idx y ∈ TB) (hv : hV y bytes maxL rt 7) (hR : rm.frames + 1 ≤ R.frames ∧ 8 + (maxL + 11) + rm.locals ≤ R.locals) (hw8 : (st.map fun v => v.category).sum ≤ 8) (hb1 : bc1 + rm.cells ≤ bc) (hb2 : bs1 + rm.slots ≤ bs) (d : decode cc pc = .ok (.invokevirtual idx, 3)) (kk : Wx p l e R s m args below meth c k A nL Q bc1 bs1 (pc + 3) L st h1) : Wx p l e R s m args below meth c k A nL Q bc bs pc L (a7 :: a6 :: a5 :: a4 :: a3 :: a2 :: a1 :: vr X kd x :: st) (cW k X S) := by
  rw [hx.vr] at hM ⊢
  have h9 := cW_in (k := k) (S := S) hX hx.lv
  exact x_cVv7 (ci := kd) (fs := cF X S kd x.toNatClampNeg) G hM h9.1 (by rw [h9.2]; unfold cE; rw [if_pos kb.1]) (by rw [hyc]; exact kb.2.2.2.1) hlk hv hR hw8 hb1 hb2 d kk
theorem z_cVb7 {bc1 bs1 idx maxL kd N : Nat} {y : MethodName} {bytes : ByteArray} {rt : Option FieldType} {rm : Room} {C : String} {T : u_T} {ty : Nat → FieldType} {a1 a2 a3 a4 a5 a6 a7 : Value} {x : Int32} (G : GX p l R s m args meth c k A own cc nL ret) (kb : KB kd C T N ty) (hX : HX X) (hx : lI X kd x) {P : Prop} [Decidable P] (hM : (P → MC l k y (.code y bytes maxL rt) rm (vr X kd x :: [a1, a2, a3, a4, a5, a6, a7]) (cW k X S) (pR (some (.int 1)) h1)) ∧ (¬ P → MC l k y (.code y bytes maxL rt) rm (vr X kd x :: [a1, a2, a3, a4, a5, a6, a7]) (cW k X S) (pR (some (.int 0)) h1))) (hyc : y.cls = C) (hlk : Cond.methodLink own idx y ∈ TB) (hv : hV y bytes maxL rt 7) (hR : rm.frames + 1 ≤ R.frames ∧ 8 + (maxL + 11) + rm.locals ≤ R.locals) (hw8 : (st.map fun v => v.category).sum ≤ 8) (hb1 : bc1 + rm.cells ≤ bc) (hb2 : bs1 + rm.slots ≤ bs) (d : decode cc pc = .ok (.invokevirtual idx, 3)) (kt : P → Wx p l e R s m args below meth c k A nL Q bc1 bs1 (pc + 3) L (.int 1 :: st) h1) (kf : ¬ P → Wx p l e R s m args below meth c k A nL Q bc1 bs1 (pc + 3) L (.int 0 :: st) h1) : Wx p l e R s m args below meth c k A nL Q bc bs pc L (a7 :: a6 :: a5 :: a4 :: a3 :: a2 :: a1 :: vr X kd x :: st) (cW k X S) := by
  rw [hx.vr] at hM ⊢
  have h9 := cW_in (k := k) (S := S) hX hx.lv
  exact x_cVb7 (ci := kd) (fs := cF X S kd x.toNatClampNeg) G hM h9.1 (by rw [h9.2]; unfold cE; rw [if_pos kb.1]) (by rw [hyc]; exact kb.2.2.2.1) hlk hv hR hw8 hb1 hb2 d kt kf
theorem z_cVt7 {bc1 bs1 idx maxL kd N : Nat} {y : MethodName} {bytes : ByteArray} {rt : Option FieldType} {rm : Room} {C : String} {T : u_T} {ty : Nat → FieldType} {a1 a2 a3 a4 a5 a6 a7 : Value} {x : Int32} (G : GX p l R s m args meth c k A own cc nL ret) (kb : KB kd C T N ty) (hX : HX X) (hx : lI X kd x) {E : String} {h0 : Wd} {post : Out → Wd → Prop} (B : RQ below args s R k A h0 post Q) (B2 : TQ below args s R k h0 post Q) (hout : ∀ x ∈ c.exceptionTable.toList, False) (hM : MC l k y (.code y bytes maxL rt) rm (vr X kd x :: [a1, a2, a3, a4, a5, a6, a7]) (cW k X S) (pT E h1)) (hyc : y.cls = C) (hlk : Cond.methodLink own idx y ∈ TB) (hv : hV y bytes maxL rt 7) (hR : rm.frames + 1 ≤ R.frames ∧ 8 + (maxL + 11) + rm.locals ≤ R.locals) (hw8 : (st.map fun v => v.category).sum ≤ 8) (hb1 : bc1 + rm.cells ≤ bc) (hb2 : bs1 + rm.slots ≤ bs) (d : decode cc pc = .ok (.invokevirtual idx, 3)) (hp : post (.inr E) h1) : Wx p l e R s m args below meth c k A nL Q bc bs pc L (a7 :: a6 :: a5 :: a4 :: a3 :: a2 :: a1 :: vr X kd x :: st) (cW k X S) := by
  rw [hx.vr] at hM ⊢
  have h9 := cW_in (k := k) (S := S) hX hx.lv
  exact x_cVt7 (ci := kd) (fs := cF X S kd x.toNatClampNeg) G B B2 hout hM h9.1 (by rw [h9.2]; unfold cE; rw [if_pos kb.1]) (by rw [hyc]; exact kb.2.2.2.1) hlk hv hR hw8 hb1 hb2 d hp
end CZ
