/-! ===== facts of the state that stay through all calls ===== -/
def wsNl : List (String × Nat × MethodName × String) := [(RPD, 9, yDK_init, "PortDesk"), (RDK, 11, yNU_init, "PortDesk"), (RDK, 20, yPT_init, "PortDesk"), (RDK, 34, yCV_init, "PortDesk"), (RDK, 41, yJN_init, "PortDesk"), (RDK, 67, yPD_isPart, "PortDesk")]
def exL : List String := ["java/lang/IllegalStateException", "java/lang/IllegalArgumentException", "java/lang/IndexOutOfBoundsException", "java/lang/ArithmeticException", "java/lang/UnsupportedOperationException"]
def strL : List (String × Nat × String) := [(RPT, 30, "the part's state"), (RPT, 37, "the part's argument"), (RPT, 42, "the part's place"), (RPT, 47, "the part's division by 0"), (RPT, 52, "the part's own failure"), (RPD, 52, "no such kind"), (RPD, 68, "all numbers of this kind are made"), (RPD, 88, "nothing such is told"), (RPD, 115, "none such is collected"), (RPD, 137, "no such entry is kept"), (RPD, 142, "no such desk or part")]
def ncL : List (String × String) := [("java/lang/IllegalStateException", "java/lang/IllegalArgumentException"), ("java/lang/IllegalStateException", "java/lang/IndexOutOfBoundsException"), ("java/lang/IllegalStateException", "java/lang/ArithmeticException"), ("java/lang/IllegalStateException", "java/lang/UnsupportedOperationException"), ("java/lang/IllegalArgumentException", "java/lang/IllegalStateException"), ("java/lang/IllegalArgumentException", "java/lang/IndexOutOfBoundsException"), ("java/lang/IllegalArgumentException", "java/lang/ArithmeticException"), ("java/lang/IllegalArgumentException", "java/lang/UnsupportedOperationException"), ("java/lang/IndexOutOfBoundsException", "java/lang/IllegalStateException"), ("java/lang/IndexOutOfBoundsException", "java/lang/IllegalArgumentException"), ("java/lang/IndexOutOfBoundsException", "java/lang/ArithmeticException"), ("java/lang/IndexOutOfBoundsException", "java/lang/UnsupportedOperationException"), ("java/lang/ArithmeticException", "java/lang/IllegalStateException"), ("java/lang/ArithmeticException", "java/lang/IllegalArgumentException"), ("java/lang/ArithmeticException", "java/lang/IndexOutOfBoundsException"), ("java/lang/ArithmeticException", "java/lang/UnsupportedOperationException"), ("java/lang/UnsupportedOperationException", "java/lang/IllegalStateException"), ("java/lang/UnsupportedOperationException", "java/lang/IllegalArgumentException"), ("java/lang/UnsupportedOperationException", "java/lang/IndexOutOfBoundsException"), ("java/lang/UnsupportedOperationException", "java/lang/ArithmeticException")]
def k_F (A : Nat → Prop) (U : State) : Prop :=
  (∀ q ∈ wsNl, va_Nw (.methodLinkNest q.1 q.2.1 q.2.2.1 q.2.2.2) U) ∧ (∀ q ∈ exL, va_Nw (.castable q q) U) ∧ (∀ q ∈ strL, ∃ a : Nat, vk_R q.1 q.2.1 q.2.2 a U) ∧ (∀ q ∈ ncL, va_Nc q.1 q.2 U) ∧
  (va_Zq Bundle.tN "UNASSIGNED_STACK" Bundle.steD A U U.heap ∧ va_Zq Bundle.tN "SUPPRESSED_SENTINEL" Bundle.listD A U U.heap) ∧
  ((Cond.laysStatic Bundle.tN "UNASSIGNED_STACK" Bundle.steD).before #[] U = true ∧ (Cond.laysStatic Bundle.tN "SUPPRESSED_SENTINEL" Bundle.listD).before #[] U = true ∧ (Cond.arrayOver (.array .long)).before #[] U = true) ∧
  (∀ q : Nat, A q → ∀ cell : Cell, U.heap[q]? = some cell → cell.vm.isStatics = false)
theorem k_lay {C n d : String} {s U : State} {args args' : Array Value} (hal : s.vm.Alike U.vm) (hk : ∀ (a : Nat) (cell : Cell), s.heap[a]? = some cell → cell.vm.isStatics = true → U.heap[a]? = some cell) (h : (Cond.laysStatic C n d).before args s = true) : (Cond.laysStatic C n d).before args' U = true := by
  obtain ⟨c, k, i, f, a, cell, h1, h2, h3, h4, h5, h6, h7, h8, h9⟩ := Cond.laysStatic_spec h
  obtain ⟨k', hi', he⟩ := State.fieldFound?_setVm hal h2
  show (Cond.laysStatic C n d).holds args' U none U [] = true
  exact Cond.laysStatic_of (by rw [hal.findClass]; exact h1) hi' h3 (by rw [he]; exact h4) (hk a cell h5 h6) h6 h7 h8 (by rw [he]; exact h9)
theorem k_over {ty : FieldType} {s U : State} {args args' : Array Value} (hal : s.vm.Alike U.vm) (h : (Cond.arrayOver ty).before args s = true) : (Cond.arrayOver ty).before args' U = true := by
  have h1 := Cond.arrayOver_setVmC (args := args) hal ty
  rw [h] at h1
  exact h1
theorem k_isR {C n d : String} {A : Nat → Prop} {s : State} {args : Array Value} (h : va_Zq C n d A s s.heap) : (Cond.isRef (.static C n d)).before args s = true := by
  have one : ∀ v : Value, v.isRef = true → va_Z C n d v A s s.heap → (Cond.isRef (.static C n d)).before args s = true := by
    intro v hv h
    obtain ⟨cf, kf, fi, f, a, cell, h1, h2, h3, h4, h5, h6, h7, -⟩ := h
    have he : (Term.static C n d).eval args s none [] s = some v := by simp [Term.eval, State.fieldNamed?, h1, h2, h4, h5, h6, h7]
    simp only [Cond.before, Cond.holds, Cond.value, he]
    cases v <;> simp_all [Value.isRef]
  rcases h with h | ⟨t, h⟩
  · exact one _ rfl h
  · exact one _ rfl h
theorem k_ns {D : va_G} {cl : List vw_C} {w : va_W} {H : Heap} (hP : va_P D cl w H) (q : Nat) (h : va_A w H.size q) (cell : Cell) (hc : H[q]? = some cell) : cell.vm.isStatics = false := by
  rcases h with ⟨k, e, h⟩ | h
  · have h1 := hP k (q, e) h
    cases e with
    | inl a =>
      have h2 : H[q]? = some (vp_cell a.1 a.2) := h1
      rw [hc] at h2
      have h3 : cell = vp_cell a.1 a.2 := Option.some.inj h2
      obtain ⟨ci, n, f⟩ := a
      subst h3
      rcases f with f | f | f | f | f <;> rfl
    | inr o =>
      obtain ⟨r, -, c2, h2, -, h4, -⟩ := h1
      have h2 : H[q]? = some c2 := h2
      rw [hc] at h2
      cases h2
      rw [h4]; rfl
  · rw [Array.getElem?_eq_none h] at hc
    cases hc
theorem k_F.go {A B : Nat → Prop} {s U : State} {H : Heap} {locs : List Loc} (h : k_F A s) (hS : va_S A s.heap H locs) (hB : ∀ q, B q → A q) (hU : U.heap = H) (hW : s.WarmedH U.vm) (hBs : ∀ q : Nat, B q → ∀ cell : Cell, H[q]? = some cell → cell.vm.isStatics = false) : k_F B U := by
  obtain ⟨h1, h2, h3, h4, ⟨h5, h6⟩, ⟨h7, h8, hov⟩, h9⟩ := h
  have hk : ∀ (a : Nat) (cell : Cell), s.heap[a]? = some cell → cell.vm.isStatics = true → U.heap[a]? = some cell := fun a cell hc hs => by
    rw [hU, hS.2.1 a (Array.getElem?_eq_some_iff.mp hc).1 (fun hA => by rw [h9 a hA cell hc] at hs; cases hs)]
    exact hc
  exact ⟨fun q hq => va_Nw.warmM hW (h1 q hq), fun q hq => va_Nw.warmC hW (h2 q hq), fun q hq => (h3 q hq).imp fun a ha => vk_R.warm hW ha, fun q hq => va_Nc.moved hW.alike (h4 q hq),
    ⟨by rw [hU]; exact va_Zq.moved hW.alike ((h5.kept hS.2.1).narrow hB), by rw [hU]; exact va_Zq.moved hW.alike ((h6.kept hS.2.1).narrow hB)⟩, ⟨k_lay hW.alike hk h7, k_lay hW.alike hk h8, k_over hW.alike hov⟩, fun q hq cell hc => hBs q hq cell (by rw [← hU]; exact hc)⟩
theorem k_F.blind {A : Nat → Prop} {U : State} {g : JFrame} {mk : MethodId} {a : Array Value} (h : k_F A U) : k_F A (U.calling g mk a) :=
  k_F.go (s := U) (U := U.calling g mk a) (H := U.heap) (locs := []) h va_S.rf (fun _ h => h) rfl (State.WarmedH.refl U) h.2.2.2.2.2.2
