/-! THE ENVIRONMENT: class numbers, array classes, ArrayList's empty array, the class object of Object[]. G.1: classes and slots; G.2.1: array classes (0 int, 1 boolean, 2 Object); G.2.2: addresses (0 the empty array, 1 the class object). -/
abbrev ev_G : Type := va_G × (Nat → ClassId) × (Nat → Nat)
abbrev ev_tys (G : ev_G) : List (ClassId × FieldType) := [(G.2.1 0, .int), (G.2.1 1, .boolean), (G.2.1 2, .object "java/lang/Object")]
abbrev ev_nest : Cond := .methodLinkNest "HyphenRows" 60 y_La_init "HyphenRows"
/-- ArrayList's own empty array: the static holds it, it has no place -/
def ev_Z (G : ev_G) (A : Nat → Prop) (U : State) (H : Heap) : Prop := va_Z "java/util/ArrayList" "DEFAULTCAPACITY_EMPTY_ELEMENTDATA" "[Ljava/lang/Object;" (.ref (G.2.2 0)) A U H ∧ va_T (.object "java/lang/Object") (G.2.2 0) 0 (fun _ => .null) A U H ∧ va_O "[Ljava/lang/Object;" (G.2.2 0) A U H
def ev_N (G : ev_G) (U : State) : Prop := va_Nw ev_nest U ∧ (∀ C : String, C ∈ [R_La, R_Pa, R_To] → va_Nw (.castable C "java/lang/Object") U ∧ va_Nw (.castable C C) U) ∧ va_Nw (.castable "[I" "java/lang/Cloneable") U ∧ va_AO "java/lang/Object" U ∧ va_Mi "[Ljava/lang/Object;" (G.2.2 1) U ∧ va_Dc U
def ev_K (G : ev_G) (A : Nat → Prop) (U : State) (H : Heap) : Prop := va_K G.1 ev_cl (ev_tys G) U ∧ ev_N G U ∧ ev_Z G A U H
theorem ev_moved {G : ev_G} {A : Nat → Prop} {s U : State} {H : Heap} (hW : s.WarmedH U.vm) (h : ev_K G A s H) : ev_K G A U H := by
  obtain ⟨h1, ⟨n1, n2, n3, n4, n5, n6⟩, z1, z2, z3⟩ := h
  exact ⟨va_K.moved hW.alike h1, ⟨va_Nw.warmM hW n1, fun C hC => ⟨va_Nw.warmC hW (n2 C hC).1, va_Nw.warmC hW (n2 C hC).2⟩, va_Nw.warmC hW n3, va_AO.moved hW.alike n4, va_Mi.moved hW.alike n5, va_Dc.moved hW.alike n6⟩, va_Z.moved hW.alike z1, va_T.moved hW.alike z2, va_O.moved hW.alike z3⟩
theorem ev_same {G : ev_G} {A : Nat → Prop} {s U : State} {H : Heap} (hv : s.vm = U.vm) (h : ev_K G A s H) : ev_K G A U H := by
  have ha : s.vm.Alike U.vm := by rw [hv]; exact Vm.Alike.refl U.vm
  obtain ⟨h1, ⟨n1, n2, n3, n4, n5, n6⟩, z1, z2, z3⟩ := h
  exact ⟨va_K.moved ha h1, ⟨va_Nw.same rfl hv n1, fun C hC => ⟨va_Nw.same rfl hv (n2 C hC).1, va_Nw.same rfl hv (n2 C hC).2⟩, va_Nw.same rfl hv n3, va_AO.moved ha n4, va_Mi.moved ha n5, va_Dc.moved ha n6⟩, va_Z.moved ha z1, va_T.moved ha z2, va_O.moved ha z3⟩
theorem ev_kept {G : ev_G} {A : Nat → Prop} {U : State} {H H1 : Heap} (h : ev_K G A U H) (hq : ∀ a : Nat, a < H.size → ¬ A a → H1[a]? = H[a]?) : ev_K G A U H1 :=
  ⟨h.1, h.2.1, h.2.2.1.kept hq, h.2.2.2.1.kept hq, h.2.2.2.2.kept hq⟩
theorem ev_narrow {G : ev_G} {A B : Nat → Prop} {U : State} {H : Heap} (h : ev_K G A U H) (hAB : ∀ q, B q → A q) : ev_K G B U H :=
  ⟨h.1, h.2.1, h.2.2.1.narrow hAB, h.2.2.2.1.narrow hAB, h.2.2.2.2.narrow hAB⟩
