/-! MAPS AS WORLDS: a world is a partial map from addresses to cells. A contract speaks of the whole world that a caller holds, so no call needs a cut or a join; what a method leaves alone is said by its map. -/
abbrev wd_M : Type := Nat → Option va_E
def wd_f (w : wd_M) : Nat → va_E := fun a => (w a).getD (.inr (0, []))
def wd_L (w : wd_M) (L : List Nat) : Prop := ∀ a : Nat, a ∈ L ↔ w a ≠ none
/-- the heap holds the world, and its addresses lie in A -/
def wd_H (D : va_G) (cl : List vw_C) (A : Nat → Prop) (w : wd_M) (H : Heap) : Prop := ∃ L : List Nat, wd_L w L ∧ va_P D cl ([] ++ va_pl L (wd_f w)) H ∧ va_D A ([] ++ va_pl L (wd_f w))
/-- the same, and since H0 nothing outside A has changed -/
def wd_W (D : va_G) (cl : List vw_C) (A : Nat → Prop) (w : wd_M) (H0 H : Heap) (locs : List Loc) : Prop := wd_H D cl A w H ∧ va_S A H0 H locs ∧ ∀ q : Nat, H0.size ≤ q → A q
def wd_A (w : wd_M) (sz : Nat) : Nat → Prop := fun q => w q ≠ none ∨ sz ≤ q
theorem wd_mem {w : wd_M} {L : List Nat} {a : Nat} {x : va_E} (hL : wd_L w L) (h : w a = some x) : a ∈ L := (hL a).mpr (by rw [h]; exact Option.some_ne_none x)
theorem wd_fa {w : wd_M} {a : Nat} {x : va_E} (h : w a = some x) : wd_f w a = x := by simp [wd_f, h]
theorem wd_upL {w : wd_M} {L : List Nat} {a : Nat} {x y : va_E} (hL : wd_L w L) (h : w a = some x) : wd_L (va_up w a (some y)) L := by
  intro b
  by_cases hb : b = a
  · subst hb
    rw [va_up_self]
    exact ⟨fun _ => Option.some_ne_none y, fun _ => wd_mem hL h⟩
  · rw [va_up_ne _ _ hb]
    exact hL b
theorem wd_upf {w : wd_M} {a : Nat} {y : va_E} : wd_f (va_up w a (some y)) = va_up (wd_f w) a y := by
  funext b
  by_cases hb : b = a
  · subst hb
    simp [wd_f, va_up]
  · simp [wd_f, va_up, hb]
theorem wd_newL {w : wd_M} {L : List Nat} {q : Nat} {y : va_E} (hL : wd_L w L) : wd_L (va_up w q (some y)) (L ++ [q]) := by
  intro b
  by_cases hb : b = q
  · subst hb
    rw [va_up_self]
    exact ⟨fun _ => Option.some_ne_none y, fun _ => List.mem_append.mpr (Or.inr (List.mem_singleton.mpr rfl))⟩
  · rw [va_up_ne _ _ hb, List.mem_append]
    refine ⟨fun h => ?_, fun h => Or.inl ((hL b).mpr h)⟩
    rcases h with h | h
    · exact (hL b).mp h
    · exact absurd (List.mem_singleton.mp h) hb
theorem wd_in {w : wd_M} {L : List Nat} {k : Nat} {x : Nat × va_E} (hL : wd_L w L) (h : ([] ++ va_pl L (wd_f w))[k]? = some x) : w x.1 ≠ none := by
  have h1 : x ∈ va_pl L (wd_f w) := List.mem_of_getElem? h
  obtain ⟨b, hb, e1⟩ := List.mem_map.mp h1
  rw [← e1]
  exact (hL b).mp hb
theorem wd_H.self {D : va_G} {cl : List vw_C} {A : Nat → Prop} {w : wd_M} {H : Heap} (h : wd_H D cl A w H) (sz : Nat) : wd_H D cl (wd_A w sz) w H := by
  obtain ⟨L, hL, hP, hD⟩ := h
  exact ⟨L, hL, hP, hD.weaken (fun k x hk _ => Or.inl (wd_in hL hk))⟩
theorem wd_H.weaken {D : va_G} {cl : List vw_C} {A B : Nat → Prop} {w : wd_M} {H : Heap} (h : wd_H D cl A w H) (hAB : ∀ q, A q → B q) : wd_H D cl B w H := by
  obtain ⟨L, hL, hP, hD⟩ := h
  exact ⟨L, hL, hP, hD.weaken (fun k x _ hx => hAB _ hx)⟩
theorem wd_H.inA {D : va_G} {cl : List vw_C} {A : Nat → Prop} {w : wd_M} {H : Heap} (h : wd_H D cl A w H) {a : Nat} {x : va_E} (ha : w a = some x) : A a := by
  obtain ⟨L, hL, hP, hD⟩ := h
  obtain ⟨k, hk⟩ := va_pl_get (X := []) (L := L) (f := wd_f w) (wd_mem hL ha)
  exact hD.2 k _ hk
theorem wd_H.at {D : va_G} {cl : List vw_C} {A : Nat → Prop} {w : wd_M} {H : Heap} (h : wd_H D cl A w H) {a : Nat} {x : va_E} (ha : w a = some x) : va_at D cl (a, x) H := by
  obtain ⟨L, hL, hP, hD⟩ := h
  obtain ⟨k, hk⟩ := va_pl_get (X := []) (L := L) (f := wd_f w) (wd_mem hL ha)
  rw [wd_fa ha] at hk
  exact hP k _ hk
theorem wd_H.lt {D : va_G} {cl : List vw_C} {A : Nat → Prop} {w : wd_M} {H : Heap} (h : wd_H D cl A w H) {a : Nat} {x : va_E} (ha : w a = some x) : a < H.size := (h.at ha).lt
theorem wd_sub {A0 : Nat → Prop} {D : va_G} {cl : List vw_C} {w : wd_M} {H0 H : Heap} {locs : List Loc} (hW : wd_W D cl A0 w H0 H locs) : ∀ q, wd_A w H.size q → A0 q := by
  intro q hq
  rcases hq with hq | hq
  · cases hw : w q with
    | none => exact absurd hw hq
    | some x => exact hW.1.inA hw
  · exact hW.2.2 q (Nat.le_trans hW.2.1.1 hq)
theorem wd_keep {w w1 : wd_M} {a b : Nat} {x y : Option va_E} (h : w1 = va_up w a x) (n : b ≠ a) (hb : w b = y) : w1 b = y := by rw [h, va_up_ne _ _ n]; exact hb
theorem wd_here {w w1 : wd_M} {a : Nat} {x : Option va_E} (h : w1 = va_up w a x) : w1 a = x := by rw [h]; exact va_up_self _ _ _
theorem wd_ne {w : wd_M} {a b : Nat} {x y : va_E} (ha : w a = some x) (hb : w b = some y) (h : x ≠ y) : a ≠ b := fun e1 => h (by rw [e1, hb] at ha; exact (Option.some.inj ha).symm)
theorem wd_neN {w : wd_M} {a q : Nat} {x : va_E} (ha : w a = some x) (hq : w q = none) : a ≠ q := fun e1 => by rw [e1, hq] at ha; cases ha
section WDI
variable {p : Program} {l : Launch} {e : Env} {R : Room} {s : State} {m : MethodId} {args : Array Value} {below : List Frame} {meth : Method} {c : Code} {H : Heap} {locs : List Loc} {cells slots : Nat} {Q : State → Prop}
variable {cc : ByteArray} {pc nL : Nat} {ls : Array Slot} {rest : List Value} {D : va_G} {cl : List vw_C} {A : Nat → Prop} {a : Nat} {tys : List (ClassId × FieldType)} {w : wd_M} {H0 : Heap} {Ts : List Cond} {own : String}
/-- the world behind a write into a cell of it -/
theorem wd_set {H1 : Heap} {locs1 : List Loc} {L : List Nat} {k : Nat} {x y : va_E} (hL : wd_L w L) (hD : va_D A ([] ++ va_pl L (wd_f w))) (hA : ∀ q : Nat, H0.size ≤ q → A q) (he : w a = some x) (hk : ([] ++ va_pl L (wd_f w))[k]? = some (a, wd_f w a)) (hP1 : va_P D cl (([] ++ va_pl L (wd_f w)).set k (a, y)) H1) (hD1 : va_D A (([] ++ va_pl L (wd_f w)).set k (a, y))) (hS1 : va_S A H0 H1 locs1) : wd_W D cl A (va_up w a (some y)) H0 H1 locs1 := by
  rw [va_pl_set hD (wd_mem hL he) hk, ← wd_upf] at hP1 hD1
  exact ⟨⟨L, wd_upL hL he, hP1, hD1⟩, hS1, hA⟩
/-- the world behind a new cell -/
theorem wd_push {H1 : Heap} {L : List Nat} {q : Nat} {y : va_E} (hL : wd_L w L) (hA : ∀ q : Nat, H0.size ≤ q → A q) (hP1 : va_P D cl (([] ++ va_pl L (wd_f w)) ++ [(q, y)]) H1) (hD1 : va_D A (([] ++ va_pl L (wd_f w)) ++ [(q, y)])) (hS1 : va_S A H0 H1 locs) : w q = none ∧ wd_W D cl A (va_up w q (some y)) H0 H1 locs := by
  have hq : q ∉ L := va_pl_fresh2 hD1
  have hn : w q = none := by
    cases hw : w q with
    | none => rfl
    | some x => exact absurd (wd_mem hL hw) hq
  have e1 : ([] ++ va_pl L (wd_f w)) ++ [(q, y)] = [] ++ va_pl (L ++ [q]) (wd_f (va_up w q (some y))) := by
    rw [wd_upf]
    exact va_pl_push hq
  rw [e1] at hP1 hD1
  exact ⟨hn, ⟨L ++ [q], wd_newL hL, hP1, hD1⟩, hS1, hA⟩
theorem wd_get (S : CallFix p m c cc nL s args Ts own) {ref C : String} {T : u_T} {N ci index : Nat} (hin : ∀ x ∈ u_ws C T N, x ∈ Ts) (hK : va_K D cl tys s) (hW : wd_W D cl A w H0 H locs) {fs : List Value} (he : w a = some (.inr (ci, fs))) (hc : cl[ci]? = some (C, T, N)) (k : Nat) (hk : k < N) (hlink : Cond.fieldLink own index ref (T k).2.1 (T k).2.2.1 ∈ Ts) (href : (T k).1 = ref) {v : Value} (hv : fs[k]? = some v) (hdg : decode cc pc = .ok (.getfield index, 3))
    (kk : W p l e R s m args below meth c H locs cells slots Q (F0 m (pc + 3) ls (v :: rest))) : W p l e R s m args below meth c H locs cells slots Q (F0 m pc ls (.ref a :: rest)) := by
  obtain ⟨hx, hb, hml, hown, hts⟩ := S
  obtain ⟨⟨L, hL, hP, hD⟩, hS, hA⟩ := hW
  obtain ⟨j, hj⟩ := va_pl_get (X := []) (L := L) (f := wd_f w) (wd_mem hL he)
  rw [wd_fa he] at hj
  subst href
  exact va_get hx hb hts hin hown hK hP j hj hc k hk (hts _ hlink) (fun _ h => h) hv hdg kk
theorem wd_put (S : CallFix p m c cc nL s args Ts own) {ref C : String} {T : u_T} {N ci index : Nat} (hin : ∀ x ∈ u_ws C T N, x ∈ Ts) (ty0 : Nat → FieldType) (hty : ∀ k, k < N → parseFieldDescriptor (T k).2.2.1 = some (ty0 k)) (hnm : ∀ a, a < N → ∀ b, b < N → a ≠ b → (T a).2.1 ≠ (T b).2.1) (hK : va_K D cl tys s) (hW : wd_W D cl A w H0 H locs) {fs : List Value} (he : w a = some (.inr (ci, fs))) (hc : cl[ci]? = some (C, T, N)) (k : Nat) (hk : k < N) (hlink : Cond.fieldLink own index ref (T k).2.1 (T k).2.2.1 ∈ Ts) (href : (T k).1 = ref) (hfin : (T k).2.2.2 = false) {v : Value} (hn : narrow (ty0 k) v = v) (hfit : fits (ty0 k) v = true) (hl : k < fs.length)
    (hdg : decode cc pc = .ok (.putfield index, 3)) (kk : ∀ (H1 : Heap) (locs1 : List Loc), ∀ w1 : wd_M, w1 = va_up w a (some (.inr (ci, fs.set k v))) → wd_W D cl A w1 H0 H1 locs1 → W p l e R s m args below meth c H1 locs1 cells slots Q (F0 m (pc + 3) ls rest)) : W p l e R s m args below meth c H locs cells slots Q (F0 m pc ls (v :: .ref a :: rest)) := by
  obtain ⟨hx, hb, hml, hown, hts⟩ := S
  obtain ⟨⟨L, hL, hP, hD⟩, hS, hA⟩ := hW
  obtain ⟨j, hj⟩ := va_pl_get (X := []) (L := L) (f := wd_f w) (wd_mem hL he)
  have hj2 := hj
  rw [wd_fa he] at hj
  subst href
  exact va_put hx hb hts hin ty0 hty hnm hown hK hP hD hS j hj hc k hk (hts _ hlink) (fun _ h => h) hfin (hty k hk) hn hfit hl hdg (fun H1 locs1 hP1 hD1 hS1 => kk H1 locs1 _ rfl (wd_set hL hD hA he hj2 hP1 hD1 hS1))
/-- a final field, in its own constructor -/
theorem wd_putF (S : CallFix p m c cc nL s args Ts own) {ref C : String} {T : u_T} {N ci index : Nat} (hin : ∀ x ∈ u_ws C T N, x ∈ Ts) (ty0 : Nat → FieldType) (hty : ∀ k, k < N → parseFieldDescriptor (T k).2.2.1 = some (ty0 k)) (hnm : ∀ a, a < N → ∀ b, b < N → a ≠ b → (T a).2.1 ≠ (T b).2.1) (hK : va_K D cl tys s) (hW : wd_W D cl A w H0 H locs) {fs : List Value} (he : w a = some (.inr (ci, fs))) (hc : cl[ci]? = some (C, T, N)) (k : Nat) (hk : k < N) (hlink : Cond.fieldLink own index ref (T k).2.1 (T k).2.2.1 ∈ Ts) (href : (T k).1 = ref) (hfin : (T k).2.2.2 = true) (hin2 : meth.name = "<init>") (hdecl : (T k).1 = own) {v : Value} (hn : narrow (ty0 k) v = v) (hfit : fits (ty0 k) v = true) (hl : k < fs.length)
    (hdg : decode cc pc = .ok (.putfield index, 3)) (kk : ∀ (H1 : Heap) (locs1 : List Loc), ∀ w1 : wd_M, w1 = va_up w a (some (.inr (ci, fs.set k v))) → wd_W D cl A w1 H0 H1 locs1 → W p l e R s m args below meth c H1 locs1 cells slots Q (F0 m (pc + 3) ls rest)) : W p l e R s m args below meth c H locs cells slots Q (F0 m pc ls (v :: .ref a :: rest)) := by
  obtain ⟨hx, hb, hml, hown, hts⟩ := S
  obtain ⟨⟨L, hL, hP, hD⟩, hS, hA⟩ := hW
  obtain ⟨j, hj⟩ := va_pl_get (X := []) (L := L) (f := wd_f w) (wd_mem hL he)
  have hj2 := hj
  rw [wd_fa he] at hj
  subst href
  exact va_putF hx hb hts hin ty0 hty hnm hown hK hP hD hS j hj hc k hk (hts _ hlink) (fun _ h => h) hfin hin2 hdecl (hty k hk) hn hfit hl hdg (fun H1 locs1 hP1 hD1 hS1 => kk H1 locs1 _ rfl (wd_set hL hD hA he hj2 hP1 hD1 hS1))
theorem wd_iald (S : CallFix p m c cc nL s args Ts own) (hK : va_K D cl tys s) (hW : wd_W D cl A w H0 H locs) (t0 : Nat) {cA : ClassId} {n : Nat} {f : Nat → Int32} (ha : w a = some (.inl (cA, n, .inl f))) (ht : tys[t0]? = some (cA, .int)) {i : Int32} (hin : vp_in i n) (hdg : decode cc pc = .ok (.iaload, 1))
    (kk : W p l e R s m args below meth c H locs cells slots Q (F0 m (pc + 1) ls (.int (f i.toNatClampNeg) :: rest))) : W p l e R s m args below meth c H locs cells slots Q (F0 m pc ls (.int i :: .ref a :: rest)) := by
  obtain ⟨hx, hb, hml, hown, hts⟩ := S
  obtain ⟨⟨L, hL, hP, hD⟩, hS, hA⟩ := hW
  obtain ⟨j, hj⟩ := va_pl_get (X := []) (L := L) (f := wd_f w) (wd_mem hL ha)
  rw [wd_fa ha] at hj
  exact va_iald hx hb hK hP j t0 hj ht hin hdg kk
theorem wd_zald (S : CallFix p m c cc nL s args Ts own) (hK : va_K D cl tys s) (hW : wd_W D cl A w H0 H locs) (t0 : Nat) {cA : ClassId} {n : Nat} {f : Nat → Int32} (ha : w a = some (.inl (cA, n, .inl f))) (ht : tys[t0]? = some (cA, .boolean)) {i : Int32} (hin : vp_in i n) (hdg : decode cc pc = .ok (.baload, 1))
    (kk : W p l e R s m args below meth c H locs cells slots Q (F0 m (pc + 1) ls (.int (f i.toNatClampNeg) :: rest))) : W p l e R s m args below meth c H locs cells slots Q (F0 m pc ls (.int i :: .ref a :: rest)) := by
  obtain ⟨hx, hb, hml, hown, hts⟩ := S
  obtain ⟨⟨L, hL, hP, hD⟩, hS, hA⟩ := hW
  obtain ⟨j, hj⟩ := va_pl_get (X := []) (L := L) (f := wd_f w) (wd_mem hL ha)
  rw [wd_fa ha] at hj
  exact va_zald hx hb hK hP j t0 hj ht hin hdg kk
theorem wd_aald (S : CallFix p m c cc nL s args Ts own) (hK : va_K D cl tys s) (hW : wd_W D cl A w H0 H locs) (t0 : Nat) {cA : ClassId} {C : String} {n : Nat} {f : Nat → Option Nat} (ha : w a = some (.inl (cA, n, .inr (.inr (.inr (.inr f)))))) (ht : tys[t0]? = some (cA, .object C)) {i : Int32} (hin : vp_in i n) (hdg : decode cc pc = .ok (.aaload, 1))
    (kk : W p l e R s m args below meth c H locs cells slots Q (F0 m (pc + 1) ls (va_rf (f i.toNatClampNeg) :: rest))) : W p l e R s m args below meth c H locs cells slots Q (F0 m pc ls (.int i :: .ref a :: rest)) := by
  obtain ⟨hx, hb, hml, hown, hts⟩ := S
  obtain ⟨⟨L, hL, hP, hD⟩, hS, hA⟩ := hW
  obtain ⟨j, hj⟩ := va_pl_get (X := []) (L := L) (f := wd_f w) (wd_mem hL ha)
  rw [wd_fa ha] at hj
  exact va_aldq hx hb hK hP j t0 hj ht hin hdg kk
theorem wd_alen (S : CallFix p m c cc nL s args Ts own) (hK : va_K D cl tys s) (hW : wd_W D cl A w H0 H locs) (t0 : Nat) {cA : ClassId} {x : vp_A} (ha : w a = some (.inl (cA, x))) {ty : FieldType} (ht : tys[t0]? = some (cA, ty)) (hdg : decode cc pc = .ok (.arraylength, 1))
    (kk : W p l e R s m args below meth c H locs cells slots Q (F0 m (pc + 1) ls (.int (nI x.1) :: rest))) : W p l e R s m args below meth c H locs cells slots Q (F0 m pc ls (.ref a :: rest)) := by
  obtain ⟨hx, hb, hml, hown, hts⟩ := S
  obtain ⟨⟨L, hL, hP, hD⟩, hS, hA⟩ := hW
  obtain ⟨j, hj⟩ := va_pl_get (X := []) (L := L) (f := wd_f w) (wd_mem hL ha)
  rw [wd_fa ha] at hj
  exact va_alen hx hb hK hP j t0 hj ht rfl hdg kk
theorem wd_iast (S : CallFix p m c cc nL s args Ts own) (hK : va_K D cl tys s) (hW : wd_W D cl A w H0 H locs) (t0 : Nat) {cA : ClassId} {n : Nat} {f : Nat → Int32} (ha : w a = some (.inl (cA, n, .inl f))) (ht : tys[t0]? = some (cA, .int)) {i x : Int32} (hin : vp_in i n) (hdg : decode cc pc = .ok (.iastore, 1))
    (kk : ∀ (H1 : Heap) (locs1 : List Loc), ∀ w1 : wd_M, w1 = va_up w a (some (.inl (cA, n, .inl (upd f i.toNatClampNeg x)))) → wd_W D cl A w1 H0 H1 locs1 → W p l e R s m args below meth c H1 locs1 cells slots Q (F0 m (pc + 1) ls rest)) : W p l e R s m args below meth c H locs cells slots Q (F0 m pc ls (.int x :: .int i :: .ref a :: rest)) := by
  obtain ⟨hx, hb, hml, hown, hts⟩ := S
  obtain ⟨⟨L, hL, hP, hD⟩, hS, hA⟩ := hW
  obtain ⟨j, hj⟩ := va_pl_get (X := []) (L := L) (f := wd_f w) (wd_mem hL ha)
  have hj2 := hj
  rw [wd_fa ha] at hj
  exact va_iast hx hb hK hP hD hS j t0 hj ht hin hdg (fun H1 locs1 hP1 hD1 hS1 => kk H1 locs1 _ rfl (wd_set hL hD hA ha hj2 hP1 hD1 hS1))
theorem wd_zast (S : CallFix p m c cc nL s args Ts own) (hK : va_K D cl tys s) (hW : wd_W D cl A w H0 H locs) (t0 : Nat) {cA : ClassId} {n : Nat} {f : Nat → Int32} (ha : w a = some (.inl (cA, n, .inl f))) (ht : tys[t0]? = some (cA, .boolean)) {i x : Int32} (hin : vp_in i n) (hdg : decode cc pc = .ok (.bastore, 1))
    (kk : ∀ (H1 : Heap) (locs1 : List Loc), ∀ w1 : wd_M, w1 = va_up w a (some (.inl (cA, n, .inl (upd f i.toNatClampNeg (vp_nar .boolean x))))) → wd_W D cl A w1 H0 H1 locs1 → W p l e R s m args below meth c H1 locs1 cells slots Q (F0 m (pc + 1) ls rest)) : W p l e R s m args below meth c H locs cells slots Q (F0 m pc ls (.int x :: .int i :: .ref a :: rest)) := by
  obtain ⟨hx, hb, hml, hown, hts⟩ := S
  obtain ⟨⟨L, hL, hP, hD⟩, hS, hA⟩ := hW
  obtain ⟨j, hj⟩ := va_pl_get (X := []) (L := L) (f := wd_f w) (wd_mem hL ha)
  have hj2 := hj
  rw [wd_fa ha] at hj
  exact va_zast hx hb hK hP hD hS j t0 hj ht hin hdg (fun H1 locs1 hP1 hD1 hS1 => kk H1 locs1 _ rfl (wd_set hL hD hA ha hj2 hP1 hD1 hS1))
/-- an object of a known class goes into an array of a wider type -/
theorem wd_aast (S : CallFix p m c cc nL s args Ts own) (hK : va_K D cl tys s) (hW : wd_W D cl A w H0 H locs) (t0 ci : Nat) {E : String} {cA : ClassId} {r : vw_C} {n v : Nat} {vs : List Value} {f : Nat → Option Nat} (ha : w a = some (.inl (cA, n, .inr (.inr (.inr (.inr f)))))) (ht : tys[t0]? = some (cA, .object E)) (hca : va_Nw (.castable r.1 E) s) (hv : w v = some (.inr (ci, vs))) (hc : cl[ci]? = some r) {i : Int32} (hin : vp_in i n) (hdg : decode cc pc = .ok (.aastore, 1))
    (kk : ∀ (H1 : Heap) (locs1 : List Loc), ∀ w1 : wd_M, w1 = va_up w a (some (.inl (cA, n, .inr (.inr (.inr (.inr (va_up f i.toNatClampNeg (some v))))))))  → wd_W D cl A w1 H0 H1 locs1 → W p l e R s m args below meth c H1 locs1 cells slots Q (F0 m (pc + 1) ls rest)) : W p l e R s m args below meth c H locs cells slots Q (F0 m pc ls (.ref v :: .int i :: .ref a :: rest)) := by
  obtain ⟨hx, hb, hml, hown, hts⟩ := S
  obtain ⟨⟨L, hL, hP, hD⟩, hS, hA⟩ := hW
  obtain ⟨j, hj⟩ := va_pl_get (X := []) (L := L) (f := wd_f w) (wd_mem hL ha)
  obtain ⟨j1, hj1⟩ := va_pl_get (X := []) (L := L) (f := wd_f w) (wd_mem hL hv)
  have hj2 := hj
  rw [wd_fa ha] at hj
  rw [wd_fa hv] at hj1
  exact va_astqO hx hb hK hP hD hS j t0 j1 ci hj ht hca hj1 hc hin hdg (fun H1 locs1 hP1 hD1 hS1 => kk H1 locs1 _ rfl (wd_set hL hD hA ha hj2 hP1 hD1 hS1))
theorem wd_aastN (S : CallFix p m c cc nL s args Ts own) (hK : va_K D cl tys s) (hW : wd_W D cl A w H0 H locs) (t0 : Nat) {cA : ClassId} {C : String} {n : Nat} {f : Nat → Option Nat} (ha : w a = some (.inl (cA, n, .inr (.inr (.inr (.inr f)))))) (ht : tys[t0]? = some (cA, .object C)) {i : Int32} (hin : vp_in i n) (hdg : decode cc pc = .ok (.aastore, 1))
    (kk : ∀ (H1 : Heap) (locs1 : List Loc), ∀ w1 : wd_M, w1 = va_up w a (some (.inl (cA, n, .inr (.inr (.inr (.inr (va_up f i.toNatClampNeg none))))))) → wd_W D cl A w1 H0 H1 locs1 → W p l e R s m args below meth c H1 locs1 cells slots Q (F0 m (pc + 1) ls rest)) : W p l e R s m args below meth c H locs cells slots Q (F0 m pc ls (.null :: .int i :: .ref a :: rest)) := by
  obtain ⟨hx, hb, hml, hown, hts⟩ := S
  obtain ⟨⟨L, hL, hP, hD⟩, hS, hA⟩ := hW
  obtain ⟨j, hj⟩ := va_pl_get (X := []) (L := L) (f := wd_f w) (wd_mem hL ha)
  have hj2 := hj
  rw [wd_fa ha] at hj
  exact va_astqN hx hb hK hP hD hS j t0 hj ht hin hdg (fun H1 locs1 hP1 hD1 hS1 => kk H1 locs1 _ rfl (wd_set hL hD hA ha hj2 hP1 hD1 hS1))
theorem wd_new (S : CallFix p m c cc nL s args Ts own) {C : String} {T : u_T} {N ci index : Nat} (hin : ∀ x ∈ u_ws C T N, x ∈ Ts) (ty : Nat → FieldType) (hty : ∀ k, k < N → parseFieldDescriptor (T k).2.2.1 = some (ty k)) (hcl : Cond.classLink own index C ∈ Ts) (hinst : Cond.instantiable C N ∈ Ts) (hini : Cond.initialized C ∈ Ts) (hK : va_K D cl tys s) (hW : wd_W D cl A w H0 H locs) (hc : cl[ci]? = some (C, T, N)) {fs : List Value} (hfs : ∀ j, j < N → defaultValue (ty j) = vp_V fs j) (hcells : cells + 1 ≤ R.cells) (hslots : slots + N ≤ R.slots) (hdg : decode cc pc = .ok (.new index, 3))
    (kk : ∀ (q : Nat) (H1 : Heap), w q = none → ∀ w1 : wd_M, w1 = va_up w q (some (.inr (ci, fs))) → wd_W D cl A w1 H0 H1 locs → W p l e R s m args below meth c H1 locs (cells + 1) (slots + N) Q (F0 m (pc + 3) ls (.ref q :: rest))) : W p l e R s m args below meth c H locs cells slots Q (F0 m pc ls rest) := by
  obtain ⟨hx, hb, hml, hown, hts⟩ := S
  obtain ⟨⟨L, hL, hP, hD⟩, hS, hA⟩ := hW
  refine va_new hx hb hts hin ty hty hown (hts _ hcl) (hts _ hinst) (hts _ hini) hK hP hD hS hA hc hfs hcells hslots hdg (fun q H1 hP1 hD1 hS1 => ?_)
  obtain ⟨hn, hW1⟩ := wd_push hL hA hP1 hD1 hS1
  exact kk q H1 hn _ rfl hW1
theorem wd_anyA {cA cB : ClassId} {ty : FieldType} (h1 : va_RA s cA ty) (h2 : va_RA s cB ty) : cA = cB := by
  cases ty with
  | object C =>
    obtain ⟨_, _, _, _, _, f1⟩ := h1
    obtain ⟨_, _, _, _, _, f2⟩ := h2
    exact Option.some.inj (f1.symm.trans f2)
  | _ => exact Option.some.inj ((show s.vm.findClass _ = some cA from h1).symm.trans (show s.vm.findClass _ = some cB from h2))
theorem wd_newa (S : CallFix p m c cc nL s args Ts own) {atype : ArrayType} (harr : Cond.arrayClass (newarray.typeOf atype) ∈ Ts) {ty : FieldType} (hty : newarray.typeOf atype = ty) (hK : va_K D cl tys s) (hW : wd_W D cl A w H0 H locs) (t0 : Nat) {cA : ClassId} (ht : tys[t0]? = some (cA, ty))
    {n : Int32} {N' : Nat} {a0 : vp_A} (ha : ∀ cA : ClassId, vp_cell cA a0 = arrV cA N' (fun _ => defaultValue ty)) (hn : ¬ n < 0) (hN : n.toNatClampNeg = N') (hbytes : N' * componentBytes ty ≤ 536870912) (hcells : cells + 1 ≤ R.cells) (hslots : slots + N' ≤ R.slots) (hdg : decode cc pc = .ok (.newarray atype, 2))
    (kk : ∀ (q : Nat) (H1 : Heap), w q = none → ∀ w1 : wd_M, w1 = va_up w q (some (.inl (cA, a0))) → wd_W D cl A w1 H0 H1 locs → W p l e R s m args below meth c H1 locs (cells + 1) (slots + N') Q (F0 m (pc + 2) ls (.ref q :: rest))) : W p l e R s m args below meth c H locs cells slots Q (F0 m pc ls (.int n :: rest)) := by
  obtain ⟨hx, hb, hml, hown, hts⟩ := S
  obtain ⟨⟨L, hL, hP, hD⟩, hS, hA⟩ := hW
  refine va_newa hx hb (hts _ harr) hty hK hP hD hS hA ha hn hN hbytes hcells hslots hdg (fun q cB H1 hK1 hP1 hD1 hS1 => ?_)
  have hB : va_RA s cB ty := (hK1.2 tys.length (cB, ty) (by rw [List.getElem?_append_right (Nat.le_refl _), Nat.sub_self]; rfl)).2
  have hAB : cA = cB := wd_anyA (hK.2 t0 _ ht).2 hB
  subst hAB
  obtain ⟨hn, hW1⟩ := wd_push hL hA hP1 hD1 hS1
  exact kk q H1 hn _ rfl hW1
theorem wd_newq (S : CallFix p m c cc nL s args Ts own) {C : String} {index : Nat} (hclink : Cond.classLink own index C ∈ Ts) (hover : va_AO C s) (hK : va_K D cl tys s) (hW : wd_W D cl A w H0 H locs) (t0 : Nat) {cA : ClassId} (ht : tys[t0]? = some (cA, .object C))
    {n : Int32} {N' : Nat} (hn : ¬ n < 0) (hN : n.toNatClampNeg = N') (hbytes : N' * 4 ≤ 536870912) (hcells : cells + 1 ≤ R.cells) (hslots : slots + N' ≤ R.slots) (hdg : decode cc pc = .ok (.anewarray index, 3))
    (kk : ∀ (q : Nat) (H1 : Heap), w q = none → ∀ w1 : wd_M, w1 = va_up w q (some (.inl (cA, N', .inr (.inr (.inr (.inr (fun _ => none))))))) → wd_W D cl A w1 H0 H1 locs → W p l e R s m args below meth c H1 locs (cells + 1) (slots + N') Q (F0 m (pc + 3) ls (.ref q :: rest))) : W p l e R s m args below meth c H locs cells slots Q (F0 m pc ls (.int n :: rest)) := by
  obtain ⟨hx, hb, hml, hown, hts⟩ := S
  obtain ⟨⟨L, hL, hP, hD⟩, hS, hA⟩ := hW
  refine va_newq hx hb hown (hts _ hclink) hover hK hP hD hS hA hn hN hbytes hcells hslots hdg (fun q cB H1 hK1 hP1 hD1 hS1 => ?_)
  have hB : va_RA s cB (.object C) := (hK1.2 tys.length (cB, .object C) (by rw [List.getElem?_append_right (Nat.le_refl _), Nat.sub_self]; rfl)).2
  have hAB : cA = cB := wd_anyA (hK.2 t0 _ ht).2 hB
  subst hAB
  obtain ⟨hn, hW1⟩ := wd_push hL hA hP1 hD1 hS1
  exact kk q H1 hn _ rfl hW1
/-- System.arraycopy of ints -/
theorem wd_copyi (S : CallFix p m c cc nL s args Ts own) (hsz : ls.size = nL) {index : Nat} (hlink : Cond.methodLink own index arraycopyName ∈ Ts) (hnat : Cond.native arraycopyName ∈ Ts) (hstat : Cond.static arraycopyName ∈ Ts) (hini : Cond.initialized "java/lang/System" ∈ Ts)
    (hK : va_K D cl tys s) (hW : wd_W D cl A w H0 H locs) (t0 : Nat) {a0 : Nat} {c0 : ClassId} {n0 n1 : Nat} {f g : Nat → Int32} (ha0 : w a0 = some (.inl (c0, n0, .inl f))) (ha1 : w a = some (.inl (c0, n1, .inl g))) (ht0 : tys[t0]? = some (c0, .int))
    {sp dp n : Int32} (h1 : ¬ sp < 0) (h2 : ¬ dp < 0) (h3 : ¬ n < 0) (h4 : sp.toNatClampNeg + n.toNatClampNeg ≤ n0) (h5 : dp.toNatClampNeg + n.toNatClampNeg ≤ n1)
    (hframes : 1 ≤ R.frames) (hlocals : (rest.map fun v => v.category).sum + (nativeFrameWords "java/lang/System" "arraycopy" 5 + 11) ≤ R.locals) (hdg : decode cc pc = .ok (.invokestatic index, 3))
    (kk : ∀ (H1 : Heap) (locs1 : List Loc), ∀ w1 : wd_M, w1 = va_up w a (some (.inl (c0, n1, .inl (va_cpy f g sp.toNatClampNeg dp.toNatClampNeg n.toNatClampNeg)))) → wd_W D cl A w1 H0 H1 locs1 → W p l e R s m args below meth c H1 locs1 cells slots Q (F0 m (pc + 3) ls rest)) : W p l e R s m args below meth c H locs cells slots Q (F0 m pc ls (.int n :: .int dp :: .ref a :: .int sp :: .ref a0 :: rest)) := by
  obtain ⟨hx, hb, hml, hown, hts⟩ := S
  obtain ⟨⟨L, hL, hP, hD⟩, hS, hA⟩ := hW
  obtain ⟨j0, hj0⟩ := va_pl_get (X := []) (L := L) (f := wd_f w) (wd_mem hL ha0)
  obtain ⟨j, hj⟩ := va_pl_get (X := []) (L := L) (f := wd_f w) (wd_mem hL ha1)
  have hj2 := hj
  rw [wd_fa ha1] at hj
  rw [wd_fa ha0] at hj0
  exact va_copyi hx hb (hml.trans hsz.symm) hown (hts _ hlink) (hts _ hnat) (hts _ hstat) (hts _ hini) hK hP hD hS j0 j t0 t0 hj0 hj ht0 ht0 rfl h1 h2 h3 h4 h5 (fun _ _ => rfl) hframes hlocals hdg (fun H1 locs1 hP1 hD1 hS1 => kk H1 locs1 _ rfl (wd_set hL hD hA ha1 hj2 hP1 hD1 hS1))
/-- System.arraycopy of references, all of them fit for the target's elements -/
theorem wd_copyM (S : CallFix p m c cc nL s args Ts own) (hsz : ls.size = nL) {index : Nat} (hlink : Cond.methodLink own index arraycopyName ∈ Ts) (hnat : Cond.native arraycopyName ∈ Ts) (hstat : Cond.static arraycopyName ∈ Ts) (hini : Cond.initialized "java/lang/System" ∈ Ts)
    (hK : va_K D cl tys s) (hW : wd_W D cl A w H0 H locs) (t0 : Nat) {a0 : Nat} {c0 : ClassId} {n0 n1 : Nat} {f g : Nat → Option Nat} {E : String} (ha0 : w a0 = some (.inl (c0, n0, .inr (.inr (.inr (.inr f)))))) (ha1 : w a = some (.inl (c0, n1, .inr (.inr (.inr (.inr g)))))) (ht0 : tys[t0]? = some (c0, .object E))
    {sp dp n : Int32} (h1 : ¬ sp < 0) (h2 : ¬ dp < 0) (h3 : ¬ n < 0) (h4 : sp.toNatClampNeg + n.toNatClampNeg ≤ n0) (h5 : dp.toNatClampNeg + n.toNatClampNeg ≤ n1) (hel : ∀ i : Nat, i < n.toNatClampNeg → ∀ y : Nat, f (sp.toNatClampNeg + i) = some y → ∃ (ci : Nat) (fs : List Value) (r : vw_C), w y = some (.inr (ci, fs)) ∧ cl[ci]? = some r ∧ va_Nw (.castable r.1 E) s)
    (hframes : 1 ≤ R.frames) (hlocals : (rest.map fun v => v.category).sum + (nativeFrameWords "java/lang/System" "arraycopy" 5 + 11) ≤ R.locals) (hdg : decode cc pc = .ok (.invokestatic index, 3))
    (kk : ∀ (H1 : Heap) (locs1 : List Loc), ∀ w1 : wd_M, w1 = va_up w a (some (.inl (c0, n1, .inr (.inr (.inr (.inr (va_cpy f g sp.toNatClampNeg dp.toNatClampNeg n.toNatClampNeg))))))) → wd_W D cl A w1 H0 H1 locs1 → W p l e R s m args below meth c H1 locs1 cells slots Q (F0 m (pc + 3) ls rest)) : W p l e R s m args below meth c H locs cells slots Q (F0 m pc ls (.int n :: .int dp :: .ref a :: .int sp :: .ref a0 :: rest)) := by
  obtain ⟨hx, hb, hml, hown, hts⟩ := S
  obtain ⟨⟨L, hL, hP, hD⟩, hS, hA⟩ := hW
  obtain ⟨j0, hj0⟩ := va_pl_get (X := []) (L := L) (f := wd_f w) (wd_mem hL ha0)
  obtain ⟨j, hj⟩ := va_pl_get (X := []) (L := L) (f := wd_f w) (wd_mem hL ha1)
  have hj2 := hj
  rw [wd_fa ha1] at hj
  rw [wd_fa ha0] at hj0
  refine va_copyM hx hb (hml.trans hsz.symm) hown (hts _ hlink) (hts _ hnat) (hts _ hstat) (hts _ hini) hK hP hD hS j0 j t0 t0 hj0 hj ht0 ht0 h1 h2 h3 h4 h5 (fun i hi y hy => ?_) hframes hlocals hdg (fun H1 locs1 hP1 hD1 hS1 => kk H1 locs1 _ rfl (wd_set hL hD hA ha1 hj2 hP1 hD1 hS1))
  obtain ⟨ci, fs, r, e1, e2, e3⟩ := hel i hi y hy
  obtain ⟨k1, hk1⟩ := va_pl_get (X := []) (L := L) (f := wd_f w) (wd_mem hL e1)
  rw [wd_fa e1] at hk1
  refine va_rAny hK hP hk1 e2 (fun comp c1 g1 g2 => ?_)
  obtain ⟨c2, t1, f1, f2, f3⟩ := Cond.castable_spec (va_Nw.use (A := args) rfl e3)
  cases g2.symm.trans f1
  cases g1.symm.trans f2
  exact f3
end WDI
