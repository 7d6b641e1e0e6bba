/-! MORE ROWS: fields under an heir's name, clone of an int array, casts. -/
section WDM
variable {p : Program} {l : Launch} {e : Env} {R : Room} {s : State} {m : MethodId} {args : Array Value} {below : List Frame} {meth : Method} {c : Code} {H : Heap} {locs : List Loc} {cells slots : Nat} {Q : State → Prop}
variable {cc : ByteArray} {pc nL : Nat} {ls : Array Slot} {rest : List Value} {D : va_G} {cl : List vw_C} {A : Nat → Prop} {a : Nat} {tys : List (ClassId × FieldType)} {w : wd_M} {H0 : Heap} {Ts : List Cond} {own : String}
theorem wd_getS (S : CallFix p m c cc nL s args Ts own) {ref C : String} {T : u_T} {N ci index : Nat} (hin : ∀ x ∈ u_ws C T N, x ∈ Ts) (hK : va_K D cl tys s) (hW : wd_W D cl A w H0 H locs) {fs : List Value} (he : w a = some (.inr (ci, fs))) (hc : cl[ci]? = some (C, T, N)) (k : Nat) (hk : k < N) (hlink : Cond.fieldLink own index ref (T k).2.1 (T k).2.2.1 ∈ Ts) (hsm : Cond.sameField ref (T k).1 (T k).2.1 (T k).2.2.1 ∈ Ts) {v : Value} (hv : fs[k]? = some v) (hdg : decode cc pc = .ok (.getfield index, 3))
    (kk : W p l e R s m args below meth c H locs cells slots Q (F0 m (pc + 3) ls (v :: rest))) : W p l e R s m args below meth c H locs cells slots Q (F0 m pc ls (.ref a :: rest)) := by
  obtain ⟨hx, hb, hml, hown, hts⟩ := S
  obtain ⟨⟨L, hL, hP, hD⟩, hS, hA⟩ := hW
  obtain ⟨j, hj⟩ := va_pl_get (X := []) (L := L) (f := wd_f w) (wd_mem hL he)
  rw [wd_fa he] at hj
  exact va_get hx hb hts hin hown hK hP j hj hc k hk (hts _ hlink) (fun x h => u_same (hts _ hsm) x h) hv hdg kk
theorem wd_putS (S : CallFix p m c cc nL s args Ts own) {ref C : String} {T : u_T} {N ci index : Nat} (hin : ∀ x ∈ u_ws C T N, x ∈ Ts) (ty0 : Nat → FieldType) (hty : ∀ k, k < N → parseFieldDescriptor (T k).2.2.1 = some (ty0 k)) (hnm : ∀ a, a < N → ∀ b, b < N → a ≠ b → (T a).2.1 ≠ (T b).2.1) (hK : va_K D cl tys s) (hW : wd_W D cl A w H0 H locs) {fs : List Value} (he : w a = some (.inr (ci, fs))) (hc : cl[ci]? = some (C, T, N)) (k : Nat) (hk : k < N) (hlink : Cond.fieldLink own index ref (T k).2.1 (T k).2.2.1 ∈ Ts) (hsm : Cond.sameField ref (T k).1 (T k).2.1 (T k).2.2.1 ∈ Ts) (hfin : (T k).2.2.2 = false) {v : Value} (hn : narrow (ty0 k) v = v) (hfit : fits (ty0 k) v = true) (hl : k < fs.length)
    (hdg : decode cc pc = .ok (.putfield index, 3)) (kk : ∀ (H1 : Heap) (locs1 : List Loc), ∀ w1 : wd_M, w1 = va_up w a (some (.inr (ci, fs.set k v))) → wd_W D cl A w1 H0 H1 locs1 → W p l e R s m args below meth c H1 locs1 cells slots Q (F0 m (pc + 3) ls rest)) : W p l e R s m args below meth c H locs cells slots Q (F0 m pc ls (v :: .ref a :: rest)) := by
  obtain ⟨hx, hb, hml, hown, hts⟩ := S
  obtain ⟨⟨L, hL, hP, hD⟩, hS, hA⟩ := hW
  obtain ⟨j, hj⟩ := va_pl_get (X := []) (L := L) (f := wd_f w) (wd_mem hL he)
  have hj2 := hj
  rw [wd_fa he] at hj
  exact va_put hx hb hts hin ty0 hty hnm hown hK hP hD hS j hj hc k hk (hts _ hlink) (fun x h => u_same (hts _ hsm) x h) hfin (hty k hk) hn hfit hl hdg (fun H1 locs1 hP1 hD1 hS1 => kk H1 locs1 _ rfl (wd_set hL hD hA he hj2 hP1 hD1 hS1))
/-- clone() of an int array -/
theorem wd_cloneI (S : CallFix p m c cc nL s args Ts own) (hsz : ls.size = nL) {index : Nat} (hlink : Cond.methodLink own index ⟨"[I", "clone", "()Ljava/lang/Object;"⟩ ∈ Ts) (hsame : Cond.sameMethod "[I" "java/lang/Object" "clone" "()Ljava/lang/Object;" ∈ Ts) (hnat : Cond.native ⟨"java/lang/Object", "clone", "()Ljava/lang/Object;"⟩ ∈ Ts) (hinst : Cond.instanceMethod ⟨"java/lang/Object", "clone", "()Ljava/lang/Object;"⟩ ∈ Ts) (hsel : Cond.selects "[I" ⟨"[I", "clone", "()Ljava/lang/Object;"⟩ ⟨"java/lang/Object", "clone", "()Ljava/lang/Object;"⟩ ∈ Ts) (hcl : va_Nw (.castable "[I" "java/lang/Cloneable") s)
    (hK : va_K D cl tys s) (hW : wd_W D cl A w H0 H locs) (t0 : Nat) {cA : ClassId} {n : Nat} {f : Nat → Int32} (ha : w a = some (.inl (cA, n, .inl f))) (ht : tys[t0]? = some (cA, .int))
    (hframes : 1 ≤ R.frames) (hlocals : (rest.map fun v => v.category).sum + 14 ≤ R.locals) (hcells : cells + 1 ≤ R.cells) (hslots : slots + n ≤ R.slots) (hdg : decode cc pc = .ok (.invokevirtual index, 3))
    (kk : ∀ (q : Nat) (H1 : Heap), w q = none → ∀ w1 : wd_M, w1 = va_up w q (some (.inl (cA, n, .inl f))) → wd_W D cl A w1 H0 H1 locs → W p l e R s m args below meth c H1 locs (cells + 1) (slots + n) Q (F0 m (pc + 3) ls (.ref q :: rest))) : W p l e R s m args below meth c H locs cells slots Q (F0 m pc ls (.ref a :: rest)) := by
  obtain ⟨hx, hb, hml, hown, hts⟩ := S
  obtain ⟨⟨L, hL, hP, hD⟩, hS, hA⟩ := hW
  obtain ⟨j, hj⟩ := va_pl_get (X := []) (L := L) (f := wd_f w) (wd_mem hL ha)
  rw [wd_fa ha] at hj
  have hnm : s.vm.findClass "[I" = some cA := (hK.2 t0 _ ht).2
  have hfit : ∀ (i : Nat) (v : Value), (vp_cell cA (n, .inl f)).slots[i]? = some v → fits .int v = true := by
    intro i v hv
    have hi : i < n := by
      have h1 := (Array.getElem?_eq_some_iff.mp hv).1
      rw [vp_cell_i, arrV_size] at h1
      exact h1
    rw [vp_cell_i, arrV_read _ _ hi] at hv
    cases hv
    rfl
  refine va_clone hx hb (hml.trans hsz.symm) hown (hts _ hlink) (hts _ hsame) (hts _ hnat) (hts _ hinst) (hts _ hsel) hcl hK hP hD hS hA j t0 hj ht hnm hfit hframes hlocals hcells hslots hdg (fun q H1 hK1 hP1 hD1 hS1 => ?_)
  obtain ⟨hn, hW1⟩ := wd_push hL hA hP1 hD1 hS1
  exact kk q H1 hn _ rfl hW1
theorem wd_castI (S : CallFix p m c cc nL s args Ts own) {index : Nat} (hlink : Cond.classLink own index "[I" ∈ Ts) (hK : va_K D cl tys s) (hW : wd_W D cl A w H0 H locs) (t0 : Nat) {cA : ClassId} {n : Nat} {f : Nat → Int32} (ha : w a = some (.inl (cA, n, .inl f))) (ht : tys[t0]? = some (cA, .int)) (hdg : decode cc pc = .ok (.checkcast index, 3))
    (kk : W p l e R s m args below meth c H locs cells slots Q (F0 m (pc + 3) ls (.ref a :: rest))) : W p l e R s m args below meth c H locs cells slots Q (F0 m pc ls (.ref a :: rest)) := by
  obtain ⟨hx, hb, hml, hown, hts⟩ := S
  obtain ⟨⟨L, hL, hP, hD⟩, hS, hA⟩ := hW
  obtain ⟨j, hj⟩ := va_pl_get (X := []) (L := L) (f := wd_f w) (wd_mem hL ha)
  rw [wd_fa ha] at hj
  exact va_castA hx hb hown (hts _ hlink) hP j hj (show s.vm.findClass "[I" = some cA from (hK.2 t0 _ ht).2) hdg kk
/-- a cast of an object to its own class -/
theorem wd_cast (S : CallFix p m c cc nL s args Ts own) {C : String} {index ci N : Nat} {T : u_T} (hlink : Cond.classLink own index C ∈ Ts) (hK : va_K D cl tys s) (hW : wd_W D cl A w H0 H locs) {fs : List Value} (ha : w a = some (.inr (ci, fs))) (hc : cl[ci]? = some (C, T, N)) (hdg : decode cc pc = .ok (.checkcast index, 3))
    (kk : W p l e R s m args below meth c H locs cells slots Q (F0 m (pc + 3) ls (.ref a :: rest))) : W p l e R s m args below meth c H locs cells slots Q (F0 m pc ls (.ref a :: rest)) := by
  obtain ⟨hx, hb, hml, hown, hts⟩ := S
  obtain ⟨q', h1, cell, g1, g2, g3, -⟩ := hW.1.at ha
  have hk := (hK.1 ci _ hc).2
  exact va_castS hx hb hown (hts _ hlink) hk ⟨cell, g1, by rw [g3]; rfl, by rw [g2]; exact hk.1⟩ hdg kk
end WDM
/-- the cell of an array of references, as a receiver -/
theorem wd_oarr {G : ev_G} {A : Nat → Prop} {s : State} {H0 H : Heap} {locs : List Loc} {w : wd_M} (hE : ev_K G A s H0) (hW : wd_W G.1 ev_cl A w H0 H locs) {a n : Nat} {f : Nat → Option Nat} (ha : w a = some (.inl (G.2.1 2, n, .inr (.inr (.inr (.inr f)))))) : ∃ cell : Cell, H[a]? = some cell ∧ cell.vm.isStatics = false ∧ s.vm.findClass "[Ljava/lang/Object;" = some cell.cls :=
  ⟨_, hW.1.at ha, rfl, va_nmO (hE.1.2 2 _ rfl).2 (by decide +kernel)⟩
