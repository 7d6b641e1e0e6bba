/-! CONTRACTS OVER MAPS: entry, returns, calls. The words are lw_good everywhere. -/
/-- what a method finds: the world w, and the tables and statics of the start -/
def ct_Pre (G : ev_G) (w : wd_M) (sz : Nat) (U : State) : Prop := U.heap.size = sz ∧ ev_K G (wd_A w sz) U U.heap ∧ wd_H G.1 ev_cl (wd_A w sz) w U.heap
def ct_Post (G : ev_G) (w : wd_M) (sz : Nat) (u : wd_M) (t : State) : Prop := wd_H G.1 ev_cl (wd_A w sz) u t.heap
def ct_i (l : Launch) (y : MethodName) (b : ByteArray) (nl : Nat) (rt : Option FieldType) (rm : Room) (G : ev_G) (w : wd_M) (sz : Nat) (av : List Value) (post : Int32 → wd_M → Prop) : Prop :=
  Met l y (Cond.code y b nl rt :: lw_good) rm (va_Pc av (ct_Pre G w sz)) (va_Qi post (ct_Post G w sz) (wd_A w sz)) rm.cells rm.slots (wd_A w sz)
def ct_v (l : Launch) (y : MethodName) (b : ByteArray) (nl : Nat) (rt : Option FieldType) (rm : Room) (G : ev_G) (w : wd_M) (sz : Nat) (av : List Value) (post : wd_M → Prop) : Prop :=
  Met l y (Cond.code y b nl rt :: lw_good) rm (va_Pc av (ct_Pre G w sz)) (va_Qv post (ct_Post G w sz) (wd_A w sz)) rm.cells rm.slots (wd_A w sz)
def ct_q (l : Launch) (y : MethodName) (b : ByteArray) (nl : Nat) (rt : Option FieldType) (rm : Room) (G : ev_G) (w : wd_M) (sz : Nat) (av : List Value) (post : Option Nat → wd_M → Prop) : Prop :=
  Met l y (Cond.code y b nl rt :: lw_good) rm (va_Pc av (ct_Pre G w sz)) (va_Qq post (ct_Post G w sz) (wd_A w sz)) rm.cells rm.slots (wd_A w sz)
theorem ct_blind {G : ev_G} {w : wd_M} {sz : Nat} {av : List Value} : FrameBlind (va_Pc av (ct_Pre G w sz)) := by
  intro a U g mk q
  obtain ⟨q0, q1, q2, q3⟩ := q
  exact ⟨q0, q1, ev_same rfl q2, q3⟩
/-- a body's start -/
theorem ct_enter {l : Launch} {y : MethodName} {b : ByteArray} {nl : Nat} {rt : Option FieldType} {rm : Room} {G : ev_G} {w : wd_M} {sz : Nat} {av : List Value} {Qc : Array Value → State → Outcome → State → Prop} (hy : plainFor y = true) (hn : (lg_sl av).length ≤ nl)
    (body : ∀ (p : Program) (e : Env) (s : State) (m : MethodId) (below : List Frame) (meth : Method) (c : Code), s.heap.size = sz → CallFix p m c b nl s av.toArray lw_good y.cls → meth.sig.returnType = rt → meth.locks = false → meth.name = y.name → ev_K G (wd_A w sz) s s.heap → wd_W G.1 ev_cl (wd_A w sz) w s.heap s.heap [] → ∀ ls : Array Slot, lv_has ls nl (lv_args 0 av) → W p l e rm s m av.toArray below meth c s.heap [] 0 0 (MQ below Qc av.toArray s rm.cells rm.slots (wd_A w sz)) (F0 m 0 ls [])) :
    Met l y (Cond.code y b nl rt :: lw_good) rm (va_Pc av (ct_Pre G w sz)) Qc rm.cells rm.slots (wd_A w sz) := by
  refine va_MetF (cc := b) (maxL := nl) (ret := rt) hy rfl ?_
  intro p e s m args below meth c s₁ B hml hv
  obtain ⟨rfl, hsz, hE, hH⟩ := hv
  have hts := atoms_spec (ws := Cond.code y b nl rt :: lw_good) B.pre
  have hl := lv_entry av (n := nl) hn
  rw [lg_entry_eq]
  exact body p e s m below meth c hsz ⟨B.exec, B.bytes, hml, findClass_of_methodNamed B.named, fun x hx => hts x (List.mem_cons_of_mem _ hx)⟩ B.returns B.notSynchronized (name_of_methodNamed B.named B.method).1 hE ⟨hH, va_S.rf, fun q h => Or.inr (by rw [← hsz]; exact h)⟩ _ hl
section CTR
variable {p : Program} {l : Launch} {e : Env} {R : Room} {s : State} {m : MethodId} {args : Array Value} {below : List Frame} {meth : Method} {c : Code} {H : Heap} {locs : List Loc} {cells slots : Nat} {Q : State → Prop}
variable {cc : ByteArray} {pc nL : Nat} {ls : Array Slot} {rest st0 : List Value} {G : ev_G} {A : Nat → Prop} {w u : wd_M} {Ts : List Cond} {own : String} {sz mc ms : Nat}
theorem ct_iret {post : Int32 → wd_M → Prop} {v : Int32} {ty : FieldType} (S : CallFix p m c cc nL s args Ts own) (hr : meth.sig.returnType = some ty) (hn : narrow ty (.int v) = .int v) (hlocks : meth.locks = false) (hW : wd_W G.1 ev_cl (wd_A w sz) u s.heap H locs) (hp : post v u) (h1 : cells ≤ mc) (h2 : slots ≤ ms) (hdg : decode cc pc = .ok (.ireturn, 1)) :
    W p l e R s m args below meth c H locs cells slots (MQ below (va_Qi post (ct_Post G w sz) (wd_A w sz)) args s mc ms (wd_A w sz)) (F0 m pc ls [.int v]) := by
  obtain ⟨hx, hb, -⟩ := S
  refine W.widen h1 h2 ?_
  exact W.zret hx hb hr hn (fun t ht _ => ⟨⟨v, u, rfl, hp, by show wd_H _ _ _ _ t.heap; rw [ht]; exact hW.1⟩, hW.2.1.F ht⟩) hW.2.1.2.2 hdg hlocks
theorem ct_vret {post : wd_M → Prop} (S : CallFix p m c cc nL s args Ts own) (hr : meth.sig.returnType = none) (hlocks : meth.locks = false) (hW : wd_W G.1 ev_cl (wd_A w sz) u s.heap H locs) (hp : post u) (h1 : cells ≤ mc) (h2 : slots ≤ ms) (hdg : decode cc pc = .ok (.return_, 1)) :
    W p l e R s m args below meth c H locs cells slots (MQ below (va_Qv post (ct_Post G w sz) (wd_A w sz)) args s mc ms (wd_A w sz)) (F0 m pc ls []) := by
  obtain ⟨hx, hb, -⟩ := S
  refine W.widen h1 h2 ?_
  exact W.vret hx hb hr (fun t ht _ => ⟨⟨u, rfl, hp, by show wd_H _ _ _ _ t.heap; rw [ht]; exact hW.1⟩, hW.2.1.F ht⟩) hW.2.1.2.2 hdg hlocks
theorem ct_qret {post : Option Nat → wd_M → Prop} {r : Option Nat} {rt : FieldType} (S : CallFix p m c cc nL s args Ts own) (hr : meth.sig.returnType = some rt) (hrt : (∃ n, rt = .object n) ∨ ∃ t, rt = .array t) (hlocks : meth.locks = false) (hW : wd_W G.1 ev_cl (wd_A w sz) u s.heap H locs) (hp : post r u) (h1 : cells ≤ mc) (h2 : slots ≤ ms) (hdg : decode cc pc = .ok (.areturn, 1)) :
    W p l e R s m args below meth c H locs cells slots (MQ below (va_Qq post (ct_Post G w sz) (wd_A w sz)) args s mc ms (wd_A w sz)) (F0 m pc ls [va_rf r]) := by
  obtain ⟨hx, hb, -⟩ := S
  refine W.widen h1 h2 ?_
  exact W.aret hx hb hr hrt (va_rf_or r) (fun t ht _ => ⟨⟨r, u, rfl, hp, by show wd_H _ _ _ _ t.heap; rw [ht]; exact hW.1⟩, hW.2.1.F ht⟩) hW.2.1.2.2 hdg hlocks
/-- what a callee finds of the start -/
theorem ct_env (hE : ev_K G A s s.heap) (hW : wd_W G.1 ev_cl A w s.heap H locs) {U : State} (hU : U.heap = H) (hw : s.WarmedH U.vm) : ct_Pre G w H.size U := by
  refine ⟨by rw [hU], ?_, by rw [hU]; exact hW.1.self _⟩
  rw [hU]
  exact ev_moved hw (ev_narrow (ev_kept hE hW.2.1.2.1) (wd_sub hW))
theorem ct_good {y : MethodName} {b : ByteArray} {nl : Nat} {rt : Option FieldType} (hcode : Cond.code y b nl rt ∈ lw_good) : GoodIn lw_good (Cond.code y b nl rt :: lw_good) := by
  intro x hx
  rcases List.mem_cons.mp hx with h | h
  · rw [h]
    exact ⟨hcode, Or.inl rfl⟩
  · exact ⟨h, lw_good_ok x h⟩
/-- what every call needs: the room, the code, the link -/
theorem ct_B {y : MethodName} {b : ByteArray} {nl n index : Nat} {rt : Option FieldType} {rm : Room} (hts : ∀ x ∈ lw_good, x.before args s = true) (hcode : Cond.code y b nl rt ∈ lw_good) (hini : Cond.initialized y.cls ∈ lw_good) (hlk : Cond.methodLink own index y ∈ lw_good)
    (hd : y.cls ≠ "java/lang/invoke/MethodHandle" ∧ y.cls ≠ "java/lang/invoke/VarHandle" ∧ (parseMethodDescriptor y.desc).map (fun d => d.parameters.length) = some n) (hR : rm.frames + 1 ≤ R.frames ∧ 8 + (nl + 11) + rm.locals ≤ R.locals) : CallB R s args own index y b nl rt (Cond.code y b nl rt :: lw_good) rm rm.cells rm.slots n :=
  callB_of n hts (ct_good hcode) rfl rfl rfl (hts _ hini) (hts _ hlk) hd hR
theorem ct_recv (hE : ev_K G A s s.heap) (hW : wd_W G.1 ev_cl A w s.heap H locs) {r ci : Nat} {fs : List Value} {q : vw_C} (hw : w r = some (.inr (ci, fs))) (hc : ev_cl[ci]? = some q) : ∃ cell : Cell, H[r]? = some cell ∧ cell.vm.isStatics = false ∧ s.vm.findClass q.1 = some cell.cls := by
  obtain ⟨q', h1, cell, g1, g2, g3, -⟩ := hW.1.at hw
  exact ⟨cell, g1, by rw [g3]; rfl, by rw [g2]; exact (hE.1.1 ci q hc).2.1⟩
variable {y : MethodName} {b : ByteArray} {nl n index : Nat} {rt : Option FieldType} {rm : Room} {As : List Value}
/-- the world behind a call -/
theorem ct_back {H1 : Heap} {locs1 : List Loc} {t : State} (hW : wd_W G.1 ev_cl A w s.heap H locs) (ht : t.heap = H1) (hB : ct_Post G w H.size u t) (hS : va_S A s.heap H1 locs1) : wd_W G.1 ev_cl A u s.heap H1 locs1 := by
  refine ⟨?_, hS, hW.2.2⟩
  have h1 : wd_H G.1 ev_cl (wd_A w H.size) u t.heap := hB
  rw [ht] at h1
  exact h1.weaken (wd_sub hW)
theorem ct_runV {ci : Nat} {fs : List Value} {q : vw_C} {r : Nat} {Qc : Array Value → State → Outcome → State → Prop} (S : CallFix p m c cc nL s args lw_good own) (hE : ev_K G A s s.heap) (hW : wd_W G.1 ev_cl A w s.heap H locs) (hM : Met l y (Cond.code y b nl rt :: lw_good) rm (va_Pc (.ref r :: As) (ct_Pre G w H.size)) Qc rm.cells rm.slots (wd_A w H.size)) (hw : w r = some (.inr (ci, fs))) (hc : ev_cl[ci]? = some q)
    (hcode : Cond.code y b nl rt ∈ lw_good) (hini : Cond.initialized y.cls ∈ lw_good) (hlk : Cond.methodLink own index y ∈ lw_good) (hinst : Cond.instanceMethod y ∈ lw_good) (hsel : Cond.selects q.1 y y ∈ lw_good) (hd : y.cls ≠ "java/lang/invoke/MethodHandle" ∧ y.cls ≠ "java/lang/invoke/VarHandle" ∧ (parseMethodDescriptor y.desc).map (fun d => d.parameters.length) = some As.length)
    (hR : rm.frames + 1 ≤ R.frames ∧ 8 + (nl + 11) + rm.locals ≤ R.locals) (hl : ls.size = nL) (hst : (rest.map fun v => v.category).sum ≤ 8) (hdg : decode cc pc = .ok (.invokevirtual index, 3)) (hf : cells + rm.cells ≤ R.cells ∧ slots + rm.slots ≤ R.slots) :
    va_Run p l e R s m args below meth c H locs cells slots rm.cells rm.slots (F0 m pc ls (As.reverse ++ .ref r :: rest)) rest (Qc (Value.ref r :: As).toArray) (wd_A w H.size) :=
  va_runV (C := q.1) S hM ⟨ct_B S.2.2.2.2 hcode hini hlk hd hR, S.2.2.2.2 _ hinst, S.2.2.2.2 _ hsel⟩ ⟨ct_blind, ct_recv hE hW hw hc, fun U hU hw2 => ⟨rfl, ct_env hE hW hU hw2⟩⟩ rfl rfl hl rfl (lv_room hst) hdg hf
theorem ct_runS {Qc : Array Value → State → Outcome → State → Prop} (S : CallFix p m c cc nL s args lw_good own) (hE : ev_K G A s s.heap) (hW : wd_W G.1 ev_cl A w s.heap H locs) (hM : Met l y (Cond.code y b nl rt :: lw_good) rm (va_Pc As (ct_Pre G w H.size)) Qc rm.cells rm.slots (wd_A w H.size))
    (hcode : Cond.code y b nl rt ∈ lw_good) (hini : Cond.initialized y.cls ∈ lw_good) (hlk : Cond.methodLink own index y ∈ lw_good) (hstt : Cond.static y ∈ lw_good) (hd : y.cls ≠ "java/lang/invoke/MethodHandle" ∧ y.cls ≠ "java/lang/invoke/VarHandle" ∧ (parseMethodDescriptor y.desc).map (fun d => d.parameters.length) = some As.length)
    (hR : rm.frames + 1 ≤ R.frames ∧ 8 + (nl + 11) + rm.locals ≤ R.locals) (hl : ls.size = nL) (hst : (rest.map fun v => v.category).sum ≤ 8) (hdg : decode cc pc = .ok (.invokestatic index, 3)) (hf : cells + rm.cells ≤ R.cells ∧ slots + rm.slots ≤ R.slots) :
    va_Run p l e R s m args below meth c H locs cells slots rm.cells rm.slots (F0 m pc ls (As.reverse ++ rest)) rest (Qc As.toArray) (wd_A w H.size) :=
  va_runS S hM ⟨ct_B S.2.2.2.2 hcode hini hlk hd hR, S.2.2.2.2 _ hstt⟩ ⟨ct_blind, fun U hU hw2 => ⟨rfl, ct_env hE hW hU hw2⟩⟩ rfl rfl hl rfl (lv_room hst) hdg hf
theorem ct_runI {r : Nat} {Qc : Array Value → State → Outcome → State → Prop} (S : CallFix p m c cc nL s args lw_good own) (hE : ev_K G A s s.heap) (hW : wd_W G.1 ev_cl A w s.heap H locs) (hM : Met l y (Cond.code y b nl none :: lw_good) rm (va_Pc (.ref r :: As) (ct_Pre G w H.size)) Qc rm.cells rm.slots (wd_A w H.size))
    (hcode : Cond.code y b nl none ∈ lw_good) (hini : Cond.initialized y.cls ∈ lw_good) (hlk : Cond.methodLink own index y ∈ lw_good) (hinst : Cond.instanceMethod y ∈ lw_good) (hy1 : y.name = "<init>") (hd : y.cls ≠ "java/lang/invoke/MethodHandle" ∧ y.cls ≠ "java/lang/invoke/VarHandle" ∧ (parseMethodDescriptor y.desc).map (fun d => d.parameters.length) = some As.length)
    (hR : rm.frames + 1 ≤ R.frames ∧ 8 + (nl + 11) + rm.locals ≤ R.locals) (hl : ls.size = nL) (hst : (rest.map fun v => v.category).sum ≤ 8) (hdg : decode cc pc = .ok (.invokespecial index, 3)) (hf : cells + rm.cells ≤ R.cells ∧ slots + rm.slots ≤ R.slots) :
    va_Run p l e R s m args below meth c H locs cells slots rm.cells rm.slots (F0 m pc ls (As.reverse ++ .ref r :: rest)) rest (Qc (Value.ref r :: As).toArray) (wd_A w H.size) :=
  va_runI S hM ⟨ct_B S.2.2.2.2 hcode hini hlk hd hR, hy1, S.2.2.2.2 _ hinst⟩ ⟨ct_blind, fun U hU hw2 => ⟨rfl, ct_env hE hW hU hw2⟩⟩ rfl rfl hl rfl (lv_room hst) hdg hf
/-- the constructor of a nest mate, a private one -/
theorem ct_runIN {r : Nat} {host : String} {Qc : Array Value → State → Outcome → State → Prop} (S : CallFix p m c cc nL s args lw_good own) (hE : ev_K G A s s.heap) (hW : wd_W G.1 ev_cl A w s.heap H locs) (hM : Met l y (Cond.code y b nl none :: lw_good) rm (va_Pc (.ref r :: As) (ct_Pre G w H.size)) Qc rm.cells rm.slots (wd_A w H.size))
    (hcode : Cond.code y b nl none ∈ lw_good) (hini : Cond.initialized y.cls ∈ lw_good) (hlk : va_Nw (.methodLinkNest own index y host) s) (hinst : Cond.instanceMethod y ∈ lw_good) (hy1 : y.name = "<init>") (hd : y.cls ≠ "java/lang/invoke/MethodHandle" ∧ y.cls ≠ "java/lang/invoke/VarHandle" ∧ (parseMethodDescriptor y.desc).map (fun d => d.parameters.length) = some As.length)
    (hR : rm.frames + 1 ≤ R.frames ∧ 8 + (nl + 11) + rm.locals ≤ R.locals) (hl : ls.size = nL) (hst : (rest.map fun v => v.category).sum ≤ 8) (hdg : decode cc pc = .ok (.invokespecial index, 3)) (hf : cells + rm.cells ≤ R.cells ∧ slots + rm.slots ≤ R.slots) :
    va_Run p l e R s m args below meth c H locs cells slots rm.cells rm.slots (F0 m pc ls (As.reverse ++ .ref r :: rest)) rest (Qc (Value.ref r :: As).toArray) (wd_A w H.size) :=
  va_runIN S hM ⟨va_cnB As.length S.2.2.2.2 (ct_good hcode) rfl rfl rfl hlk (S.2.2.2.2 _ hini) hd hR, hy1, S.2.2.2.2 _ hinst⟩ ⟨ct_blind, fun U hU hw2 => ⟨rfl, ct_env hE hW hU hw2⟩⟩ rfl rfl hl rfl (lv_room hst) hdg hf
/-- behind a call: an int, nothing, a reference -/
theorem ct_goi {post : Int32 → wd_M → Prop} {av : Array Value} (hW : wd_W G.1 ev_cl A w s.heap H locs) (hr : va_Run p l e R s m args below meth c H locs cells slots rm.cells rm.slots (F0 m pc ls st0) rest (va_Qi post (ct_Post G w H.size) (wd_A w H.size) av) (wd_A w H.size))
    (kk : ∀ (v : Int32) (u : wd_M) (H1 : Heap) (locs1 : List Loc), post v u → wd_W G.1 ev_cl A u s.heap H1 locs1 → W p l e R s m args below meth c H1 locs1 (cells + rm.cells) (slots + rm.slots) Q (F0 m (pc + 3) ls (.int v :: rest))) : W p l e R s m args below meth c H locs cells slots Q (F0 m pc ls st0) :=
  va_calli hr hW.2.1 (fun q _ h => wd_sub hW q h) (wd_sub hW) (fun v u t H1 locs1 ht hvm hp hB hz hk hS => kk v u H1 locs1 hp (ct_back hW ht hB hS))
theorem ct_gov {post : wd_M → Prop} {av : Array Value} (hW : wd_W G.1 ev_cl A w s.heap H locs) (hr : va_Run p l e R s m args below meth c H locs cells slots rm.cells rm.slots (F0 m pc ls st0) rest (va_Qv post (ct_Post G w H.size) (wd_A w H.size) av) (wd_A w H.size))
    (kk : ∀ (u : wd_M) (H1 : Heap) (locs1 : List Loc), post u → wd_W G.1 ev_cl A u s.heap H1 locs1 → W p l e R s m args below meth c H1 locs1 (cells + rm.cells) (slots + rm.slots) Q (F0 m (pc + 3) ls rest)) : W p l e R s m args below meth c H locs cells slots Q (F0 m pc ls st0) :=
  va_callv hr hW.2.1 (fun q _ h => wd_sub hW q h) (wd_sub hW) (fun u t H1 locs1 ht hvm hp hB hz hk hS => kk u H1 locs1 hp (ct_back hW ht hB hS))
theorem ct_goq {post : Option Nat → wd_M → Prop} {av : Array Value} (hW : wd_W G.1 ev_cl A w s.heap H locs) (hr : va_Run p l e R s m args below meth c H locs cells slots rm.cells rm.slots (F0 m pc ls st0) rest (va_Qq post (ct_Post G w H.size) (wd_A w H.size) av) (wd_A w H.size))
    (kk : ∀ (r : Option Nat) (u : wd_M) (H1 : Heap) (locs1 : List Loc), post r u → wd_W G.1 ev_cl A u s.heap H1 locs1 → W p l e R s m args below meth c H1 locs1 (cells + rm.cells) (slots + rm.slots) Q (F0 m (pc + 3) ls (va_rf r :: rest))) : W p l e R s m args below meth c H locs cells slots Q (F0 m pc ls st0) :=
  va_callq hr hW.2.1 (fun q _ h => wd_sub hW q h) (wd_sub hW) (fun r u t H1 locs1 ht hvm hp hB hz hk hS => kk r u H1 locs1 hp (ct_back hW ht hB hS))
end CTR
