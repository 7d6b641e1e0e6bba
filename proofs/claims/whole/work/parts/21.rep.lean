/-! HOW THE CLASS HOLDS ITS STATE. B: the addresses that its fields name (0 1 2 the lists, 3 .. 8 the arrays); E: the lists' arrays; F: what the arrays hold; tg: a tag for each address, so that two parts are never one cell. -/
abbrev hr_fs (B : Nat → Nat) (tot mn wn pn : Int32) : List Value := [.ref (B 0), .ref (B 1), .ref (B 2), .int tot, .ref (B 3), .ref (B 4), .int mn, .ref (B 5), .int wn, .ref (B 6), .ref (B 7), .ref (B 8), .int pn]
def hr_c (G : ev_G) (w : wd_M) (r : Nat) (B : Nat → Nat) (F : Nat → Nat → Int32) (tot mn wn pn : Int32) : Prop :=
  w r = some (.inr (0, [.ref (B 0), .ref (B 1), .ref (B 2), .int tot, .ref (B 3), .ref (B 4), .int mn, .ref (B 5), .int wn, .ref (B 6), .ref (B 7), .ref (B 8), .int pn])) ∧ w (B 3) = some (.inl (G.2.1 0, 12, .inl (F 3))) ∧ w (B 4) = some (.inl (G.2.1 0, 13, .inl (F 4))) ∧ w (B 5) = some (.inl (G.2.1 0, 30, .inl (F 5))) ∧ w (B 6) = some (.inl (G.2.1 0, 32, .inl (F 6))) ∧ w (B 7) = some (.inl (G.2.1 0, 33, .inl (F 7))) ∧ w (B 8) = some (.inl (G.2.1 0, 30, .inl (F 8)))
/-- a language -/
def la_1 (G : ev_G) (w : wd_M) (a b z : Nat) (lg : hy_L) : Prop := w a = some (.inr (1, [.ref b, .ref z, .int (nI lg.2.2.1), .int (nI lg.2.2.2.1), .int lg.2.2.2.2])) ∧ w b = some (.inl (G.2.1 0, 256, .inl lg.1)) ∧ w z = some (.inl (G.2.1 1, 256, .inl lg.2.1))
def la_ (G : ev_G) (w : wd_M) (tg : Nat → Nat) (la : List Nat) (Ls : List hy_L) : Prop := la.length = Ls.length ∧ ∀ (i : Nat) (lg : hy_L), Ls[i]? = some lg → ∃ a b z : Nat, la[i]? = some a ∧ la_1 G w a b z lg ∧ tg a = 1000 + 3 * i ∧ tg b = 1001 + 3 * i ∧ tg z = 1002 + 3 * i
/-- a pattern -/
def pa_1 (G : ev_G) (w : wd_M) (a b d : Nat) (f g : Nat → Int32) (p : hy_P) : Prop := w a = some (.inr (2, [.int (nI p.1), .ref b, .ref d])) ∧ w b = some (.inl (G.2.1 0, p.2.1.length, .inl f)) ∧ w d = some (.inl (G.2.1 0, p.2.1.length + 1, .inl g)) ∧ li_ p.2.1 f ∧ li_ p.2.2 g
def pa_ (G : ev_G) (w : wd_M) (tg : Nat → Nat) (pa : List Nat) (Ps : List hy_P) : Prop := pa.length = Ps.length ∧ ∀ (i : Nat) (p : hy_P), Ps[i]? = some p → ∃ (a b d : Nat) (f g : Nat → Int32), pa[i]? = some a ∧ pa_1 G w a b d f g p ∧ tg a = 2000 + 3 * i ∧ tg b = 2001 + 3 * i ∧ tg d = 2002 + 3 * i
/-- a told word -/
def ta_1 (G : ev_G) (w : wd_M) (a b : Nat) (f : Nat → Int32) (t : hy_T) : Prop := w a = some (.inr (3, [.int (nI t.1), .ref b, .int t.2.2])) ∧ w b = some (.inl (G.2.1 0, t.2.1.length, .inl f)) ∧ li_ t.2.1 f
def ta_ (G : ev_G) (w : wd_M) (tg : Nat → Nat) (ta : List Nat) (Ts : List hy_T) : Prop := ta.length = Ts.length ∧ (∀ (i j a : Nat), ta[i]? = some a → ta[j]? = some a → i = j) ∧ ∀ (i : Nat) (t : hy_T), Ts[i]? = some t → ∃ (a b : Nat) (f : Nat → Int32), ta[i]? = some a ∧ ta_1 G w a b f t ∧ tg a = 10000 + 2 * a ∧ tg b = 10001 + 2 * a
/-- what is true of every state that calls can make -/
def hy_wf (Ls : List hy_L) (Ps : List hy_P) (Ts : List hy_T) (ml md wd : List Int32) (pl : List Nat) : Prop :=
  Ls.length ≤ 4 ∧ Ps.length ≤ 150 ∧ Ts.length ≤ 40 ∧ ml.length = md.length ∧ ml.length ≤ 12 ∧ wd.length ≤ 30 ∧ pl.length ≤ 30 ∧ hy_tot Ps ≤ 900 ∧
  (∀ x ∈ ml, 0 ≤ x) ∧ (∀ x ∈ md, 0 ≤ x) ∧ (∀ x ∈ wd, ∃ s : Nat, s < 256 ∧ x = nI s) ∧ (∀ x ∈ pl, x ≤ 30) ∧
  (∀ lg ∈ Ls, (∀ s : Nat, 0 ≤ lg.1 s) ∧ lg.2.2.1 ≤ 20 ∧ lg.2.2.2.1 ≤ 20) ∧
  (∀ p ∈ Ps, p.1 < 4 ∧ p.2.2.length = p.2.1.length + 1 ∧ 1 ≤ p.2.1.length ∧ p.2.1.length ≤ 12 ∧ ∀ x ∈ p.2.2, 0 ≤ x) ∧
  (∀ t ∈ Ts, t.1 < 4 ∧ t.2.1.length ≤ 30)
def hr_g (tg : Nat → Nat) (r : Nat) (B : Nat → Nat) : Prop := tg r = 1 ∧ ∀ i, i < 9 → tg (B i) = 2 + i
/-- THE CLASS HOLDS THE STATE -/
def hr_ (G : ev_G) (w : wd_M) (tg : Nat → Nat) (r : Nat) (Ls : List hy_L) (Ps : List hy_P) (Ts : List hy_T) (ml md wd : List Int32) (pl : List Nat) : Prop :=
  ∃ (B E : Nat → Nat) (F : Nat → Nat → Int32) (la pa ta : List Nat), hr_c G w r B F (nI (hy_tot Ps)) (nI ml.length) (nI wd.length) (nI pl.length) ∧ hr_g tg r B ∧
  (al_ G w (B 0) (E 0) la ∧ al_ G w (B 1) (E 1) pa ∧ al_ G w (B 2) (E 2) ta ∧ ∀ i, i < 3 → w (E i) ≠ none → tg (E i) = 11 + i) ∧
  la_ G w tg la Ls ∧ pa_ G w tg pa Ps ∧ ta_ G w tg ta Ts ∧ li_ ml (F 3) ∧ li_ md (F 4) ∧ li_ wd (F 5) ∧ li_ (pl.map nI) (F 8)
/-- a world keeps the cells whose tags have P; tags stay -/
def kp_ (w u : wd_M) (tg : Nat → Nat) (P : Nat → Prop) : Prop := ∀ x : Nat, w x ≠ none → P (tg x) → u x = w x
def ex_ (w : wd_M) (tg tg2 : Nat → Nat) : Prop := ∀ x : Nat, w x ≠ none → tg2 x = tg x
theorem wd_some {w : wd_M} {a : Nat} {x : va_E} (h : w a = some x) : w a ≠ none := by rw [h]; exact Option.some_ne_none x
theorem wd_neA {w : wd_M} {a b n n2 : Nat} {c c2 : ClassId} {f g : Nat → Int32} (ha : w a = some (.inl (c, n, .inl f))) (hb : w b = some (.inl (c2, n2, .inl g))) (h : n ≠ n2) : a ≠ b := wd_ne ha hb (fun q => by cases q; exact h rfl)
theorem tg_ne {tg : Nat → Nat} {a b : Nat} (h : tg a ≠ tg b) : a ≠ b := fun q => h (by rw [q])
theorem la_keep {G : ev_G} {w u : wd_M} {tg tg2 : Nat → Nat} {la : List Nat} {Ls : List hy_L} (h : la_ G w tg la Ls) (hk : kp_ w u tg (fun t => 1000 ≤ t ∧ t < 2000)) (he : ex_ w tg tg2) (hn : Ls.length ≤ 4) : la_ G u tg2 la Ls := by
  refine ⟨h.1, fun i lg hi => ?_⟩
  have hil := (List.getElem?_eq_some_iff.mp hi).1
  obtain ⟨a, b, z, h1, ⟨g1, g2, g3⟩, t1, t2, t3⟩ := h.2 i lg hi
  refine ⟨a, b, z, h1, ⟨?_, ?_, ?_⟩, (he a (wd_some g1)).trans t1, (he b (wd_some g2)).trans t2, (he z (wd_some g3)).trans t3⟩
  · rw [hk a (wd_some g1) (by show _ ∧ _; omega)]; exact g1
  · rw [hk b (wd_some g2) (by show _ ∧ _; omega)]; exact g2
  · rw [hk z (wd_some g3) (by show _ ∧ _; omega)]; exact g3
theorem pa_keep {G : ev_G} {w u : wd_M} {tg tg2 : Nat → Nat} {pa : List Nat} {Ps : List hy_P} (h : pa_ G w tg pa Ps) (hk : kp_ w u tg (fun t => 2000 ≤ t ∧ t < 10000)) (he : ex_ w tg tg2) (hn : Ps.length ≤ 150) : pa_ G u tg2 pa Ps := by
  refine ⟨h.1, fun i p hi => ?_⟩
  have hil := (List.getElem?_eq_some_iff.mp hi).1
  obtain ⟨a, b, d, f, g, h1, ⟨g1, g2, g3, g4⟩, t1, t2, t3⟩ := h.2 i p hi
  refine ⟨a, b, d, f, g, h1, ⟨?_, ?_, ?_, g4⟩, (he a (wd_some g1)).trans t1, (he b (wd_some g2)).trans t2, (he d (wd_some g3)).trans t3⟩
  · rw [hk a (wd_some g1) (by show _ ∧ _; omega)]; exact g1
  · rw [hk b (wd_some g2) (by show _ ∧ _; omega)]; exact g2
  · rw [hk d (wd_some g3) (by show _ ∧ _; omega)]; exact g3
theorem ta_keep {G : ev_G} {w u : wd_M} {tg tg2 : Nat → Nat} {ta : List Nat} {Ts : List hy_T} (h : ta_ G w tg ta Ts) (hk : kp_ w u tg (fun t => 10000 ≤ t)) (he : ex_ w tg tg2) : ta_ G u tg2 ta Ts := by
  refine ⟨h.1, h.2.1, fun i t hi => ?_⟩
  obtain ⟨a, b, f, h1, ⟨g1, g2, g3⟩, t1, t2⟩ := h.2.2 i t hi
  refine ⟨a, b, f, h1, ⟨?_, ?_, g3⟩, (he a (wd_some g1)).trans t1, (he b (wd_some g2)).trans t2⟩
  · rw [hk a (wd_some g1) (by show _ ≤ _; omega)]; exact g1
  · rw [hk b (wd_some g2) (by show _ ≤ _; omega)]; exact g2
theorem al_keep {G : ev_G} {w u : wd_M} {a e : Nat} {els : List Nat} (h : al_ G w a e els) (ha : u a = w a) (he : w e ≠ none → u e = w e) : al_ G u a e els := by
  obtain ⟨mo, h1, h2⟩ := h
  refine ⟨mo, ha.trans h1, ?_⟩
  rcases h2 with h2 | ⟨cap, f, g1, g2⟩
  · exact Or.inl h2
  · exact Or.inr ⟨cap, f, (he (wd_some g1)).trans g1, g2⟩
theorem la_obs {G : ev_G} {w : wd_M} {tg : Nat → Nat} {la : List Nat} {Ls : List hy_L} (h : la_ G w tg la Ls) : ∀ y ∈ la, ob_ w y := by
  intro y hy
  obtain ⟨i, hi⟩ := List.getElem?_of_mem hy
  have hil : i < Ls.length := by rw [← h.1]; exact (List.getElem?_eq_some_iff.mp hi).1
  obtain ⟨a, b, z, h1, ⟨g1, -⟩, -⟩ := h.2 i Ls[i] (List.getElem?_eq_getElem hil)
  rw [hi] at h1
  cases h1
  exact ⟨1, _, g1, Or.inl rfl⟩
theorem pa_obs {G : ev_G} {w : wd_M} {tg : Nat → Nat} {pa : List Nat} {Ps : List hy_P} (h : pa_ G w tg pa Ps) : ∀ y ∈ pa, ob_ w y := by
  intro y hy
  obtain ⟨i, hi⟩ := List.getElem?_of_mem hy
  have hil : i < Ps.length := by rw [← h.1]; exact (List.getElem?_eq_some_iff.mp hi).1
  obtain ⟨a, b, d, f, g, h1, ⟨g1, -⟩, -⟩ := h.2 i Ps[i] (List.getElem?_eq_getElem hil)
  rw [hi] at h1
  cases h1
  exact ⟨2, _, g1, Or.inr (Or.inl rfl)⟩
theorem ta_obs {G : ev_G} {w : wd_M} {tg : Nat → Nat} {ta : List Nat} {Ts : List hy_T} (h : ta_ G w tg ta Ts) : ∀ y ∈ ta, ob_ w y := by
  intro y hy
  obtain ⟨i, hi⟩ := List.getElem?_of_mem hy
  have hil : i < Ts.length := by rw [← h.1]; exact (List.getElem?_eq_some_iff.mp hi).1
  obtain ⟨a, b, f, h1, ⟨g1, -⟩, -⟩ := h.2.2 i Ts[i] (List.getElem?_eq_getElem hil)
  rw [hi] at h1
  cases h1
  exact ⟨3, _, g1, Or.inr (Or.inr rfl)⟩
