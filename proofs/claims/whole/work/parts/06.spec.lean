/-! WHAT THE SYSTEM IS, without a machine. A language: codes and capitals of the signs, least ends, whether capitals stay whole (0 or 1). A pattern: its language, letters, digits. A told word: its language, letters, places. -/
abbrev hy_L : Type := (Nat → Int32) × (Nat → Int32) × Nat × Nat × Int32
abbrev hy_P : Type := Nat × List Int32 × List Int32
abbrev hy_T : Type := Nat × List Int32 × Int32
/-- a number names one of n things -/
def nm_ (x : Int32) (n : Nat) : Prop := ¬ x < 0 ∧ ¬ nI n ≤ x
theorem nm_of {x : Int32} {n : Nat} (h : nm_ x n) (hn : n < 2 ^ 31) : ∃ k : Nat, k < n ∧ x = nI k := by
  rcases pk_ix x hn with q | q | q
  · exact absurd q h.1
  · exact absurd q h.2
  · exact q
theorem nm_nI {k n : Nat} (h : k < n) (hn : n < 2 ^ 31) : nm_ (nI k) n := ⟨nI_pos (by omega), nI_ge h hn⟩
/-- the first of xs that has P, by its number; -1 when there is none -/
def fm_ {α : Type} (xs : List α) (P : α → Prop) (v : Int32) : Prop := (v = -1 ∧ ∀ (k : Nat) (x : α), xs[k]? = some x → ¬ P x) ∨ ∃ (k : Nat) (x : α), v = nI k ∧ xs[k]? = some x ∧ P x ∧ ∀ (j : Nat) (y : α), j < k → xs[j]? = some y → ¬ P y
theorem fm_one {α : Type} {xs : List α} {P : α → Prop} {v v2 : Int32} (h : fm_ xs P v) (h2 : fm_ xs P v2) : v = v2 := by
  rcases h with ⟨rfl, h⟩ | ⟨k, x, rfl, h1, h3, h4⟩ <;> rcases h2 with ⟨rfl, g⟩ | ⟨k2, x2, rfl, g1, g3, g4⟩
  · rfl
  · exact absurd g3 (h k2 x2 g1)
  · exact absurd h3 (g k x h1)
  · rcases Nat.lt_trichotomy k k2 with q | q | q
    · exact absurd h3 (g4 k x q h1)
    · rw [q]
    · exact absurd g3 (h4 k2 x2 q g1)
/-- the pattern stands at st in the row -/
def hy_at (ls row : List Int32) (st : Nat) : Prop := st + ls.length ≤ row.length ∧ ∀ i : Nat, i < ls.length → row.getD (st + i) 0 = ls.getD i 0
/-- some pattern of the language has the digit d at place j of the row -/
def hy_cov (P : List hy_P) (lang : Nat) (row : List Int32) (j : Nat) (d : Int32) : Prop := ∃ (k : Nat) (p : hy_P), P[k]? = some p ∧ p.1 = lang ∧ ∃ st : Nat, hy_at p.2.1 row st ∧ st ≤ j ∧ j ≤ st + p.2.1.length ∧ p.2.2.getD (j - st) 0 = d
/-- d is the digit at place j: the greatest -/
def hy_isD (P : List hy_P) (lang : Nat) (row : List Int32) (j : Nat) (d : Int32) : Prop := (d = 0 ∨ hy_cov P lang row j d) ∧ 0 ≤ d ∧ ∀ d2 : Int32, hy_cov P lang row j d2 → d2 ≤ d
theorem hy_isD_one {P : List hy_P} {lang : Nat} {row : List Int32} {j : Nat} {d d2 : Int32} (h : hy_isD P lang row j d) (h2 : hy_isD P lang row j d2) : d = d2 := by
  refine Int32.le_antisymm ?_ ?_
  · rcases h.1 with e1 | e1
    · rw [e1]; exact h2.2.1
    · exact h2.2.2 d e1
  · rcases h2.1 with e1 | e1
    · rw [e1]; exact h.2.1
    · exact h.2.2 d2 e1
/-- the letters of a word in a language; the row with an edge before and behind -/
def hy_let (lg : hy_L) (wd : List Int32) : List Int32 := wd.map (fun s => lg.1 s.toNatClampNeg)
def hy_row (lt : List Int32) : List Int32 := 0 :: (lt ++ [0])
/-- every sign has a code -/
def hy_sp (lg : hy_L) (wd : List Int32) : Prop := ∀ x ∈ hy_let lg wd, ¬ x = 0
/-- a told word: the same language, the same letters -/
def hy_tm (lang : Nat) (lt : List Int32) (t : hy_T) : Prop := t.1 = lang ∧ t.2.1 = lt
def hy_bit (x : Int32) (k : Nat) : Int32 := (x.toUInt32 >>> ((nI k).toUInt32 &&& Int32.toUInt32 31)).toInt32 &&& 1
/-- the digit between signs k - 1 and k of a word with these letters -/
def hy_dig (P : List hy_P) (T : List hy_T) (lang : Nat) (lt : List Int32) (k : Nat) (d : Int32) : Prop :=
  (∃ (i : Nat) (t : hy_T), fm_ T (hy_tm lang lt) (nI i) ∧ i < T.length ∧ T[i]? = some t ∧ d = hy_bit t.2.2 k) ∨ (fm_ T (hy_tm lang lt) (-1) ∧ hy_isD P lang (hy_row lt) (k + 1) d)
theorem hy_dig_one {P : List hy_P} {T : List hy_T} {lang : Nat} {lt : List Int32} {k : Nat} {d d2 : Int32} (hT : T.length < 2 ^ 31) (h : hy_dig P T lang lt k d) (h2 : hy_dig P T lang lt k d2) : d = d2 := by
  have hne : ∀ i : Nat, i < T.length → nI i ≠ -1 := fun i hi q => by
    have h1 := nI_toInt (n := i) (by omega)
    rw [q] at h1
    have h2 : ((-1 : Int32)).toInt = -1 := by decide
    omega
  rcases h with ⟨i, t, f1, i1, t1, rfl⟩ | ⟨f1, h⟩ <;> rcases h2 with ⟨i2, t2, f2, i2l, t2e, rfl⟩ | ⟨f2, h2⟩
  · have e1 := (nI_eq (by omega) (by omega)).mp (fm_one f1 f2)
    subst e1
    rw [t1] at t2e
    cases t2e
    rfl
  · exact absurd (fm_one f1 f2) (hne i i1)
  · exact absurd (fm_one f2 f1) (hne i2 i2l)
  · exact hy_isD_one h h2
/-- a row that a pattern may have: a letter, and edges at its ends alone -/
def hy_pat (ml : List Int32) : Prop := (∃ (i : Nat) (x : Int32), ml[i]? = some x ∧ ¬ x = 0) ∧ ∀ i : Nat, ml[i]? = some 0 → i = 0 ∨ i + 1 = ml.length
def hy_tot (P : List hy_P) : Nat := (P.map (fun p => p.2.1.length)).sum
/-- an array holds a list -/
def li_ (xs : List Int32) (f : Nat → Int32) : Prop := ∀ (i : Nat) (x : Int32), xs[i]? = some x → f i = x
theorem li_get {xs : List Int32} {f : Nat → Int32} (h : li_ xs f) {i : Nat} (hi : i < xs.length) : f i = xs.getD i 0 := by
  rw [h i xs[i] (List.getElem?_eq_getElem hi)]
  simp [hi]
theorem li_nil {f : Nat → Int32} : li_ [] f := fun i x h => by simp at h
theorem li_put {xs : List Int32} {f : Nat → Int32} {y : Int32} (h : li_ xs f) : li_ (xs ++ [y]) (upd f xs.length y) := by
  intro i x hx
  by_cases hi : i < xs.length
  · rw [List.getElem?_append_left hi] at hx
    rw [pk_un (by omega)]
    exact h i x hx
  · rw [List.getElem?_append_right (by omega)] at hx
    have h1 : i - xs.length < 1 := (List.getElem?_eq_some_iff.mp hx).1
    have h2 : i = xs.length := by omega
    subst h2
    rw [Nat.sub_self] at hx
    cases hx
    exact pk_us
theorem li_take {xs : List Int32} {f g : Nat → Int32} (h : li_ xs f) (hg : ∀ i, i < xs.length → g i = f i) : li_ xs g := fun i x hx => by
  rw [hg i (List.getElem?_eq_some_iff.mp hx).1]
  exact h i x hx
/-- two lists of one length that one array holds are one -/
theorem li_one {xs ys : List Int32} {f g : Nat → Int32} (hx : li_ xs f) (hy : li_ ys g) (hl : xs.length = ys.length) (hfg : ∀ i, i < xs.length → f i = g i) : xs = ys := by
  refine List.ext_getElem hl (fun i h1 h2 => ?_)
  rw [← hx i xs[i] (List.getElem?_eq_getElem h1), ← hy i ys[i] (List.getElem?_eq_getElem h2)]
  exact hfg i h1
/-- the places of a word -/
def hy_od (d : Int32) : Prop := d - d / 2 * 2 = 1
def hy_pk (P : List hy_P) (T : List hy_T) (lang : Nat) (lg : hy_L) (wd : List Int32) (k : Nat) : Prop := 1 ≤ k ∧ k < wd.length ∧ lg.2.2.1 ≤ k ∧ k + lg.2.2.2.1 ≤ wd.length ∧ ∃ d : Int32, hy_dig P T lang (hy_let lg wd) k d ∧ hy_od d
noncomputable def hy_pls (P : List hy_P) (T : List hy_T) (lang : Nat) (lg : hy_L) (wd : List Int32) (n : Nat) : List Nat := (List.range n).filter (fun k => @decide (hy_pk P T lang lg wd k) (Classical.propDecidable _))
theorem hy_pls_yes {P : List hy_P} {T : List hy_T} {lang : Nat} {lg : hy_L} {wd : List Int32} {n : Nat} (h : hy_pk P T lang lg wd n) : hy_pls P T lang lg wd (n + 1) = hy_pls P T lang lg wd n ++ [n] := by
  unfold hy_pls
  rw [List.range_succ, List.filter_append, List.filter_cons_of_pos (by simp [h])]
  rfl
theorem hy_pls_no {P : List hy_P} {T : List hy_T} {lang : Nat} {lg : hy_L} {wd : List Int32} {n : Nat} (h : ¬ hy_pk P T lang lg wd n) : hy_pls P T lang lg wd (n + 1) = hy_pls P T lang lg wd n := by
  unfold hy_pls
  rw [List.range_succ, List.filter_append, List.filter_cons_of_neg (by simp [h])]
  simp
theorem hy_pls_le {P : List hy_P} {T : List hy_T} {lang : Nat} {lg : hy_L} {wd : List Int32} {n : Nat} : (hy_pls P T lang lg wd n).length ≤ n := by
  unfold hy_pls
  exact Nat.le_trans (List.length_filter_le _ _) (by simp)
/-- a word that stays whole -/
def hy_wh (lg : hy_L) (wd : List Int32) : Prop := ¬ lg.2.2.2.2 = 0 ∧ ∃ s : Int32, wd[0]? = some s ∧ ¬ lg.2.1 s.toNatClampNeg = 0
