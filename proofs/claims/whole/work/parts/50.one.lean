/-! EACH CALL HAS ONE ANSWER, AND KEEPS WHAT IS TRUE OF EVERY STATE. -/
theorem nI_inj {x : Int32} {i j n : Nat} (h1 : x = nI i) (h2 : x = nI j) (hi : i < n) (hj : j < n) (hn : n < 2 ^ 31) : i = j := (nI_eq (by omega) (by omega)).mp (h1.symm.trans h2)
theorem gl_ {α : Type} {xs : List α} {i : Nat} {x : α} (h : xs[i]? = some x) : i < xs.length := (List.getElem?_eq_some_iff.mp h).1
theorem on_language {s t t2 : hy_S} {v v2 : Int32} (h : sp_language s v t) (h2 : sp_language s v2 t2) : v = v2 ∧ t = t2 := by
  rcases h with ⟨a, rfl, rfl⟩ | ⟨a, rfl, rfl⟩ <;> rcases h2 with ⟨b, rfl, rfl⟩ | ⟨b, rfl, rfl⟩ <;> first | exact ⟨rfl, rfl⟩ | exact absurd a b | exact absurd b a
theorem on_code {x g c k : Int32} {s t t2 : hy_S} {v v2 : Int32} (hw : wf_S s) (h : sp_code x g c k s v t) (h2 : sp_code x g c k s v2 t2) : v = v2 ∧ t = t2 := by
  rcases h with ⟨a, rfl, rfl⟩ | ⟨a, rfl, i, gn, lg, e1, e2, e3, e4, rfl⟩ <;> rcases h2 with ⟨b, rfl, rfl⟩ | ⟨b, rfl, i2, gn2, lg2, f1, f2, f3, f4, rfl⟩
  · exact ⟨rfl, rfl⟩
  · exact absurd b a
  · exact absurd a b
  · have hl := hw.1
    have h1 := nI_inj e1 f1 (gl_ e4) (gl_ f4) (by omega)
    have h3 := nI_inj e2 f2 e3 f3 (by omega)
    subst h1 h3
    rw [e4] at f4
    cases f4
    exact ⟨rfl, rfl⟩
theorem on_ends {x a0 b0 k : Int32} {s t t2 : hy_S} {v v2 : Int32} (hw : wf_S s) (h : sp_ends x a0 b0 k s v t) (h2 : sp_ends x a0 b0 k s v2 t2) : v = v2 ∧ t = t2 := by
  rcases h with ⟨a, rfl, rfl⟩ | ⟨a, rfl, i, an, bn, lg, e1, e2, e3, e5, e6, e4, rfl⟩ <;> rcases h2 with ⟨b, rfl, rfl⟩ | ⟨b, rfl, i2, an2, bn2, lg2, f1, f2, f3, f5, f6, f4, rfl⟩
  · exact ⟨rfl, rfl⟩
  · exact absurd b a
  · exact absurd a b
  · have hl := hw.1
    have h1 := nI_inj e1 f1 (gl_ e4) (gl_ f4) (by omega)
    have h3 := nI_inj e2 f2 (n := 21) (by omega) (by omega) (by omega)
    have h5 := nI_inj e5 f5 (n := 21) (by omega) (by omega) (by omega)
    subst h1 h3 h5
    rw [e4] at f4
    cases f4
    exact ⟨rfl, rfl⟩
theorem on_next {x d : Int32} {s t t2 : hy_S} {v v2 : Int32} (h : sp_next x d s v t) (h2 : sp_next x d s v2 t2) : v = v2 ∧ t = t2 := by
  rcases h with ⟨a, rfl, rfl⟩ | ⟨a, c, rfl, rfl⟩ | ⟨a, c, rfl, rfl⟩ <;> rcases h2 with ⟨b, rfl, rfl⟩ | ⟨b, e, rfl, rfl⟩ | ⟨b, e, rfl, rfl⟩ <;> first | exact ⟨rfl, rfl⟩ | exact absurd a b | exact absurd b a | exact absurd c e | exact absurd e c
theorem on_sign {x : Int32} {s t t2 : hy_S} {v v2 : Int32} (h : sp_sign x s v t) (h2 : sp_sign x s v2 t2) : v = v2 ∧ t = t2 := by
  rcases h with ⟨a, rfl, rfl⟩ | ⟨a, c, rfl, rfl⟩ | ⟨a, c, rfl, rfl⟩ <;> rcases h2 with ⟨b, rfl, rfl⟩ | ⟨b, e, rfl, rfl⟩ | ⟨b, e, rfl, rfl⟩ <;> first | exact ⟨rfl, rfl⟩ | exact absurd a b | exact absurd b a | exact absurd c e | exact absurd e c
theorem on_clear {s t t2 : hy_S} {v v2 : Int32} (h : sp_clear s v t) (h2 : sp_clear s v2 t2) : v = v2 ∧ t = t2 := ⟨h.1.trans h2.1.symm, h.2.trans h2.2.symm⟩
theorem on_patterns {s t t2 : hy_S} {v v2 : Int32} (h : sp_patterns s v t) (h2 : sp_patterns s v2 t2) : v = v2 ∧ t = t2 := ⟨h.1.trans h2.1.symm, h.2.trans h2.2.symm⟩
theorem on_exceptions {s t t2 : hy_S} {v v2 : Int32} (h : sp_exceptions s v t) (h2 : sp_exceptions s v2 t2) : v = v2 ∧ t = t2 := ⟨h.1.trans h2.1.symm, h.2.trans h2.2.symm⟩
theorem on_at {x : Int32} {s t t2 : hy_S} {v v2 : Int32} (hw : wf_S s) (h : sp_at x s v t) (h2 : sp_at x s v2 t2) : v = v2 ∧ t = t2 := by
  have hl : s.2.2.2.2.2.2.length ≤ 30 := hw.2.2.2.2.2.2.1
  obtain ⟨rfl, h⟩ := h
  obtain ⟨rfl, h2⟩ := h2
  refine ⟨?_, rfl⟩
  rcases h with ⟨a, rfl⟩ | ⟨k, p, e1, e2, rfl⟩ <;> rcases h2 with ⟨b, rfl⟩ | ⟨k2, p2, f1, f2, rfl⟩
  · rfl
  · exact absurd (f1 ▸ nm_nI (gl_ f2) (by omega)) a
  · exact absurd (e1 ▸ nm_nI (gl_ e2) (by omega)) b
  · have h1 := nI_inj e1 f1 (gl_ e2) (gl_ f2) (by omega)
    subst h1
    rw [e2] at f2
    cases f2
    rfl
theorem nI_m1 {k : Nat} (hk : k < 2 ^ 31) : nI k ≠ -1 := fun q => by
  have h1 := nI_toInt hk
  rw [q] at h1
  have h2 : ((-1 : Int32)).toInt = -1 := by decide
  omega
theorem on_pattern {x d : Int32} {s t t2 : hy_S} {v v2 : Int32} (hw : wf_S s) (h : sp_pattern x d s v t) (h2 : sp_pattern x d s v2 t2) : v = v2 ∧ t = t2 := by
  have hl := hw.1
  have hp : s.2.1.length ≤ 150 := hw.2.1
  rcases h with ⟨a, rfl, rfl⟩ | ⟨a, i, e1, e2, h⟩ <;> rcases h2 with ⟨b, rfl, rfl⟩ | ⟨b, i2, f1, f2, h2⟩
  · exact ⟨rfl, rfl⟩
  · exact absurd b a
  · exact absurd a b
  · have h1 := nI_inj e1 f1 e2 f2 (by omega)
    subst h1
    rcases h with ⟨c, rfl, rfl⟩ | ⟨c, k, c2, c3, rfl, rfl⟩ | ⟨c, c2, c3, rfl, rfl⟩ | ⟨c, c2, c3, rfl, rfl⟩ <;> rcases h2 with ⟨g, rfl, rfl⟩ | ⟨g, k2, g2, g3, rfl, rfl⟩ | ⟨g, g2, g3, rfl, rfl⟩ | ⟨g, g2, g3, rfl, rfl⟩
    · exact ⟨rfl, rfl⟩
    · exact absurd g c
    · exact absurd g c
    · exact absurd g c
    · exact absurd c g
    · have h9 := (nI_eq (by omega) (by omega)).mp (fm_one c2 g2)
      subst h9
      exact ⟨rfl, rfl⟩
    · exact absurd (fm_one c2 g2) (nI_m1 (by omega))
    · exact absurd (fm_one c2 g2) (nI_m1 (by omega))
    · exact absurd c g
    · exact absurd (fm_one g2 c2) (nI_m1 (by omega))
    · exact ⟨rfl, rfl⟩
    · exact absurd g3 c3
    · exact absurd c g
    · exact absurd (fm_one g2 c2) (nI_m1 (by omega))
    · exact absurd c3 g3
    · exact ⟨rfl, rfl⟩
theorem on_exception {x d : Int32} {s t t2 : hy_S} {v v2 : Int32} (hw : wf_S s) (h : sp_exception x d s v t) (h2 : sp_exception x d s v2 t2) : v = v2 ∧ t = t2 := by
  have hl := hw.1
  have hp : s.2.2.1.length ≤ 40 := hw.2.2.1
  rcases h with ⟨a, rfl, rfl⟩ | ⟨a, i, lg, e1, e2, h⟩ <;> rcases h2 with ⟨b, rfl, rfl⟩ | ⟨b, i2, lg2, f1, f2, h2⟩
  · exact ⟨rfl, rfl⟩
  · exact absurd b a
  · exact absurd a b
  · have h1 := nI_inj e1 f1 (gl_ e2) (gl_ f2) (by omega)
    subst h1
    rw [e2] at f2
    cases f2
    rcases h with ⟨c, rfl, rfl⟩ | ⟨c, k, p, c2, c3, c4, rfl, rfl⟩ | ⟨c, c2, c3, rfl, rfl⟩ | ⟨c, c2, c3, rfl, rfl⟩ <;> rcases h2 with ⟨g, rfl, rfl⟩ | ⟨g, k2, p2, g2, g3, g4, rfl, rfl⟩ | ⟨g, g2, g3, rfl, rfl⟩ | ⟨g, g2, g3, rfl, rfl⟩
    · exact ⟨rfl, rfl⟩
    · exact absurd g c
    · exact absurd g c
    · exact absurd g c
    · exact absurd c g
    · have h9 := (nI_eq (by omega) (by omega)).mp (fm_one c2 g2)
      subst h9
      rw [c4] at g4
      cases g4
      exact ⟨rfl, rfl⟩
    · exact absurd (fm_one c2 g2) (nI_m1 (by omega))
    · exact absurd (fm_one c2 g2) (nI_m1 (by omega))
    · exact absurd c g
    · exact absurd (fm_one g2 c2) (nI_m1 (by omega))
    · exact ⟨rfl, rfl⟩
    · exact absurd g3 c3
    · exact absurd c g
    · exact absurd (fm_one g2 c2) (nI_m1 (by omega))
    · exact absurd c3 g3
    · exact ⟨rfl, rfl⟩
theorem on_drop {x : Int32} {s t t2 : hy_S} {v v2 : Int32} (hw : wf_S s) (h : sp_drop x s v t) (h2 : sp_drop x s v2 t2) : v = v2 ∧ t = t2 := by
  have hp : s.2.2.1.length ≤ 40 := hw.2.2.1
  rcases h with ⟨a, rfl, rfl⟩ | ⟨a, rfl, k, e1, e2, rfl⟩ <;> rcases h2 with ⟨b, rfl, rfl⟩ | ⟨b, rfl, k2, f1, f2, rfl⟩
  · exact ⟨rfl, rfl⟩
  · exact absurd b a
  · exact absurd a b
  · have h1 := nI_inj e1 f1 e2 f2 (by omega)
    subst h1
    exact ⟨rfl, rfl⟩
theorem on_run {x : Int32} {s t t2 : hy_S} {v v2 : Int32} (hw : wf_S s) (h : sp_run x s v t) (h2 : sp_run x s v2 t2) : v = v2 ∧ t = t2 := by
  have hl := hw.1
  rcases h with ⟨a, rfl, rfl⟩ | ⟨a, i, lg, e1, e2, h⟩ <;> rcases h2 with ⟨b, rfl, rfl⟩ | ⟨b, i2, lg2, f1, f2, h2⟩
  · exact ⟨rfl, rfl⟩
  · exact absurd b a
  · exact absurd a b
  · have h1 := nI_inj e1 f1 (gl_ e2) (gl_ f2) (by omega)
    subst h1
    rw [e2] at f2
    cases f2
    rcases h with ⟨c, rfl, rfl⟩ | ⟨c, rfl, rfl⟩ <;> rcases h2 with ⟨g, rfl, rfl⟩ | ⟨g, rfl, rfl⟩ <;> first | exact ⟨rfl, rfl⟩ | exact absurd c g | exact absurd g c
theorem on_digit {x y : Int32} {s t t2 : hy_S} {v v2 : Int32} (hw : wf_S s) (h : sp_digit x y s v t) (h2 : sp_digit x y s v2 t2) : v = v2 ∧ t = t2 := by
  have hl := hw.1
  have hp : s.2.2.1.length ≤ 40 := hw.2.2.1
  have hn : s.2.2.2.2.2.1.length ≤ 30 := hw.2.2.2.2.2.1
  obtain ⟨rfl, h⟩ := h
  obtain ⟨rfl, h2⟩ := h2
  refine ⟨?_, rfl⟩
  rcases h with ⟨a, rfl⟩ | ⟨a, i, k, lg, e1, e3, e4, e2, h⟩ <;> rcases h2 with ⟨b, rfl⟩ | ⟨b, i2, k2, lg2, f1, f3, f4, f2, h2⟩
  · rfl
  · exact absurd b a
  · exact absurd a b
  · have h1 := nI_inj e1 f1 (gl_ e2) (gl_ f2) (by omega)
    have h3 := nI_inj e3 f3 (n := 31) (by omega) (by omega) (by omega)
    subst h1 h3
    rw [e2] at f2
    cases f2
    rcases h with ⟨c, rfl⟩ | ⟨c, h⟩ <;> rcases h2 with ⟨g, rfl⟩ | ⟨g, h2⟩
    · rfl
    · exact absurd g c
    · exact absurd c g
    · exact hy_dig_one (by omega) h h2
/-! what is true of every state -/
theorem mem_set {α : Type} {xs : List α} {i : Nat} {y x : α} (h : x ∈ xs.set i y) : x = y ∨ x ∈ xs := (List.mem_or_eq_of_mem_set h).symm
theorem wk_language {s t : hy_S} {v : Int32} (hw : wf_S s) (h : sp_language s v t) : wf_S t := by
  rcases h with ⟨a, rfl, rfl⟩ | ⟨a, rfl, rfl⟩
  · exact hw
  · obtain ⟨wL, wP, wT, wm, wml, wwd, wpl, wtot, wmx, wdx, wws, wplx, wlg, wps, wts⟩ := hw
    refine ⟨by rw [List.length_append]; exact a, wP, wT, wm, wml, wwd, wpl, wtot, wmx, wdx, wws, wplx, fun lg hlg => ?_, wps, wts⟩
    rcases List.mem_append.mp hlg with q | q
    · exact wlg lg q
    · rw [List.mem_singleton.mp q]
      exact ⟨fun _ => Int32.le_refl _, by decide, by decide⟩
theorem wk_code {x g c k : Int32} {s t : hy_S} {v : Int32} (hw : wf_S s) (h : sp_code x g c k s v t) : wf_S t := by
  rcases h with ⟨a, rfl, rfl⟩ | ⟨a, rfl, i, gn, lg, e1, e2, e3, e4, rfl⟩
  · exact hw
  · obtain ⟨wL, wP, wT, wm, wml, wwd, wpl, wtot, wmx, wdx, wws, wplx, wlg, wps, wts⟩ := hw
    refine ⟨by rw [List.length_set]; exact wL, wP, wT, wm, wml, wwd, wpl, wtot, wmx, wdx, wws, wplx, fun l2 hl2 => ?_, wps, wts⟩
    have h9 := wlg lg (List.mem_of_getElem? e4)
    rcases mem_set hl2 with q | q
    · rw [q]
      refine ⟨fun s2 => ?_, h9.2⟩
      show 0 ≤ upd lg.1 gn c s2
      by_cases hq : s2 = gn
      · subst hq; rw [pk_us]; exact Int32.not_lt.mp a.2.2.1
      · rw [pk_un hq]; exact h9.1 s2
    · exact wlg l2 q
theorem wk_ends {x a0 b0 k : Int32} {s t : hy_S} {v : Int32} (hw : wf_S s) (h : sp_ends x a0 b0 k s v t) : wf_S t := by
  rcases h with ⟨a, rfl, rfl⟩ | ⟨a, rfl, i, an, bn, lg, e1, e2, e3, e5, e6, e4, rfl⟩
  · exact hw
  · obtain ⟨wL, wP, wT, wm, wml, wwd, wpl, wtot, wmx, wdx, wws, wplx, wlg, wps, wts⟩ := hw
    refine ⟨by rw [List.length_set]; exact wL, wP, wT, wm, wml, wwd, wpl, wtot, wmx, wdx, wws, wplx, fun l2 hl2 => ?_, wps, wts⟩
    have h9 := wlg lg (List.mem_of_getElem? e4)
    rcases mem_set hl2 with q | q
    · rw [q]
      exact ⟨h9.1, e3, e6⟩
    · exact wlg l2 q
theorem wk_next {x d : Int32} {s t : hy_S} {v : Int32} (hw : wf_S s) (h : sp_next x d s v t) : wf_S t := by
  rcases h with ⟨a, rfl, rfl⟩ | ⟨a, c, rfl, rfl⟩ | ⟨a, c, rfl, rfl⟩
  · exact hw
  · exact hw
  · obtain ⟨wL, wP, wT, wm, wml, wwd, wpl, wtot, wmx, wdx, wws, wplx, wlg, wps, wts⟩ := hw
    refine ⟨wL, wP, wT, by rw [List.length_append, List.length_append, wm]; rfl, by rw [List.length_append]; exact c, wwd, wpl, wtot, fun y hy => ?_, fun y hy => ?_, wws, wplx, wlg, wps, wts⟩
    · rcases List.mem_append.mp hy with q | q
      · exact wmx y q
      · rw [List.mem_singleton.mp q]; exact Int32.not_lt.mp a.1.1
    · rcases List.mem_append.mp hy with q | q
      · exact wdx y q
      · rw [List.mem_singleton.mp q]; exact Int32.not_lt.mp a.2.1
theorem wk_sign {x : Int32} {s t : hy_S} {v : Int32} (hw : wf_S s) (h : sp_sign x s v t) : wf_S t := by
  rcases h with ⟨a, rfl, rfl⟩ | ⟨a, c, rfl, rfl⟩ | ⟨a, c, rfl, rfl⟩
  · exact hw
  · exact hw
  · obtain ⟨wL, wP, wT, wm, wml, wwd, wpl, wtot, wmx, wdx, wws, wplx, wlg, wps, wts⟩ := hw
    refine ⟨wL, wP, wT, wm, wml, by rw [List.length_append]; exact c, wpl, wtot, wmx, wdx, fun y hy => ?_, wplx, wlg, wps, wts⟩
    rcases List.mem_append.mp hy with q | q
    · exact wws y q
    · rw [List.mem_singleton.mp q]
      obtain ⟨k, hk, e⟩ := ok_nat (n := 255) a (by decide)
      exact ⟨k, by omega, e⟩
theorem wk_clear {s t : hy_S} {v : Int32} (hw : wf_S s) (h : sp_clear s v t) : wf_S t := by
  obtain ⟨rfl, rfl⟩ := h
  obtain ⟨wL, wP, wT, wm, wml, wwd, wpl, wtot, wmx, wdx, wws, wplx, wlg, wps, wts⟩ := hw
  exact ⟨wL, wP, wT, wm, wml, Nat.zero_le _, wpl, wtot, wmx, wdx, fun y hy => by simp at hy, wplx, wlg, wps, wts⟩
theorem wk_patterns {s t : hy_S} {v : Int32} (hw : wf_S s) (h : sp_patterns s v t) : wf_S t := by rw [h.2]; exact hw
theorem wk_exceptions {s t : hy_S} {v : Int32} (hw : wf_S s) (h : sp_exceptions s v t) : wf_S t := by rw [h.2]; exact hw
theorem wk_at {x : Int32} {s t : hy_S} {v : Int32} (hw : wf_S s) (h : sp_at x s v t) : wf_S t := by rw [h.1]; exact hw
theorem wk_digit {x y : Int32} {s t : hy_S} {v : Int32} (hw : wf_S s) (h : sp_digit x y s v t) : wf_S t := by rw [h.1]; exact hw
theorem pat_pos {ml : List Int32} (h : hy_pat ml) : 1 ≤ ml.length := by
  obtain ⟨⟨i, x, h1, -⟩, -⟩ := h
  have := gl_ h1
  omega
theorem wk_pattern {x d : Int32} {s t : hy_S} {v : Int32} (hw : wf_S s) (h : sp_pattern x d s v t) : wf_S t := by
  rcases h with ⟨a, rfl, rfl⟩ | ⟨a, i, e1, e2, h⟩
  · exact hw
  · obtain ⟨wL, wP, wT, wm, wml, wwd, wpl, wtot, wmx, wdx, wws, wplx, wlg, wps, wts⟩ := hw
    have hnew : hy_pat s.2.2.2.1 → (i, s.2.2.2.1, s.2.2.2.2.1 ++ [d]).1 < 4 ∧ (s.2.2.2.2.1 ++ [d]).length = s.2.2.2.1.length + 1 ∧ 1 ≤ s.2.2.2.1.length ∧ s.2.2.2.1.length ≤ 12 ∧ ∀ x ∈ s.2.2.2.2.1 ++ [d], 0 ≤ x := fun hpat => by
      refine ⟨by show i < 4; omega, by rw [List.length_append, wm]; rfl, pat_pos hpat, wml, fun y hy => ?_⟩
      rcases List.mem_append.mp hy with q | q
      · exact wdx y q
      · rw [List.mem_singleton.mp q]; exact Int32.not_lt.mp a.2.1
    rcases h with ⟨c, rfl, rfl⟩ | ⟨c, k, c2, c3, rfl, rfl⟩ | ⟨c, c2, c3, rfl, rfl⟩ | ⟨c, c2, c3, rfl, rfl⟩
    · exact ⟨wL, wP, wT, rfl, Nat.zero_le _, wwd, wpl, wtot, fun y hy => by simp at hy, fun y hy => by simp at hy, wws, wplx, wlg, wps, wts⟩
    · rcases c2 with ⟨q, -⟩ | ⟨k2, p, ek, hpk, ⟨hp1, hp2⟩, -⟩
      · exact absurd q (nI_m1 (by omega))
      · have hk2 := gl_ hpk
        have h9 := (nI_eq (by omega) (by omega)).mp ek
        subst h9
        refine ⟨wL, by rw [List.length_set]; exact wP, wT, rfl, Nat.zero_le _, wwd, wpl, ?_, fun y hy => by simp at hy, fun y hy => by simp at hy, wws, wplx, wlg, fun p2 hp2m => ?_, wts⟩
        · show hy_tot (s.2.1.set k (i, s.2.2.2.1, s.2.2.2.2.1 ++ [d])) ≤ 900
          rw [tot_set hpk (by show s.2.2.2.1.length = p.2.1.length; rw [hp2])]
          exact wtot
        · rcases mem_set hp2m with q | q
          · rw [q]; exact hnew c
          · exact wps p2 q
    · exact ⟨wL, wP, wT, rfl, Nat.zero_le _, wwd, wpl, wtot, fun y hy => by simp at hy, fun y hy => by simp at hy, wws, wplx, wlg, wps, wts⟩
    · refine ⟨wL, by rw [List.length_append]; exact c3.1, wT, rfl, Nat.zero_le _, wwd, wpl, by show hy_tot (_ ++ [_]) ≤ 900; rw [tot_app]; exact c3.2, fun y hy => by simp at hy, fun y hy => by simp at hy, wws, wplx, wlg, fun p2 hp2m => ?_, wts⟩
      rcases List.mem_append.mp hp2m with q | q
      · exact wps p2 q
      · rw [List.mem_singleton.mp q]; exact hnew c
theorem wk_exception {x d : Int32} {s t : hy_S} {v : Int32} (hw : wf_S s) (h : sp_exception x d s v t) : wf_S t := by
  rcases h with ⟨a, rfl, rfl⟩ | ⟨a, i, lg, e1, e2, h⟩
  · exact hw
  · rcases h with ⟨c, rfl, rfl⟩ | ⟨c, k, p, c2, c3, c4, rfl, rfl⟩ | ⟨c, c2, c3, rfl, rfl⟩ | ⟨c, c2, c3, rfl, rfl⟩
    · exact hw
    · obtain ⟨wL, wP, wT, wm, wml, wwd, wpl, wtot, wmx, wdx, wws, wplx, wlg, wps, wts⟩ := hw
      refine ⟨wL, wP, by rw [List.length_set]; exact wT, wm, wml, wwd, wpl, wtot, wmx, wdx, wws, wplx, wlg, wps, fun q hq => ?_⟩
      rcases mem_set hq with z | z
      · rw [z]; exact wts p (List.mem_of_getElem? c4)
      · exact wts q z
    · exact hw
    · obtain ⟨wL, wP, wT, wm, wml, wwd, wpl, wtot, wmx, wdx, wws, wplx, wlg, wps, wts⟩ := hw
      refine ⟨wL, wP, by rw [List.length_append]; exact c3, wm, wml, wwd, wpl, wtot, wmx, wdx, wws, wplx, wlg, wps, fun q hq => ?_⟩
      rcases List.mem_append.mp hq with z | z
      · exact wts q z
      · rw [List.mem_singleton.mp z]
        have := gl_ e2
        exact ⟨by show i < 4; omega, by show (hy_let lg s.2.2.2.2.2.1).length ≤ 30; rw [show (hy_let lg s.2.2.2.2.2.1).length = s.2.2.2.2.2.1.length from List.length_map _]; exact wwd⟩
theorem wk_drop {x : Int32} {s t : hy_S} {v : Int32} (hw : wf_S s) (h : sp_drop x s v t) : wf_S t := by
  rcases h with ⟨a, rfl, rfl⟩ | ⟨a, rfl, k, e1, e2, rfl⟩
  · exact hw
  · obtain ⟨wL, wP, wT, wm, wml, wwd, wpl, wtot, wmx, wdx, wws, wplx, wlg, wps, wts⟩ := hw
    exact ⟨wL, wP, by rw [List.length_eraseIdx_of_lt e2]; omega, wm, wml, wwd, wpl, wtot, wmx, wdx, wws, wplx, wlg, wps, fun q hq => wts q (List.mem_of_mem_eraseIdx hq)⟩
theorem wk_run {x : Int32} {s t : hy_S} {v : Int32} (hw : wf_S s) (h : sp_run x s v t) : wf_S t := by
  rcases h with ⟨a, rfl, rfl⟩ | ⟨a, i, lg, e1, e2, h⟩
  · exact hw
  · obtain ⟨wL, wP, wT, wm, wml, wwd, wpl, wtot, wmx, wdx, wws, wplx, wlg, wps, wts⟩ := hw
    rcases h with ⟨c, rfl, rfl⟩ | ⟨c, rfl, rfl⟩
    · exact ⟨wL, wP, wT, wm, wml, wwd, Nat.zero_le _, wtot, wmx, wdx, wws, fun y hy => by simp at hy, wlg, wps, wts⟩
    · refine ⟨wL, wP, wT, wm, wml, wwd, Nat.le_trans hy_pls_le wwd, wtot, wmx, wdx, wws, fun y hy => ?_, wlg, wps, wts⟩
      have h9 := (List.mem_filter.mp hy).1
      have h8 := List.mem_range.mp h9
      omega
