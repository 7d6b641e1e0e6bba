/-! THE REFERENCE: pattern. -/

theorem mo_p_set {Ps : List hy_P} {M M2 : Nat → Nat → Int32} {k : Nat} {p p2 : hy_P} (h : mo_p Ps M) (hk : Ps[k]? = some p) (wl : ∀ p ∈ Ps, p.2.2.length = p.2.1.length + 1 ∧ p.2.1.length ≤ 12) (e7 : M2 7 = M 7) (e8 : M2 8 = M 8) (e9 : M2 9 = M 9) (h1 : p2.1 = p.1) (h2 : p2.2.1 = p.2.1) (hd : ∀ (i : Nat) (x : Int32), p2.2.2[i]? = some x → M2 10 (13 * k + i) = x) (ho : ∀ q, (q < 13 * k ∨ 13 * k + 13 ≤ q) → M2 10 q = M 10 q) : mo_p (Ps.set k p2) M2 := by
  intro j q hj
  rw [e7, e8, e9]
  by_cases hjk : j = k
  · subst hjk
    have hl := (List.getElem?_eq_some_iff.mp hk).1
    rw [List.getElem?_set_self hl] at hj
    cases hj
    obtain ⟨g1, g2, g3, g4⟩ := h j p hk
    exact ⟨by rw [h1]; exact g1, by rw [h2]; exact g2, by rw [h2]; exact g3, hd⟩
  · rw [List.getElem?_set_ne (Ne.symm hjk)] at hj
    obtain ⟨g1, g2, g3, g4⟩ := h j q hj
    refine ⟨g1, g2, g3, fun i x hx => ?_⟩
    have hi := (List.getElem?_eq_some_iff.mp hx).1
    have hw := wl q (List.mem_of_getElem? hj)
    rw [ho _ (by omega)]
    exact g4 i x hx
theorem mo_p_add {Ps : List hy_P} {M M2 : Nat → Nat → Int32} {p : hy_P} (h : mo_p Ps M) (wl : ∀ p ∈ Ps, p.2.2.length = p.2.1.length + 1 ∧ p.2.1.length ≤ 12) (e7 : M2 7 = upd (M 7) Ps.length (nI p.1)) (e8 : M2 8 = upd (M 8) Ps.length (nI p.2.1.length)) (h9 : ∀ (i : Nat) (x : Int32), p.2.1[i]? = some x → M2 9 (12 * Ps.length + i) = x) (o9 : ∀ q, (q < 12 * Ps.length ∨ 12 * Ps.length + 12 ≤ q) → M2 9 q = M 9 q) (hd : ∀ (i : Nat) (x : Int32), p.2.2[i]? = some x → M2 10 (13 * Ps.length + i) = x) (ho : ∀ q, (q < 13 * Ps.length ∨ 13 * Ps.length + 13 ≤ q) → M2 10 q = M 10 q) : mo_p (Ps ++ [p]) M2 := by
  intro j q hj
  rw [e7, e8]
  by_cases hl : j < Ps.length
  · rw [List.getElem?_append_left hl] at hj
    obtain ⟨g1, g2, g3, g4⟩ := h j q hj
    have hw := wl q (List.mem_of_getElem? hj)
    refine ⟨by rw [pk_un (by omega)]; exact g1, by rw [pk_un (by omega)]; exact g2, fun i x hx => ?_, fun i x hx => ?_⟩
    · have hi := (List.getElem?_eq_some_iff.mp hx).1
      rw [o9 _ (by omega)]
      exact g3 i x hx
    · have hi := (List.getElem?_eq_some_iff.mp hx).1
      rw [ho _ (by omega)]
      exact g4 i x hx
  · rw [List.getElem?_append_right (by omega)] at hj
    have h1 : j - Ps.length < 1 := (List.getElem?_eq_some_iff.mp hj).1
    have h2 : j = Ps.length := by omega
    subst h2
    rw [Nat.sub_self] at hj
    cases hj
    exact ⟨pk_us, pk_us, h9, hd⟩
/-- a copy into a stretch, one place more -/
theorem cp_s {xs : List Int32} {g f : Nat → Int32} {o_ n i : Nat} {x : Int32} (h1 : ∀ (j : Nat) (y : Int32), j < i → xs[j]? = some y → g (o_ + j) = y) (h2 : ∀ q, (q < o_ ∨ o_ + n ≤ q) → g q = f q) (hx : xs[i]? = some x) (hi : i < n) : (∀ (j : Nat) (y : Int32), j < i + 1 → xs[j]? = some y → upd g (o_ + i) x (o_ + j) = y) ∧ ∀ q, (q < o_ ∨ o_ + n ≤ q) → upd g (o_ + i) x q = f q := by
  refine ⟨fun j y hj hy => ?_, fun q hq => ?_⟩
  · by_cases hji : j = i
    · subst hji
      rw [hx] at hy
      cases hy
      exact pk_us
    · rw [pk_un (by omega)]
      exact h1 j y (by omega) hy
  · rw [pk_un (by omega)]
    exact h2 q hq

set_option maxHeartbeats 4000000 in
set_option maxRecDepth 100000 in
/-- the search of pattern -/
theorem lo_Mo_patternA {p_ : Program} {l : Launch} {e_ : Env} {s : State} {m : MethodId} {args : Array Value} {below : List Frame} {meth : Method} {c_ : Code} {Q : State → Prop} {G : ev_G} {A : Nat → Prop} (S : CallFix p_ m c_ b_Mo_pattern 7 s args lw_good "HyphenRowsModel") (hE : ev_K G A s s.heap) {w : wd_M} {t : Nat} {C : Nat → Nat} {M : Nat → Nat → Int32} {ln tn en sn qn : Int32} {ml : List Int32} {Ps : List hy_P} {lx : Nat} {d : Int32} (hc : mo_c G w t C M ln (nI ml.length) (nI Ps.length) tn en sn qn) (hml : li_ ml (M 5)) (wml : ml.length ≤ 12) (wmx : ∀ x ∈ ml, 0 ≤ x) (hp0 : mo_p Ps M) (wP : Ps.length ≤ 150) (wps : (∀ p ∈ Ps, p.1 < 4 ∧ p.2.2.length = p.2.1.length + 1 ∧ 1 ≤ p.2.1.length ∧ p.2.1.length ≤ 12 ∧ ∀ x ∈ p.2.2, 0 ≤ x)) (hlx : lx < 4) (kk : ∀ k : Nat, k ≤ Ps.length → (∀ (j : Nat) (p : hy_P), j < k → Ps[j]? = some p → ¬ (p.1 = lx ∧ p.2.1 = ml)) → (k < Ps.length → ∃ p, Ps[k]? = some p ∧ (p.1 = lx ∧ p.2.1 = ml)) → ∀ xi : Int32, xi = nI k → ∀ (H : Heap) (locs : List Loc), wd_W G.1 ev_cl A w s.heap H locs → ∀ ls : Array Slot, lv_has ls 7 [(0, .ref t), (1, .int (nI lx)), (2, .int d), (3, .int xi)] → W p_ l e_ (rm_ 1 0 0) s m args below meth c_ H locs 0 0 Q (F0 m 55 ls [])) :
    ∀ (fu : Nat) (i : Nat) (xi : Int32) (H : Heap) (locs : List Loc) (ls : Array Slot), Ps.length < i + fu → i ≤ Ps.length → xi = nI i → (∀ (j : Nat) (p : hy_P), j < i → Ps[j]? = some p → ¬ (p.1 = lx ∧ p.2.1 = ml)) → wd_W G.1 ev_cl A w s.heap H locs → lv_has ls 7 [(0, .ref t), (1, .int (nI lx)), (2, .int d), (3, .int xi)] → W p_ l e_ (rm_ 1 0 0) s m args below meth c_ H locs 0 0 Q (F0 m 32 ls []) := by
  have hx := S.1
  have hb := S.2.1
  have hK := hE.1
  intro fu
  induction fu with
  | zero =>
    intro i xi H locs ls hfu hi exi hinv hW hl
    exact absurd hfu (by omega)
  | succ fu ih =>
    intro i xi H locs ls hfu hi exi hinv hW hl
    obtain ⟨ht0, -⟩ := id hc
    refine lv_iload_n hx hb d_Mo_pattern_32 rfl (lv_at hl 3 rfl) ?_
    refine lv_aload_n hx hb d_Mo_pattern_33 rfl (lv_at hl 0 rfl) ?_
    refine wd_get S i_Mo hK hW ht0 rfl 9 (by decide) k_Mo_80 rfl rfl d_Mo_pattern_34 ?_
    refine lv_icmp_ge (tgt := 55) hx hb d_Mo_pattern_37 (by decide) (fun h37 => ?_) (fun h37 => ?_)
    · exact kk i hi hinv (fun q => absurd q (by rw [exi] at h37; have := (nI_leI (by omega) (by omega)).mp h37; omega)) xi exi H locs hW ls (lv_sub hl [0, 1, 2, 3] rfl)
    · have hlt : i < Ps.length := by rw [exi] at h37; exact Nat.lt_of_not_le (fun q => h37 (nI_le q (by omega)))
      obtain ⟨p, hpi⟩ : ∃ p, Ps[i]? = some p := ⟨_, List.getElem?_eq_getElem hlt⟩
      have hpm := wps p (List.mem_of_getElem? hpi)
      refine lv_aload_n hx hb d_Mo_pattern_40 rfl (lv_at hl 0 rfl) ?_
      refine lv_iload_n hx hb d_Mo_pattern_41 rfl (lv_at hl 3 rfl) ?_
      rw [exi]
      refine lv_iload_n hx hb d_Mo_pattern_42 rfl (lv_at hl 1 rfl) ?_
      refine ct_goi hW (ct_runV (As := [.int (nI i), .int (nI lx)]) (rest := []) (q := (R_Mo, F_Mo, 25)) S hE hW (c_Mo_isSame l G _ _ t C M ln (nI Ps.length) tn en sn qn ml Ps i lx p hc hml wml wmx hpi hp0 (by omega) ⟨hpm.1, hpm.2.2.1, hpm.2.2.2.1⟩ hlx) ht0 rfl kc_Mo_isSame kz_Mo k_Mo_83 ki_Mo_isSame kv_Mo_isSame kd_Mo_isSame ⟨Nat.le_of_ble_eq_true rfl, Nat.le_of_ble_eq_true rfl⟩ hl.1 (Nat.le_of_ble_eq_true rfl) d_Mo_pattern_43 ⟨Nat.le_of_ble_eq_true rfl, Nat.le_of_ble_eq_true rfl⟩) (fun v_3 u_1 H locs hp_2 hW => ?_)
      obtain ⟨hv, hu_4⟩ := hp_2
      rw [hu_4] at hW
      refine lv_if_ne (tgt := 55) hx hb d_Mo_pattern_46 (by decide) (fun h46 => ?_) (fun h46 => ?_)
      · exact kk i hi hinv (fun _ => ⟨p, hpi, bl_t hv h46⟩) xi exi _ _ hW ls (lv_sub hl [0, 1, 2, 3] rfl)
      · obtain ⟨xi2, exi2⟩ : ∃ y : Int32, y = xi + 1 := ⟨_, rfl⟩
        refine lv_iinc (v := xi2) (lv' := [(3, .int xi2), (0, .ref t), (1, .int (nI lx)), (2, .int d)]) hx hb d_Mo_pattern_49 hl (k := 3) rfl (by rw [exi2]; rfl) (by decide) rfl (fun ls hl => ?_)
        refine lv_goto (tgt := 32) hx hb d_Mo_pattern_52 (by decide) ?_
        exact ih (i + 1) xi2 _ _ _ (by omega) hlt (by rw [exi2, exi]; exact nI_1 i) (lt_inv hinv hpi (bl_f hv h46)) hW (lv_sub hl [1, 2, 3, 0] rfl)

set_option maxHeartbeats 4000000 in
set_option maxRecDepth 100000 in
/-- a copy -/
theorem lo_Mo_patternB {p_ : Program} {l : Launch} {e_ : Env} {s : State} {m : MethodId} {args : Array Value} {below : List Frame} {meth : Method} {c_ : Code} {Q : State → Prop} {G : ev_G} {A : Nat → Prop} (S : CallFix p_ m c_ b_Mo_pattern 7 s args lw_good "HyphenRowsModel") (hE : ev_K G A s s.heap) {w : wd_M} {t k n : Nat} {C : Nat → Nat} {M : Nat → Nat → Int32} {ln mk pn tn en sn qn : Int32} {tg : Nat → Nat} {ml : List Int32} (hc : mo_c G w t C M ln mk pn tn en sn qn) (hT : mo_g tg t C) (hsrc : li_ ml (M 5)) (hn : ml.length = n) (wn : n ≤ 12) (hk150 : k < 150) (kk : ∀ (g : Nat → Int32) (w1 : wd_M) (H : Heap) (locs : List Loc), (∀ (j : Nat) (y : Int32), ml[j]? = some y → g (12 * k + j) = y) → (∀ q, (q < 12 * k ∨ 12 * k + 12 ≤ q) → g q = M 9 q) → w1 = va_up w (C 9) (some (.inl (G.2.1 0, 1800, .inl g))) → wd_W G.1 ev_cl A w1 s.heap H locs → ∀ ls : Array Slot, lv_has ls 7 [(0, .ref t), (3, .int (nI k)), (4, .int (nI n))] → W p_ l e_ (rm_ 1 0 0) s m args below meth c_ H locs 0 0 Q (F0 m 164 ls [])) :
    ∀ (fu : Nat) (i : Nat) (xi : Int32) (g : Nat → Int32) (w1 : wd_M) (H : Heap) (locs : List Loc) (ls : Array Slot), ml.length < i + fu → i ≤ ml.length → xi = nI i → (∀ (j : Nat) (y : Int32), j < i → ml[j]? = some y → g (12 * k + j) = y) → (∀ q, (q < 12 * k ∨ 12 * k + 12 ≤ q) → g q = M 9 q) → w1 = va_up w (C 9) (some (.inl (G.2.1 0, 1800, .inl g))) → wd_W G.1 ev_cl A w1 s.heap H locs → lv_has ls 7 [(0, .ref t), (3, .int (nI k)), (4, .int (nI n)), (6, .int xi)] → W p_ l e_ (rm_ 1 0 0) s m args below meth c_ H locs 0 0 Q (F0 m 132 ls []) := by
  have hx := S.1
  have hb := S.2.1
  have hK := hE.1
  intro fu
  induction fu with
  | zero =>
    intro i xi g w1 H locs ls hfu hi exi h1 h2 ew hW hl
    exact absurd hfu (by omega)
  | succ fu ih =>
    intro i xi g w1 H locs ls hfu hi exi h1 h2 ew hW hl
    obtain ⟨ht0, -, -, -, -, -, c5, -, -, -, c9, -⟩ := id hc
    have ht0 := wd_keep ew (wd_ne ht0 c9 (by simp)) ht0
    have c5 := wd_keep ew (tg_ne (tg := tg) (by rw [hT.2 5 (by omega), hT.2 9 (by omega)]; omega)) c5
    have c9 := wd_here ew
    refine lv_iload hx hb d_Mo_pattern_132 (lv_at hl 3 rfl) ?_
    refine lv_iload hx hb d_Mo_pattern_134 (lv_at hl 2 rfl) ?_
    refine lv_icmp_ge (tgt := 164) hx hb d_Mo_pattern_136 (by decide) (fun hz => ?_) (fun hz => ?_)
    · have hin9 : i = ml.length := by rw [exi] at hz; have := (nI_leI (by omega) (by omega)).mp hz; omega
      exact kk g w1 H locs (fun j y hy => h1 j y (by have := (List.getElem?_eq_some_iff.mp hy).1; omega) hy) h2 ew hW ls (lv_sub hl [0, 1, 2] rfl)
    · have hlt : i < ml.length := by rw [exi] at hz; exact Nat.lt_of_not_le (fun q => hz (nI_le (by omega) (by omega)))
      have hin : vp_in xi 12 := by rw [exi]; exact vp_in_nI (by omega) (by omega)
      have hcl : xi.toNatClampNeg = i := by rw [exi]; exact nI_clamp (by omega)
      refine lv_aload_n hx hb d_Mo_pattern_139 rfl (lv_at hl 0 rfl) ?_
      refine wd_get S i_Mo hK hW ht0 rfl 13 (by decide) k_Mo_38 rfl rfl d_Mo_pattern_140 ?_
      refine lv_bipush (v := 12) hx hb d_Mo_pattern_143 (by decide) ?_
      refine lv_iload_n hx hb d_Mo_pattern_145 rfl (lv_at hl 1 rfl) ?_
      refine lv_imul hx hb d_Mo_pattern_146 ?_
      refine lv_iload hx hb d_Mo_pattern_147 (lv_at hl 3 rfl) ?_
      refine lv_iadd hx hb d_Mo_pattern_149 ?_
      refine lv_aload_n hx hb d_Mo_pattern_150 rfl (lv_at hl 0 rfl) ?_
      refine wd_get S i_Mo hK hW ht0 rfl 7 (by decide) k_Mo_26 rfl rfl d_Mo_pattern_151 ?_
      refine lv_iload hx hb d_Mo_pattern_154 (lv_at hl 3 rfl) ?_
      rw [show (12 : Int32) * nI k + xi = nI (12 * k + i) from by rw [exi]; exact ix_12 k i]
      refine wd_iald S hK hW 0 c5 rfl hin d_Mo_pattern_156 ?_
      rw [hcl, hsrc i ml[i] (List.getElem?_eq_getElem hlt)]
      refine wd_iast S hK hW 0 c9 rfl (vp_in_nI (by omega) (by omega)) d_Mo_pattern_157 (fun H locs w_1 ew_1 hW => ?_)
      have ht0 := wd_keep ew_1 (wd_ne ht0 c9 (by simp)) ht0
      have c5 := wd_keep ew_1 (tg_ne (tg := tg) (by rw [hT.2 5 (by omega), hT.2 9 (by omega)]; omega)) c5
      have c9 : w_1 (C 9) = some (.inl (G.2.1 0, 1800, .inl (upd g ((nI (12 * k + i)) : Int32).toNatClampNeg (ml[i])))) := wd_here ew_1
      have hcp := cp_s h1 h2 (List.getElem?_eq_getElem hlt) (show i < 12 by omega)
      obtain ⟨xi2, exi2⟩ : ∃ y : Int32, y = xi + 1 := ⟨_, rfl⟩
      refine lv_iinc (v := xi2) (lv' := [(6, .int xi2), (0, .ref t), (3, .int (nI k)), (4, .int (nI n))]) hx hb d_Mo_pattern_158 hl (k := 3) rfl (by rw [exi2]; rfl) (by decide) rfl (fun ls hl => ?_)
      refine lv_goto (tgt := 132) hx hb d_Mo_pattern_161 (by decide) ?_
      exact ih (i + 1) xi2 (upd g (nI (12 * k + i)).toNatClampNeg ml[i]) _ _ _ _ (by omega) (by omega) (by rw [exi2, exi]; exact nI_1 i) (by rw [nI_clamp (by omega)]; exact hcp.1) (by rw [nI_clamp (by omega)]; exact hcp.2) (by rw [ew_1, ew]; exact bx_uu _ _ _ _) hW (lv_sub hl [1, 2, 3, 0] rfl)

set_option maxHeartbeats 4000000 in
set_option maxRecDepth 100000 in
/-- a copy -/
theorem lo_Mo_patternC {p_ : Program} {l : Launch} {e_ : Env} {s : State} {m : MethodId} {args : Array Value} {below : List Frame} {meth : Method} {c_ : Code} {Q : State → Prop} {G : ev_G} {A : Nat → Prop} (S : CallFix p_ m c_ b_Mo_pattern 7 s args lw_good "HyphenRowsModel") (hE : ev_K G A s s.heap) {w : wd_M} {t k n : Nat} {C : Nat → Nat} {M : Nat → Nat → Int32} {ln mk pn tn en sn qn : Int32} {tg : Nat → Nat} {md : List Int32} (hc : mo_c G w t C M ln mk pn tn en sn qn) (hT : mo_g tg t C) (hsrc : li_ md (M 6)) (hn : md.length = n + 1) (wn : n ≤ 12) (hk150 : k < 150) (kk : ∀ (g : Nat → Int32) (w1 : wd_M) (H : Heap) (locs : List Loc), (∀ (j : Nat) (y : Int32), md[j]? = some y → g (13 * k + j) = y) → (∀ q, (q < 13 * k ∨ 13 * k + 13 ≤ q) → g q = M 10 q) → w1 = va_up w (C 10) (some (.inl (G.2.1 0, 1950, .inl g))) → wd_W G.1 ev_cl A w1 s.heap H locs → ∀ ls : Array Slot, lv_has ls 7 [(0, .ref t), (3, .int (nI k)), (4, .int (nI n))] → W p_ l e_ (rm_ 1 0 0) s m args below meth c_ H locs 0 0 Q (F0 m 220 ls [])) :
    ∀ (fu : Nat) (i : Nat) (xi : Int32) (g : Nat → Int32) (w1 : wd_M) (H : Heap) (locs : List Loc) (ls : Array Slot), md.length < i + fu → i ≤ md.length → xi = nI i → (∀ (j : Nat) (y : Int32), j < i → md[j]? = some y → g (13 * k + j) = y) → (∀ q, (q < 13 * k ∨ 13 * k + 13 ≤ q) → g q = M 10 q) → w1 = va_up w (C 10) (some (.inl (G.2.1 0, 1950, .inl g))) → wd_W G.1 ev_cl A w1 s.heap H locs → lv_has ls 7 [(0, .ref t), (3, .int (nI k)), (4, .int (nI n)), (6, .int xi)] → W p_ l e_ (rm_ 1 0 0) s m args below meth c_ H locs 0 0 Q (F0 m 188 ls []) := by
  have hx := S.1
  have hb := S.2.1
  have hK := hE.1
  intro fu
  induction fu with
  | zero =>
    intro i xi g w1 H locs ls hfu hi exi h1 h2 ew hW hl
    exact absurd hfu (by omega)
  | succ fu ih =>
    intro i xi g w1 H locs ls hfu hi exi h1 h2 ew hW hl
    obtain ⟨ht0, -, -, -, -, -, -, c6, -, -, -, c10, -⟩ := id hc
    have ht0 := wd_keep ew (wd_ne ht0 c10 (by simp)) ht0
    have c6 := wd_keep ew (tg_ne (tg := tg) (by rw [hT.2 6 (by omega), hT.2 10 (by omega)]; omega)) c6
    have c10 := wd_here ew
    refine lv_iload hx hb d_Mo_pattern_188 (lv_at hl 3 rfl) ?_
    refine lv_iload hx hb d_Mo_pattern_190 (lv_at hl 2 rfl) ?_
    refine lv_icmp_gt (tgt := 220) hx hb d_Mo_pattern_192 (by decide) (fun hz => ?_) (fun hz => ?_)
    · have hin9 : i = md.length := by rw [exi] at hz; have h9 : ¬ i ≤ n := fun q => Int32.not_lt.mpr (nI_le q (by omega)) hz; omega
      exact kk g w1 H locs (fun j y hy => h1 j y (by have := (List.getElem?_eq_some_iff.mp hy).1; omega) hy) h2 ew hW ls (lv_sub hl [0, 1, 2] rfl)
    · have hlt : i < md.length := by rw [exi] at hz; have h9 : i ≤ n := (nI_leI (by omega) (by omega)).mp (Int32.not_lt.mp hz); omega
      have hin : vp_in xi 13 := by rw [exi]; exact vp_in_nI (by omega) (by omega)
      have hcl : xi.toNatClampNeg = i := by rw [exi]; exact nI_clamp (by omega)
      refine lv_aload_n hx hb d_Mo_pattern_195 rfl (lv_at hl 0 rfl) ?_
      refine wd_get S i_Mo hK hW ht0 rfl 14 (by decide) k_Mo_41 rfl rfl d_Mo_pattern_196 ?_
      refine lv_bipush (v := 13) hx hb d_Mo_pattern_199 (by decide) ?_
      refine lv_iload_n hx hb d_Mo_pattern_201 rfl (lv_at hl 1 rfl) ?_
      refine lv_imul hx hb d_Mo_pattern_202 ?_
      refine lv_iload hx hb d_Mo_pattern_203 (lv_at hl 3 rfl) ?_
      refine lv_iadd hx hb d_Mo_pattern_205 ?_
      refine lv_aload_n hx hb d_Mo_pattern_206 rfl (lv_at hl 0 rfl) ?_
      refine wd_get S i_Mo hK hW ht0 rfl 8 (by decide) k_Mo_29 rfl rfl d_Mo_pattern_207 ?_
      refine lv_iload hx hb d_Mo_pattern_210 (lv_at hl 3 rfl) ?_
      rw [show (13 : Int32) * nI k + xi = nI (13 * k + i) from by rw [exi]; exact ix_13 k i]
      refine wd_iald S hK hW 0 c6 rfl hin d_Mo_pattern_212 ?_
      rw [hcl, hsrc i md[i] (List.getElem?_eq_getElem hlt)]
      refine wd_iast S hK hW 0 c10 rfl (vp_in_nI (by omega) (by omega)) d_Mo_pattern_213 (fun H locs w_1 ew_1 hW => ?_)
      have ht0 := wd_keep ew_1 (wd_ne ht0 c10 (by simp)) ht0
      have c6 := wd_keep ew_1 (tg_ne (tg := tg) (by rw [hT.2 6 (by omega), hT.2 10 (by omega)]; omega)) c6
      have c10 : w_1 (C 10) = some (.inl (G.2.1 0, 1950, .inl (upd g ((nI (13 * k + i)) : Int32).toNatClampNeg (md[i])))) := wd_here ew_1
      have hcp := cp_s h1 h2 (List.getElem?_eq_getElem hlt) (show i < 13 by omega)
      obtain ⟨xi2, exi2⟩ : ∃ y : Int32, y = xi + 1 := ⟨_, rfl⟩
      refine lv_iinc (v := xi2) (lv' := [(6, .int xi2), (0, .ref t), (3, .int (nI k)), (4, .int (nI n))]) hx hb d_Mo_pattern_214 hl (k := 3) rfl (by rw [exi2]; rfl) (by decide) rfl (fun ls hl => ?_)
      refine lv_goto (tgt := 188) hx hb d_Mo_pattern_217 (by decide) ?_
      exact ih (i + 1) xi2 (upd g (nI (13 * k + i)).toNatClampNeg md[i]) _ _ _ _ (by omega) (by omega) (by rw [exi2, exi]; exact nI_1 i) (by rw [nI_clamp (by omega)]; exact hcp.1) (by rw [nI_clamp (by omega)]; exact hcp.2) (by rw [ew_1, ew]; exact bx_uu _ _ _ _) hW (lv_sub hl [1, 2, 3, 0] rfl)

set_option maxHeartbeats 4000000 in
set_option maxRecDepth 100000 in
/-- the reference: pattern -/
theorem c_Mo_pattern (l : Launch) (G : ev_G) (w : wd_M) (sz : Nat) (tg : Nat → Nat) (t : Nat) (Ls : List hy_L) (Ps : List hy_P) (Ts : List hy_T) (ml md wd : List Int32) (pl : List Nat) (x d : Int32) (h : mo_ G w tg t Ls Ps Ts ml md wd pl) (hwf : hy_wf Ls Ps Ts ml md wd pl) : ct_i l y_Mo_pattern b_Mo_pattern 7 (some FieldType.int) (rm_ 1 0 0) G w sz [.ref t, .int x, .int d] (mq_ G w tg t (sp_pattern x d (Ls, Ps, Ts, ml, md, wd, pl))) := by
  refine ct_enter (by decide +kernel) (Nat.le_of_ble_eq_true rfl) ?_
  intro p_ e_ s m below meth c_ hsz S hr hlocks hname hE hW ls hl
  have S : CallFix p_ m c_ b_Mo_pattern 7 s _ lw_good "HyphenRowsModel" := S
  have hx := S.1
  have hb := S.2.1
  have hK := hE.1
  have hl : lv_has ls 7 [(0, .ref t), (1, .int x), (2, .int d)] := hl
  obtain ⟨C, M, hc, hT, hl0, hp0, hq0, hml, hmd, hwd, hpl⟩ := id h
  obtain ⟨ht0, c0, c1, c2, c3, c4, c5, c6, c7, c8, c9, c10, c11, c12, c13, c14, c15, c16, c17⟩ := id hc
  obtain ⟨wL, wP, wT, wm, wml, wwd, wpl, wtot, wmx, wdx, wws, wplx, wlg, wps, wts⟩ := id hwf
  have hmk : mk_ w w tg := mk_rf
  refine lv_aload_n hx hb d_Mo_pattern_0 rfl (lv_at hl 0 rfl) ?_
  refine lv_iload_n hx hb d_Mo_pattern_1 rfl (lv_at hl 1 rfl) ?_
  refine ct_goi hW (ct_runV (As := [.int x]) (rest := []) (q := (R_Mo, F_Mo, 25)) S hE hW (c_Mo_isLanguage l G _ _ t C M (nI ml.length) (nI Ps.length) (nI (hy_tot Ps)) (nI Ts.length) (nI wd.length) (nI pl.length) Ls.length x hc) ht0 rfl kc_Mo_isLanguage kz_Mo k_Mo_69 ki_Mo_isLanguage kv_Mo_isLanguage kd_Mo_isLanguage ⟨Nat.le_of_ble_eq_true rfl, Nat.le_of_ble_eq_true rfl⟩ hl.1 (Nat.le_of_ble_eq_true rfl) d_Mo_pattern_2 ⟨Nat.le_of_ble_eq_true rfl, Nat.le_of_ble_eq_true rfl⟩) (fun v_3 u_1 H locs hp_2 hW => ?_)
  obtain ⟨hv, hu_4⟩ := hp_2
  rw [hu_4] at hW
  refine lv_if_eq (tgt := 18) hx hb d_Mo_pattern_5 (by decide) (fun h5 => ?_) (fun h5 => ?_)
  · refine lv_iconst (v := -1) hx hb d_Mo_pattern_18 (by decide) ?_
    exact ct_iret S hr rfl hlocks hW (⟨_, Or.inl ⟨fun q => bl_f hv h5 q.1, rfl, rfl⟩, h, mk_rf⟩) (Nat.le_of_ble_eq_true rfl) (Nat.le_of_ble_eq_true rfl) d_Mo_pattern_19
  · refine lv_iload_n hx hb d_Mo_pattern_8 rfl (lv_at hl 2 rfl) ?_
    refine lv_iconst (v := 0) hx hb d_Mo_pattern_9 (by decide) ?_
    refine lv_bipush (v := 9) hx hb d_Mo_pattern_10 (by decide) ?_
    refine ct_goi hW (ct_runS (As := [.int d, .int 0, .int 9]) (rest := []) S hE hW (c_Mo_in l G _ _ d 0 9) kc_Mo_in kz_Mo k_Mo_73 ks_Mo_in kd_Mo_in ⟨Nat.le_of_ble_eq_true rfl, Nat.le_of_ble_eq_true rfl⟩ hl.1 (Nat.le_of_ble_eq_true rfl) d_Mo_pattern_12 ⟨Nat.le_of_ble_eq_true rfl, Nat.le_of_ble_eq_true rfl⟩) (fun v_7 u_5 H locs hp_6 hW => ?_)
    obtain ⟨hv2, hu_8⟩ := hp_6
    rw [hu_8] at hW
    refine lv_if_ne (tgt := 20) hx hb d_Mo_pattern_15 (by decide) (fun h15 => ?_) (fun h15 => ?_)
    · have hnm0 := bl_t hv h5
      have hok : nm_ x Ls.length ∧ ok_d d := ⟨hnm0, bl_t hv2 h15⟩
      obtain ⟨i, hil, rfl⟩ := nm_of hnm0 (by omega)
      refine lv_aload_n hx hb d_Mo_pattern_20 rfl (lv_at hl 0 rfl) ?_
      refine wd_get S i_Mo hK hW ht0 rfl 8 (by decide) k_Mo_29 rfl rfl d_Mo_pattern_21 ?_
      refine lv_aload_n hx hb d_Mo_pattern_24 rfl (lv_at hl 0 rfl) ?_
      refine wd_get S i_Mo hK hW ht0 rfl 6 (by decide) k_Mo_77 rfl rfl d_Mo_pattern_25 ?_
      refine lv_iload_n hx hb d_Mo_pattern_28 rfl (lv_at hl 2 rfl) ?_
      refine wd_iast S hK hW 0 c6 rfl (vp_in_nI (by omega) (by omega)) d_Mo_pattern_29 (fun H locs w_9 ew_9 hW => ?_)
      have hmk := mk_up hmk c6 ew_9 (by rw [hT.2 6 (by omega)]; omega)
      have ht0 := wd_keep ew_9 (wd_ne ht0 c6 (by simp)) ht0
      have c0 := wd_keep ew_9 (tg_ne (tg := tg) (by rw [hT.2 0 (by omega), hT.2 6 (by omega)]; omega)) c0
      have c1 := wd_keep ew_9 (tg_ne (tg := tg) (by rw [hT.2 1 (by omega), hT.2 6 (by omega)]; omega)) c1
      have c2 := wd_keep ew_9 (tg_ne (tg := tg) (by rw [hT.2 2 (by omega), hT.2 6 (by omega)]; omega)) c2
      have c3 := wd_keep ew_9 (tg_ne (tg := tg) (by rw [hT.2 3 (by omega), hT.2 6 (by omega)]; omega)) c3
      have c4 := wd_keep ew_9 (tg_ne (tg := tg) (by rw [hT.2 4 (by omega), hT.2 6 (by omega)]; omega)) c4
      have c5 := wd_keep ew_9 (tg_ne (tg := tg) (by rw [hT.2 5 (by omega), hT.2 6 (by omega)]; omega)) c5
      have c7 := wd_keep ew_9 (tg_ne (tg := tg) (by rw [hT.2 7 (by omega), hT.2 6 (by omega)]; omega)) c7
      have c8 := wd_keep ew_9 (tg_ne (tg := tg) (by rw [hT.2 8 (by omega), hT.2 6 (by omega)]; omega)) c8
      have c9 := wd_keep ew_9 (tg_ne (tg := tg) (by rw [hT.2 9 (by omega), hT.2 6 (by omega)]; omega)) c9
      have c10 := wd_keep ew_9 (tg_ne (tg := tg) (by rw [hT.2 10 (by omega), hT.2 6 (by omega)]; omega)) c10
      have c11 := wd_keep ew_9 (tg_ne (tg := tg) (by rw [hT.2 11 (by omega), hT.2 6 (by omega)]; omega)) c11
      have c12 := wd_keep ew_9 (tg_ne (tg := tg) (by rw [hT.2 12 (by omega), hT.2 6 (by omega)]; omega)) c12
      have c13 := wd_keep ew_9 (tg_ne (tg := tg) (by rw [hT.2 13 (by omega), hT.2 6 (by omega)]; omega)) c13
      have c14 := wd_keep ew_9 (tg_ne (tg := tg) (by rw [hT.2 14 (by omega), hT.2 6 (by omega)]; omega)) c14
      have c15 := wd_keep ew_9 (tg_ne (tg := tg) (by rw [hT.2 15 (by omega), hT.2 6 (by omega)]; omega)) c15
      have c16 := wd_keep ew_9 (tg_ne (tg := tg) (by rw [hT.2 16 (by omega), hT.2 6 (by omega)]; omega)) c16
      have c17 := wd_keep ew_9 (tg_ne (tg := tg) (by rw [hT.2 17 (by omega), hT.2 6 (by omega)]; omega)) c17
      have c6 : w_9 (C 6) = some (.inl (G.2.1 0, 13, .inl (upd (M 6) ((nI ml.length) : Int32).toNatClampNeg d))) := wd_here ew_9
      rw [nI_clamp (by omega)] at c6
      have hc1 : mo_c G w_9 t C (fun k9 => if k9 = 6 then upd (M 6) ml.length d else M k9) (nI Ls.length) (nI ml.length) (nI Ps.length) (nI (hy_tot Ps)) (nI Ts.length) (nI wd.length) (nI pl.length) := ⟨ht0, c0, c1, c2, c3, c4, c5, c6, c7, c8, c9, c10, c11, c12, c13, c14, c15, c16, c17⟩
      have hmd2 : li_ (md ++ [d]) (upd (M 6) ml.length d) := by rw [wm]; exact li_put hmd
      refine lv_iconst (v := 0) hx hb d_Mo_pattern_30 (by decide) ?_
      refine lv_istore_n (lv' := [(3, .int 0), (0, .ref t), (1, .int (nI i)), (2, .int d)]) hx hb d_Mo_pattern_31 rfl hl (by decide) rfl (fun ls hl => ?_)
      refine lo_Mo_patternA (M := (fun k9 => if k9 = 6 then upd (M 6) ml.length d else M k9)) (d := d) (lx := i) (ml := ml) (Ps := Ps) S hE hc1 hml wml wmx hp0 wP wps (by omega) (fun k hk hno hyes xi exi H locs hW ls hl => ?_) (Ps.length + 1) 0 0 _ _ _ (by omega) (Nat.zero_le _) nI_0.symm (fun j p hj => absurd hj (Nat.not_lt_zero j)) hW (lv_sub hl [1, 2, 3, 0] rfl)
      rw [exi] at hl
      refine lv_aload_n hx hb d_Mo_pattern_55 rfl (lv_at hl 0 rfl) ?_
      refine wd_get S i_Mo hK hW ht0 rfl 6 (by decide) k_Mo_77 rfl rfl d_Mo_pattern_56 ?_
      refine lv_topi (fun nn enn => ?_)
      refine lv_istore (lv' := [(4, .int nn), (0, .ref t), (1, .int (nI i)), (2, .int d), (3, .int (nI k))]) hx hb d_Mo_pattern_59 hl (by decide) rfl (fun ls hl => ?_)
      rw [enn] at hl
      refine lv_aload_n hx hb d_Mo_pattern_61 rfl (lv_at hl 1 rfl) ?_
      refine ct_goi hW (ct_runV (As := []) (rest := []) (q := (R_Mo, F_Mo, 25)) S hE hW (c_Mo_isPattern l G _ _ t C (fun k9 => if k9 = 6 then upd (M 6) ml.length d else M k9) (nI Ls.length) (nI Ps.length) (nI (hy_tot Ps)) (nI Ts.length) (nI wd.length) (nI pl.length) ml hc1 hml wml wmx) ht0 rfl kc_Mo_isPattern kz_Mo k_Mo_87 ki_Mo_isPattern kv_Mo_isPattern kd_Mo_isPattern ⟨Nat.le_of_ble_eq_true rfl, Nat.le_of_ble_eq_true rfl⟩ hl.1 (Nat.le_of_ble_eq_true rfl) d_Mo_pattern_62 ⟨Nat.le_of_ble_eq_true rfl, Nat.le_of_ble_eq_true rfl⟩) (fun v_12 u_10 H locs hp_11 hW => ?_)
      obtain ⟨hvp, hu_13⟩ := hp_11
      rw [hu_13] at hW
      refine lv_istore (lv' := [(5, .int v_12), (4, .int (nI ml.length)), (0, .ref t), (1, .int (nI i)), (2, .int d), (3, .int (nI k))]) hx hb d_Mo_pattern_65 hl (by decide) rfl (fun ls hl => ?_)
      refine lv_aload_n hx hb d_Mo_pattern_67 rfl (lv_at hl 2 rfl) ?_
      refine lv_iconst (v := 0) hx hb d_Mo_pattern_68 (by decide) ?_
      refine wd_put S i_Mo t_Mo t_Mo_ok n_Mo hK hW ht0 rfl 6 (by decide) k_Mo_77 rfl rfl rfl rfl (Nat.le_of_ble_eq_true rfl) d_Mo_pattern_69 (fun H locs w_14 ew_14 hW => ?_)
      have hmk := mk_up hmk ht0 ew_14 (by rw [hT.1]; omega)
      have c0 := wd_keep ew_14 (wd_ne c0 ht0 (by simp)) c0
      have c1 := wd_keep ew_14 (wd_ne c1 ht0 (by simp)) c1
      have c2 := wd_keep ew_14 (wd_ne c2 ht0 (by simp)) c2
      have c3 := wd_keep ew_14 (wd_ne c3 ht0 (by simp)) c3
      have c4 := wd_keep ew_14 (wd_ne c4 ht0 (by simp)) c4
      have c5 := wd_keep ew_14 (wd_ne c5 ht0 (by simp)) c5
      have c6 := wd_keep ew_14 (wd_ne c6 ht0 (by simp)) c6
      have c7 := wd_keep ew_14 (wd_ne c7 ht0 (by simp)) c7
      have c8 := wd_keep ew_14 (wd_ne c8 ht0 (by simp)) c8
      have c9 := wd_keep ew_14 (wd_ne c9 ht0 (by simp)) c9
      have c10 := wd_keep ew_14 (wd_ne c10 ht0 (by simp)) c10
      have c11 := wd_keep ew_14 (wd_ne c11 ht0 (by simp)) c11
      have c12 := wd_keep ew_14 (wd_ne c12 ht0 (by simp)) c12
      have c13 := wd_keep ew_14 (wd_ne c13 ht0 (by simp)) c13
      have c14 := wd_keep ew_14 (wd_ne c14 ht0 (by simp)) c14
      have c15 := wd_keep ew_14 (wd_ne c15 ht0 (by simp)) c15
      have c16 := wd_keep ew_14 (wd_ne c16 ht0 (by simp)) c16
      have c17 := wd_keep ew_14 (wd_ne c17 ht0 (by simp)) c17
      have ht0 : w_14 t = some (.inr (5, [.int (nI Ls.length), .ref (C 0), .ref (C 1), .ref (C 2), .ref (C 3), .ref (C 4), .int 0, .ref (C 5), .ref (C 6), .int (nI Ps.length), .int (nI (hy_tot Ps)), .ref (C 7), .ref (C 8), .ref (C 9), .ref (C 10), .int (nI Ts.length), .ref (C 11), .ref (C 12), .ref (C 13), .ref (C 14), .int (nI wd.length), .ref (C 15), .ref (C 16), .int (nI pl.length), .ref (C 17)])) := wd_here ew_14
      refine lv_iload hx hb d_Mo_pattern_72 (lv_at hl 0 rfl) ?_
      refine lv_if_ne (tgt := 80) hx hb d_Mo_pattern_74 (by decide) (fun h74 => ?_) (fun h74 => ?_)
      · have hpat := bl_t hvp h74
        refine lv_iload_n hx hb d_Mo_pattern_80 rfl (lv_at hl 5 rfl) ?_
        refine lv_aload_n hx hb d_Mo_pattern_81 rfl (lv_at hl 2 rfl) ?_
        refine wd_get S i_Mo hK hW ht0 rfl 9 (by decide) k_Mo_80 rfl rfl d_Mo_pattern_82 ?_
        refine lv_icmp_ne (tgt := 185) hx hb d_Mo_pattern_85 (by decide) (fun h85 => ?_) (fun h85 => ?_)
        · have hkl : k < Ps.length := Nat.lt_of_le_of_ne hk (fun q => h85 (by rw [q]))
          obtain ⟨p, hpk, hpl1, hpm⟩ := hyes hkl
          refine lv_iconst (v := 0) hx hb d_Mo_pattern_185 (by decide) ?_
          refine lv_istore (lv' := [(6, .int 0), (5, .int v_12), (4, .int (nI ml.length)), (0, .ref t), (1, .int (nI i)), (2, .int d), (3, .int (nI k))]) hx hb d_Mo_pattern_186 hl (by decide) rfl (fun ls hl => ?_)
          have hcB : mo_c G w_14 t C (fun k9 => if k9 = 6 then upd (M 6) ml.length d else M k9) (nI Ls.length) 0 (nI Ps.length) (nI (hy_tot Ps)) (nI Ts.length) (nI wd.length) (nI pl.length) := ⟨ht0, c0, c1, c2, c3, c4, c5, c6, c7, c8, c9, c10, c11, c12, c13, c14, c15, c16, c17⟩
          refine lo_Mo_patternC (M := (fun k9 => if k9 = 6 then upd (M 6) ml.length d else M k9)) (md := md ++ [d]) (n := ml.length) (k := k) S hE hcB hT hmd2 (by rw [List.length_append, wm]; rfl) wml (by omega) (fun g10 w10 H locs g1 g2 ew hW ls hl => ?_) (ml.length + 2) 0 0 (M 10) _ _ _ _ (by rw [List.length_append, ← wm]; show ml.length + 1 < _; omega) (Nat.zero_le _) nI_0.symm (fun j y hj => absurd hj (Nat.not_lt_zero j)) (fun _ _ => rfl) (up_id c10) hW (lv_sub hl [3, 6, 2, 0] rfl)
          have hmk := mk_up hmk c10 ew (by rw [hT.2 10 (by omega)]; omega)
          have c0 := wd_keep ew (tg_ne (tg := tg) (by rw [hT.2 0 (by omega), hT.2 10 (by omega)]; omega)) c0
          have c1 := wd_keep ew (tg_ne (tg := tg) (by rw [hT.2 1 (by omega), hT.2 10 (by omega)]; omega)) c1
          have c2 := wd_keep ew (tg_ne (tg := tg) (by rw [hT.2 2 (by omega), hT.2 10 (by omega)]; omega)) c2
          have c3 := wd_keep ew (tg_ne (tg := tg) (by rw [hT.2 3 (by omega), hT.2 10 (by omega)]; omega)) c3
          have c4 := wd_keep ew (tg_ne (tg := tg) (by rw [hT.2 4 (by omega), hT.2 10 (by omega)]; omega)) c4
          have c5 := wd_keep ew (tg_ne (tg := tg) (by rw [hT.2 5 (by omega), hT.2 10 (by omega)]; omega)) c5
          have c6 := wd_keep ew (tg_ne (tg := tg) (by rw [hT.2 6 (by omega), hT.2 10 (by omega)]; omega)) c6
          have c7 := wd_keep ew (tg_ne (tg := tg) (by rw [hT.2 7 (by omega), hT.2 10 (by omega)]; omega)) c7
          have c8 := wd_keep ew (tg_ne (tg := tg) (by rw [hT.2 8 (by omega), hT.2 10 (by omega)]; omega)) c8
          have c9 := wd_keep ew (tg_ne (tg := tg) (by rw [hT.2 9 (by omega), hT.2 10 (by omega)]; omega)) c9
          have c11 := wd_keep ew (tg_ne (tg := tg) (by rw [hT.2 11 (by omega), hT.2 10 (by omega)]; omega)) c11
          have c12 := wd_keep ew (tg_ne (tg := tg) (by rw [hT.2 12 (by omega), hT.2 10 (by omega)]; omega)) c12
          have c13 := wd_keep ew (tg_ne (tg := tg) (by rw [hT.2 13 (by omega), hT.2 10 (by omega)]; omega)) c13
          have c14 := wd_keep ew (tg_ne (tg := tg) (by rw [hT.2 14 (by omega), hT.2 10 (by omega)]; omega)) c14
          have c15 := wd_keep ew (tg_ne (tg := tg) (by rw [hT.2 15 (by omega), hT.2 10 (by omega)]; omega)) c15
          have c16 := wd_keep ew (tg_ne (tg := tg) (by rw [hT.2 16 (by omega), hT.2 10 (by omega)]; omega)) c16
          have c17 := wd_keep ew (tg_ne (tg := tg) (by rw [hT.2 17 (by omega), hT.2 10 (by omega)]; omega)) c17
          have ht0 := wd_keep ew (wd_ne ht0 c10 (by simp)) ht0
          have c10 := wd_here ew
          refine lv_iload_n hx hb d_Mo_pattern_220 rfl (lv_at hl 1 rfl) ?_
          have hcF : mo_c G w10 t C (fun k9 => if k9 = 10 then g10 else if k9 = 6 then upd (M 6) ml.length d else M k9) (nI Ls.length) (nI ([] : List Int32).length) (nI (Ps.set k (i, ml, md ++ [d])).length) (nI (hy_tot (Ps.set k (i, ml, md ++ [d])))) (nI Ts.length) (nI wd.length) (nI pl.length) := by rw [List.length_set, tot_set hpk (by rw [hpm])]; exact ⟨ht0, c0, c1, c2, c3, c4, c5, c6, c7, c8, c9, c10, c11, c12, c13, c14, c15, c16, c17⟩
          exact ct_iret S hr rfl hlocks hW (⟨(Ls, Ps.set k (i, ml, md ++ [d]), Ts, [], [], wd, pl), Or.inr ⟨hok, i, rfl, hil, Or.inr (Or.inl ⟨hpat, k, Or.inr ⟨k, p, rfl, hpk, ⟨hpl1, hpm⟩, hno⟩, hkl, rfl, rfl⟩)⟩, ⟨C, (fun k9 => if k9 = 10 then g10 else if k9 = 6 then upd (M 6) ml.length d else M k9), hcF, hT, (mo_lc hl0 (fun k9 h2 => by show (if k9 = 10 then g10 else if k9 = 6 then upd (M 6) ml.length d else M k9) = M k9; rw [if_neg (by omega), if_neg (by omega)])), (mo_p_set (p2 := (i, ml, md ++ [d])) hp0 hpk (fun p hp => ⟨(wps p hp).2.1, (wps p hp).2.2.2.1⟩) rfl rfl rfl hpl1.symm hpm.symm g1 g2), (mo_tc hq0 (fun k9 h1 h2 => by show (if k9 = 10 then g10 else if k9 = 6 then upd (M 6) ml.length d else M k9) = M k9; rw [if_neg (by omega), if_neg (by omega)])), li_nil, li_nil, hwd, hpl⟩, hmk⟩) (Nat.le_of_ble_eq_true rfl) (Nat.le_of_ble_eq_true rfl) d_Mo_pattern_221
        · have hkl : k = Ps.length := (nI_eq (by omega) (by omega)).mp h85
          have hfm1 : fm_ Ps (fun p => p.1 = i ∧ p.2.1 = ml) (-1) := Or.inl ⟨rfl, fun j p hj => hno j p (by have := (List.getElem?_eq_some_iff.mp hj).1; omega) hj⟩
          refine lv_aload_n hx hb d_Mo_pattern_88 rfl (lv_at hl 2 rfl) ?_
          refine wd_get S i_Mo hK hW ht0 rfl 9 (by decide) k_Mo_80 rfl rfl d_Mo_pattern_89 ?_
          refine lv_sipush (v := 150) hx hb d_Mo_pattern_92 (by decide) ?_
          refine lv_icmp_eq (tgt := 111) hx hb d_Mo_pattern_95 (by decide) (fun h95 => ?_) (fun h95 => ?_)
          · refine lv_bipush (v := -2) hx hb d_Mo_pattern_111 (by decide) ?_
            have hcF : mo_c G w_14 t C (fun k9 => if k9 = 6 then upd (M 6) ml.length d else M k9) (nI Ls.length) (nI ([] : List Int32).length) (nI Ps.length) (nI (hy_tot Ps)) (nI Ts.length) (nI wd.length) (nI pl.length) := ⟨ht0, c0, c1, c2, c3, c4, c5, c6, c7, c8, c9, c10, c11, c12, c13, c14, c15, c16, c17⟩
            exact ct_iret S hr rfl hlocks hW (⟨(Ls, Ps, Ts, [], [], wd, pl), Or.inr ⟨hok, i, rfl, hil, Or.inr (Or.inr (Or.inl ⟨hpat, hfm1, fun q => absurd ((nI_eq (a := Ps.length) (b := 150) (by omega) (by omega)).mp h95) (by have q : Ps.length < 150 := q.1; omega), rfl, rfl⟩))⟩, ⟨C, (fun k9 => if k9 = 6 then upd (M 6) ml.length d else M k9), hcF, hT, (mo_lc hl0 (fun k9 h2 => by show (if k9 = 6 then upd (M 6) ml.length d else M k9) = M k9; rw [if_neg (by omega)])), (mo_pc hp0 (fun k9 h1 h2 => by show (if k9 = 6 then upd (M 6) ml.length d else M k9) = M k9; rw [if_neg (by omega)])), (mo_tc hq0 (fun k9 h1 h2 => by show (if k9 = 6 then upd (M 6) ml.length d else M k9) = M k9; rw [if_neg (by omega)])), li_nil, li_nil, hwd, hpl⟩, hmk⟩) (Nat.le_of_ble_eq_true rfl) (Nat.le_of_ble_eq_true rfl) d_Mo_pattern_113
          · have hp150 : Ps.length < 150 := Nat.lt_of_le_of_ne wP (fun z => h95 (by rw [z]; rfl))
            refine lv_aload_n hx hb d_Mo_pattern_98 rfl (lv_at hl 2 rfl) ?_
            refine wd_get S i_Mo hK hW ht0 rfl 10 (by decide) k_Mo_91 rfl rfl d_Mo_pattern_99 ?_
            refine lv_iload hx hb d_Mo_pattern_102 (lv_at hl 1 rfl) ?_
            refine lv_iadd hx hb d_Mo_pattern_104 ?_
            refine lv_sipush (v := 900) hx hb d_Mo_pattern_105 (by decide) ?_
            rw [nI_add]
            refine lv_icmp_le (tgt := 114) hx hb d_Mo_pattern_108 (by decide) (fun h108 => ?_) (fun h108 => ?_)
            · have h900 : hy_tot Ps + ml.length ≤ 900 := (nI_leI (a := hy_tot Ps + ml.length) (b := 900) (by omega) (by omega)).mp h108
              subst hkl
              refine lv_aload_n hx hb d_Mo_pattern_114 rfl (lv_at hl 2 rfl) ?_
              refine wd_get S i_Mo hK hW ht0 rfl 11 (by decide) k_Mo_32 rfl rfl d_Mo_pattern_115 ?_
              refine lv_iload_n hx hb d_Mo_pattern_118 rfl (lv_at hl 5 rfl) ?_
              refine lv_iload_n hx hb d_Mo_pattern_119 rfl (lv_at hl 3 rfl) ?_
              refine wd_iast S hK hW 0 c7 rfl (vp_in_nI (by omega) (by omega)) d_Mo_pattern_120 (fun H locs w_15 ew_15 hW => ?_)
              have hmk := mk_up hmk c7 ew_15 (by rw [hT.2 7 (by omega)]; omega)
              have ht0 := wd_keep ew_15 (wd_ne ht0 c7 (by simp)) ht0
              have c0 := wd_keep ew_15 (tg_ne (tg := tg) (by rw [hT.2 0 (by omega), hT.2 7 (by omega)]; omega)) c0
              have c1 := wd_keep ew_15 (tg_ne (tg := tg) (by rw [hT.2 1 (by omega), hT.2 7 (by omega)]; omega)) c1
              have c2 := wd_keep ew_15 (tg_ne (tg := tg) (by rw [hT.2 2 (by omega), hT.2 7 (by omega)]; omega)) c2
              have c3 := wd_keep ew_15 (tg_ne (tg := tg) (by rw [hT.2 3 (by omega), hT.2 7 (by omega)]; omega)) c3
              have c4 := wd_keep ew_15 (tg_ne (tg := tg) (by rw [hT.2 4 (by omega), hT.2 7 (by omega)]; omega)) c4
              have c5 := wd_keep ew_15 (tg_ne (tg := tg) (by rw [hT.2 5 (by omega), hT.2 7 (by omega)]; omega)) c5
              have c6 := wd_keep ew_15 (tg_ne (tg := tg) (by rw [hT.2 6 (by omega), hT.2 7 (by omega)]; omega)) c6
              have c8 := wd_keep ew_15 (tg_ne (tg := tg) (by rw [hT.2 8 (by omega), hT.2 7 (by omega)]; omega)) c8
              have c9 := wd_keep ew_15 (tg_ne (tg := tg) (by rw [hT.2 9 (by omega), hT.2 7 (by omega)]; omega)) c9
              have c10 := wd_keep ew_15 (tg_ne (tg := tg) (by rw [hT.2 10 (by omega), hT.2 7 (by omega)]; omega)) c10
              have c11 := wd_keep ew_15 (tg_ne (tg := tg) (by rw [hT.2 11 (by omega), hT.2 7 (by omega)]; omega)) c11
              have c12 := wd_keep ew_15 (tg_ne (tg := tg) (by rw [hT.2 12 (by omega), hT.2 7 (by omega)]; omega)) c12
              have c13 := wd_keep ew_15 (tg_ne (tg := tg) (by rw [hT.2 13 (by omega), hT.2 7 (by omega)]; omega)) c13
              have c14 := wd_keep ew_15 (tg_ne (tg := tg) (by rw [hT.2 14 (by omega), hT.2 7 (by omega)]; omega)) c14
              have c15 := wd_keep ew_15 (tg_ne (tg := tg) (by rw [hT.2 15 (by omega), hT.2 7 (by omega)]; omega)) c15
              have c16 := wd_keep ew_15 (tg_ne (tg := tg) (by rw [hT.2 16 (by omega), hT.2 7 (by omega)]; omega)) c16
              have c17 := wd_keep ew_15 (tg_ne (tg := tg) (by rw [hT.2 17 (by omega), hT.2 7 (by omega)]; omega)) c17
              have c7 : w_15 (C 7) = some (.inl (G.2.1 0, 150, .inl (upd (M 7) ((nI Ps.length) : Int32).toNatClampNeg (nI i)))) := wd_here ew_15
              rw [nI_clamp (by omega)] at c7
              refine lv_aload_n hx hb d_Mo_pattern_121 rfl (lv_at hl 2 rfl) ?_
              refine wd_get S i_Mo hK hW ht0 rfl 12 (by decide) k_Mo_35 rfl rfl d_Mo_pattern_122 ?_
              refine lv_iload_n hx hb d_Mo_pattern_125 rfl (lv_at hl 5 rfl) ?_
              refine lv_iload hx hb d_Mo_pattern_126 (lv_at hl 1 rfl) ?_
              refine wd_iast S hK hW 0 c8 rfl (vp_in_nI (by omega) (by omega)) d_Mo_pattern_128 (fun H locs w_16 ew_16 hW => ?_)
              have hmk := mk_up hmk c8 ew_16 (by rw [hT.2 8 (by omega)]; omega)
              have ht0 := wd_keep ew_16 (wd_ne ht0 c8 (by simp)) ht0
              have c0 := wd_keep ew_16 (tg_ne (tg := tg) (by rw [hT.2 0 (by omega), hT.2 8 (by omega)]; omega)) c0
              have c1 := wd_keep ew_16 (tg_ne (tg := tg) (by rw [hT.2 1 (by omega), hT.2 8 (by omega)]; omega)) c1
              have c2 := wd_keep ew_16 (tg_ne (tg := tg) (by rw [hT.2 2 (by omega), hT.2 8 (by omega)]; omega)) c2
              have c3 := wd_keep ew_16 (tg_ne (tg := tg) (by rw [hT.2 3 (by omega), hT.2 8 (by omega)]; omega)) c3
              have c4 := wd_keep ew_16 (tg_ne (tg := tg) (by rw [hT.2 4 (by omega), hT.2 8 (by omega)]; omega)) c4
              have c5 := wd_keep ew_16 (tg_ne (tg := tg) (by rw [hT.2 5 (by omega), hT.2 8 (by omega)]; omega)) c5
              have c6 := wd_keep ew_16 (tg_ne (tg := tg) (by rw [hT.2 6 (by omega), hT.2 8 (by omega)]; omega)) c6
              have c7 := wd_keep ew_16 (tg_ne (tg := tg) (by rw [hT.2 7 (by omega), hT.2 8 (by omega)]; omega)) c7
              have c9 := wd_keep ew_16 (tg_ne (tg := tg) (by rw [hT.2 9 (by omega), hT.2 8 (by omega)]; omega)) c9
              have c10 := wd_keep ew_16 (tg_ne (tg := tg) (by rw [hT.2 10 (by omega), hT.2 8 (by omega)]; omega)) c10
              have c11 := wd_keep ew_16 (tg_ne (tg := tg) (by rw [hT.2 11 (by omega), hT.2 8 (by omega)]; omega)) c11
              have c12 := wd_keep ew_16 (tg_ne (tg := tg) (by rw [hT.2 12 (by omega), hT.2 8 (by omega)]; omega)) c12
              have c13 := wd_keep ew_16 (tg_ne (tg := tg) (by rw [hT.2 13 (by omega), hT.2 8 (by omega)]; omega)) c13
              have c14 := wd_keep ew_16 (tg_ne (tg := tg) (by rw [hT.2 14 (by omega), hT.2 8 (by omega)]; omega)) c14
              have c15 := wd_keep ew_16 (tg_ne (tg := tg) (by rw [hT.2 15 (by omega), hT.2 8 (by omega)]; omega)) c15
              have c16 := wd_keep ew_16 (tg_ne (tg := tg) (by rw [hT.2 16 (by omega), hT.2 8 (by omega)]; omega)) c16
              have c17 := wd_keep ew_16 (tg_ne (tg := tg) (by rw [hT.2 17 (by omega), hT.2 8 (by omega)]; omega)) c17
              have c8 : w_16 (C 8) = some (.inl (G.2.1 0, 150, .inl (upd (M 8) ((nI Ps.length) : Int32).toNatClampNeg (nI ml.length)))) := wd_here ew_16
              rw [nI_clamp (by omega)] at c8
              refine lv_iconst (v := 0) hx hb d_Mo_pattern_129 (by decide) ?_
              refine lv_istore (lv' := [(6, .int 0), (5, .int v_12), (4, .int (nI ml.length)), (0, .ref t), (1, .int (nI i)), (2, .int d), (3, .int (nI Ps.length))]) hx hb d_Mo_pattern_130 hl (by decide) rfl (fun ls hl => ?_)
              have hcA : mo_c G w_16 t C (fun k9 => if k9 = 8 then upd (M 8) Ps.length (nI ml.length) else if k9 = 7 then upd (M 7) Ps.length (nI i) else if k9 = 6 then upd (M 6) ml.length d else M k9) (nI Ls.length) 0 (nI Ps.length) (nI (hy_tot Ps)) (nI Ts.length) (nI wd.length) (nI pl.length) := ⟨ht0, c0, c1, c2, c3, c4, c5, c6, c7, c8, c9, c10, c11, c12, c13, c14, c15, c16, c17⟩
              refine lo_Mo_patternB (M := (fun k9 => if k9 = 8 then upd (M 8) Ps.length (nI ml.length) else if k9 = 7 then upd (M 7) Ps.length (nI i) else if k9 = 6 then upd (M 6) ml.length d else M k9)) (ml := ml) (n := ml.length) (k := Ps.length) S hE hcA hT hml rfl wml (by omega) (fun g9 w9 H locs r1 r2 ew9 hW ls hl => ?_) (ml.length + 1) 0 0 (M 9) _ _ _ _ (by omega) (Nat.zero_le _) nI_0.symm (fun j y hj => absurd hj (Nat.not_lt_zero j)) (fun _ _ => rfl) (up_id c9) hW (lv_sub hl [3, 6, 2, 0] rfl)
              have hmk := mk_up hmk c9 ew9 (by rw [hT.2 9 (by omega)]; omega)
              have c0 := wd_keep ew9 (tg_ne (tg := tg) (by rw [hT.2 0 (by omega), hT.2 9 (by omega)]; omega)) c0
              have c1 := wd_keep ew9 (tg_ne (tg := tg) (by rw [hT.2 1 (by omega), hT.2 9 (by omega)]; omega)) c1
              have c2 := wd_keep ew9 (tg_ne (tg := tg) (by rw [hT.2 2 (by omega), hT.2 9 (by omega)]; omega)) c2
              have c3 := wd_keep ew9 (tg_ne (tg := tg) (by rw [hT.2 3 (by omega), hT.2 9 (by omega)]; omega)) c3
              have c4 := wd_keep ew9 (tg_ne (tg := tg) (by rw [hT.2 4 (by omega), hT.2 9 (by omega)]; omega)) c4
              have c5 := wd_keep ew9 (tg_ne (tg := tg) (by rw [hT.2 5 (by omega), hT.2 9 (by omega)]; omega)) c5
              have c6 := wd_keep ew9 (tg_ne (tg := tg) (by rw [hT.2 6 (by omega), hT.2 9 (by omega)]; omega)) c6
              have c7 := wd_keep ew9 (tg_ne (tg := tg) (by rw [hT.2 7 (by omega), hT.2 9 (by omega)]; omega)) c7
              have c8 := wd_keep ew9 (tg_ne (tg := tg) (by rw [hT.2 8 (by omega), hT.2 9 (by omega)]; omega)) c8
              have c10 := wd_keep ew9 (tg_ne (tg := tg) (by rw [hT.2 10 (by omega), hT.2 9 (by omega)]; omega)) c10
              have c11 := wd_keep ew9 (tg_ne (tg := tg) (by rw [hT.2 11 (by omega), hT.2 9 (by omega)]; omega)) c11
              have c12 := wd_keep ew9 (tg_ne (tg := tg) (by rw [hT.2 12 (by omega), hT.2 9 (by omega)]; omega)) c12
              have c13 := wd_keep ew9 (tg_ne (tg := tg) (by rw [hT.2 13 (by omega), hT.2 9 (by omega)]; omega)) c13
              have c14 := wd_keep ew9 (tg_ne (tg := tg) (by rw [hT.2 14 (by omega), hT.2 9 (by omega)]; omega)) c14
              have c15 := wd_keep ew9 (tg_ne (tg := tg) (by rw [hT.2 15 (by omega), hT.2 9 (by omega)]; omega)) c15
              have c16 := wd_keep ew9 (tg_ne (tg := tg) (by rw [hT.2 16 (by omega), hT.2 9 (by omega)]; omega)) c16
              have c17 := wd_keep ew9 (tg_ne (tg := tg) (by rw [hT.2 17 (by omega), hT.2 9 (by omega)]; omega)) c17
              have ht0 := wd_keep ew9 (wd_ne ht0 c9 (by simp)) ht0
              have c9 := wd_here ew9
              refine lv_aload_n hx hb d_Mo_pattern_164 rfl (lv_at hl 0 rfl) ?_
              refine lv_dup hx hb d_Mo_pattern_165 rfl ?_
              refine wd_get S i_Mo hK hW ht0 rfl 10 (by decide) k_Mo_91 rfl rfl d_Mo_pattern_166 ?_
              refine lv_iload hx hb d_Mo_pattern_169 (lv_at hl 2 rfl) ?_
              refine lv_iadd hx hb d_Mo_pattern_171 ?_
              refine lv_topi (fun nt ent => ?_)
              rw [nI_add] at ent
              refine wd_put S i_Mo t_Mo t_Mo_ok n_Mo hK hW ht0 rfl 10 (by decide) k_Mo_91 rfl rfl rfl rfl (Nat.le_of_ble_eq_true rfl) d_Mo_pattern_172 (fun H locs w_17 ew_17 hW => ?_)
              have hmk := mk_up hmk ht0 ew_17 (by rw [hT.1]; omega)
              have c0 := wd_keep ew_17 (wd_ne c0 ht0 (by simp)) c0
              have c1 := wd_keep ew_17 (wd_ne c1 ht0 (by simp)) c1
              have c2 := wd_keep ew_17 (wd_ne c2 ht0 (by simp)) c2
              have c3 := wd_keep ew_17 (wd_ne c3 ht0 (by simp)) c3
              have c4 := wd_keep ew_17 (wd_ne c4 ht0 (by simp)) c4
              have c5 := wd_keep ew_17 (wd_ne c5 ht0 (by simp)) c5
              have c6 := wd_keep ew_17 (wd_ne c6 ht0 (by simp)) c6
              have c7 := wd_keep ew_17 (wd_ne c7 ht0 (by simp)) c7
              have c8 := wd_keep ew_17 (wd_ne c8 ht0 (by simp)) c8
              have c9 := wd_keep ew_17 (wd_ne c9 ht0 (by simp)) c9
              have c10 := wd_keep ew_17 (wd_ne c10 ht0 (by simp)) c10
              have c11 := wd_keep ew_17 (wd_ne c11 ht0 (by simp)) c11
              have c12 := wd_keep ew_17 (wd_ne c12 ht0 (by simp)) c12
              have c13 := wd_keep ew_17 (wd_ne c13 ht0 (by simp)) c13
              have c14 := wd_keep ew_17 (wd_ne c14 ht0 (by simp)) c14
              have c15 := wd_keep ew_17 (wd_ne c15 ht0 (by simp)) c15
              have c16 := wd_keep ew_17 (wd_ne c16 ht0 (by simp)) c16
              have c17 := wd_keep ew_17 (wd_ne c17 ht0 (by simp)) c17
              have ht0 : w_17 t = some (.inr (5, [.int (nI Ls.length), .ref (C 0), .ref (C 1), .ref (C 2), .ref (C 3), .ref (C 4), .int 0, .ref (C 5), .ref (C 6), .int (nI Ps.length), .int nt, .ref (C 7), .ref (C 8), .ref (C 9), .ref (C 10), .int (nI Ts.length), .ref (C 11), .ref (C 12), .ref (C 13), .ref (C 14), .int (nI wd.length), .ref (C 15), .ref (C 16), .int (nI pl.length), .ref (C 17)])) := wd_here ew_17
              rw [ent] at ht0
              refine lv_aload_n hx hb d_Mo_pattern_175 rfl (lv_at hl 0 rfl) ?_
              refine lv_dup hx hb d_Mo_pattern_176 rfl ?_
              refine wd_get S i_Mo hK hW ht0 rfl 9 (by decide) k_Mo_80 rfl rfl d_Mo_pattern_177 ?_
              refine lv_iconst (v := 1) hx hb d_Mo_pattern_180 (by decide) ?_
              refine lv_iadd hx hb d_Mo_pattern_181 ?_
              refine lv_topi (fun np enp => ?_)
              rw [nI_1] at enp
              refine wd_put S i_Mo t_Mo t_Mo_ok n_Mo hK hW ht0 rfl 9 (by decide) k_Mo_80 rfl rfl rfl rfl (Nat.le_of_ble_eq_true rfl) d_Mo_pattern_182 (fun H locs w_18 ew_18 hW => ?_)
              have hmk := mk_up hmk ht0 ew_18 (by rw [hT.1]; omega)
              have c0 := wd_keep ew_18 (wd_ne c0 ht0 (by simp)) c0
              have c1 := wd_keep ew_18 (wd_ne c1 ht0 (by simp)) c1
              have c2 := wd_keep ew_18 (wd_ne c2 ht0 (by simp)) c2
              have c3 := wd_keep ew_18 (wd_ne c3 ht0 (by simp)) c3
              have c4 := wd_keep ew_18 (wd_ne c4 ht0 (by simp)) c4
              have c5 := wd_keep ew_18 (wd_ne c5 ht0 (by simp)) c5
              have c6 := wd_keep ew_18 (wd_ne c6 ht0 (by simp)) c6
              have c7 := wd_keep ew_18 (wd_ne c7 ht0 (by simp)) c7
              have c8 := wd_keep ew_18 (wd_ne c8 ht0 (by simp)) c8
              have c9 := wd_keep ew_18 (wd_ne c9 ht0 (by simp)) c9
              have c10 := wd_keep ew_18 (wd_ne c10 ht0 (by simp)) c10
              have c11 := wd_keep ew_18 (wd_ne c11 ht0 (by simp)) c11
              have c12 := wd_keep ew_18 (wd_ne c12 ht0 (by simp)) c12
              have c13 := wd_keep ew_18 (wd_ne c13 ht0 (by simp)) c13
              have c14 := wd_keep ew_18 (wd_ne c14 ht0 (by simp)) c14
              have c15 := wd_keep ew_18 (wd_ne c15 ht0 (by simp)) c15
              have c16 := wd_keep ew_18 (wd_ne c16 ht0 (by simp)) c16
              have c17 := wd_keep ew_18 (wd_ne c17 ht0 (by simp)) c17
              have ht0 : w_18 t = some (.inr (5, [.int (nI Ls.length), .ref (C 0), .ref (C 1), .ref (C 2), .ref (C 3), .ref (C 4), .int 0, .ref (C 5), .ref (C 6), .int np, .int (nI (hy_tot Ps + ml.length)), .ref (C 7), .ref (C 8), .ref (C 9), .ref (C 10), .int (nI Ts.length), .ref (C 11), .ref (C 12), .ref (C 13), .ref (C 14), .int (nI wd.length), .ref (C 15), .ref (C 16), .int (nI pl.length), .ref (C 17)])) := wd_here ew_18
              rw [enp] at ht0
              refine lv_iconst (v := 0) hx hb d_Mo_pattern_185 (by decide) ?_
              refine lv_istore (lv' := [(6, .int 0), (0, .ref t), (3, .int (nI Ps.length)), (4, .int (nI ml.length))]) hx hb d_Mo_pattern_186 hl (by decide) rfl (fun ls hl => ?_)
              have hcB : mo_c G w_18 t C (fun k9 => if k9 = 9 then g9 else if k9 = 8 then upd (M 8) Ps.length (nI ml.length) else if k9 = 7 then upd (M 7) Ps.length (nI i) else if k9 = 6 then upd (M 6) ml.length d else M k9) (nI Ls.length) 0 (nI (Ps.length + 1)) (nI (hy_tot Ps + ml.length)) (nI Ts.length) (nI wd.length) (nI pl.length) := ⟨ht0, c0, c1, c2, c3, c4, c5, c6, c7, c8, c9, c10, c11, c12, c13, c14, c15, c16, c17⟩
              refine lo_Mo_patternC (M := (fun k9 => if k9 = 9 then g9 else if k9 = 8 then upd (M 8) Ps.length (nI ml.length) else if k9 = 7 then upd (M 7) Ps.length (nI i) else if k9 = 6 then upd (M 6) ml.length d else M k9)) (md := md ++ [d]) (n := ml.length) (k := Ps.length) S hE hcB hT hmd2 (by rw [List.length_append, wm]; rfl) wml (by omega) (fun g10 w10 H locs g1 g2 ew hW ls hl => ?_) (ml.length + 2) 0 0 (M 10) _ _ _ _ (by rw [List.length_append, ← wm]; show ml.length + 1 < _; omega) (Nat.zero_le _) nI_0.symm (fun j y hj => absurd hj (Nat.not_lt_zero j)) (fun _ _ => rfl) (up_id c10) hW (lv_sub hl [1, 2, 3, 0] rfl)
              have hmk := mk_up hmk c10 ew (by rw [hT.2 10 (by omega)]; omega)
              have c0 := wd_keep ew (tg_ne (tg := tg) (by rw [hT.2 0 (by omega), hT.2 10 (by omega)]; omega)) c0
              have c1 := wd_keep ew (tg_ne (tg := tg) (by rw [hT.2 1 (by omega), hT.2 10 (by omega)]; omega)) c1
              have c2 := wd_keep ew (tg_ne (tg := tg) (by rw [hT.2 2 (by omega), hT.2 10 (by omega)]; omega)) c2
              have c3 := wd_keep ew (tg_ne (tg := tg) (by rw [hT.2 3 (by omega), hT.2 10 (by omega)]; omega)) c3
              have c4 := wd_keep ew (tg_ne (tg := tg) (by rw [hT.2 4 (by omega), hT.2 10 (by omega)]; omega)) c4
              have c5 := wd_keep ew (tg_ne (tg := tg) (by rw [hT.2 5 (by omega), hT.2 10 (by omega)]; omega)) c5
              have c6 := wd_keep ew (tg_ne (tg := tg) (by rw [hT.2 6 (by omega), hT.2 10 (by omega)]; omega)) c6
              have c7 := wd_keep ew (tg_ne (tg := tg) (by rw [hT.2 7 (by omega), hT.2 10 (by omega)]; omega)) c7
              have c8 := wd_keep ew (tg_ne (tg := tg) (by rw [hT.2 8 (by omega), hT.2 10 (by omega)]; omega)) c8
              have c9 := wd_keep ew (tg_ne (tg := tg) (by rw [hT.2 9 (by omega), hT.2 10 (by omega)]; omega)) c9
              have c11 := wd_keep ew (tg_ne (tg := tg) (by rw [hT.2 11 (by omega), hT.2 10 (by omega)]; omega)) c11
              have c12 := wd_keep ew (tg_ne (tg := tg) (by rw [hT.2 12 (by omega), hT.2 10 (by omega)]; omega)) c12
              have c13 := wd_keep ew (tg_ne (tg := tg) (by rw [hT.2 13 (by omega), hT.2 10 (by omega)]; omega)) c13
              have c14 := wd_keep ew (tg_ne (tg := tg) (by rw [hT.2 14 (by omega), hT.2 10 (by omega)]; omega)) c14
              have c15 := wd_keep ew (tg_ne (tg := tg) (by rw [hT.2 15 (by omega), hT.2 10 (by omega)]; omega)) c15
              have c16 := wd_keep ew (tg_ne (tg := tg) (by rw [hT.2 16 (by omega), hT.2 10 (by omega)]; omega)) c16
              have c17 := wd_keep ew (tg_ne (tg := tg) (by rw [hT.2 17 (by omega), hT.2 10 (by omega)]; omega)) c17
              have ht0 := wd_keep ew (wd_ne ht0 c10 (by simp)) ht0
              have c10 := wd_here ew
              refine lv_iload_n hx hb d_Mo_pattern_220 rfl (lv_at hl 1 rfl) ?_
              have hcF : mo_c G w10 t C (fun k9 => if k9 = 10 then g10 else if k9 = 9 then g9 else if k9 = 8 then upd (M 8) Ps.length (nI ml.length) else if k9 = 7 then upd (M 7) Ps.length (nI i) else if k9 = 6 then upd (M 6) ml.length d else M k9) (nI Ls.length) (nI ([] : List Int32).length) (nI (Ps ++ [(i, ml, md ++ [d])]).length) (nI (hy_tot (Ps ++ [(i, ml, md ++ [d])]))) (nI Ts.length) (nI wd.length) (nI pl.length)   := by rw [List.length_append, tot_app]; exact ⟨ht0, c0, c1, c2, c3, c4, c5, c6, c7, c8, c9, c10, c11, c12, c13, c14, c15, c16, c17⟩
              exact ct_iret S hr rfl hlocks hW (⟨(Ls, Ps ++ [(i, ml, md ++ [d])], Ts, [], [], wd, pl), Or.inr ⟨hok, i, rfl, hil, Or.inr (Or.inr (Or.inr ⟨hpat, hfm1, ⟨hp150, h900⟩, rfl, rfl⟩))⟩, ⟨C, (fun k9 => if k9 = 10 then g10 else if k9 = 9 then g9 else if k9 = 8 then upd (M 8) Ps.length (nI ml.length) else if k9 = 7 then upd (M 7) Ps.length (nI i) else if k9 = 6 then upd (M 6) ml.length d else M k9), hcF, hT, (mo_lc hl0 (fun k9 h2 => by show (if k9 = 10 then g10 else if k9 = 9 then g9 else if k9 = 8 then upd (M 8) Ps.length (nI ml.length) else if k9 = 7 then upd (M 7) Ps.length (nI i) else if k9 = 6 then upd (M 6) ml.length d else M k9) = M k9; rw [if_neg (by omega), if_neg (by omega), if_neg (by omega), if_neg (by omega), if_neg (by omega)])), (mo_p_add (p := (i, ml, md ++ [d])) hp0 (fun p hp => ⟨(wps p hp).2.1, (wps p hp).2.2.2.1⟩) rfl rfl r1 r2 g1 g2), (mo_tc hq0 (fun k9 h1 h2 => by show (if k9 = 10 then g10 else if k9 = 9 then g9 else if k9 = 8 then upd (M 8) Ps.length (nI ml.length) else if k9 = 7 then upd (M 7) Ps.length (nI i) else if k9 = 6 then upd (M 6) ml.length d else M k9) = M k9; rw [if_neg (by omega), if_neg (by omega), if_neg (by omega), if_neg (by omega), if_neg (by omega)])), li_nil, li_nil, hwd, hpl⟩, hmk⟩) (Nat.le_of_ble_eq_true rfl) (Nat.le_of_ble_eq_true rfl) d_Mo_pattern_221
            · refine lv_bipush (v := -2) hx hb d_Mo_pattern_111 (by decide) ?_
              have hcF : mo_c G w_14 t C (fun k9 => if k9 = 6 then upd (M 6) ml.length d else M k9) (nI Ls.length) (nI ([] : List Int32).length) (nI Ps.length) (nI (hy_tot Ps)) (nI Ts.length) (nI wd.length) (nI pl.length) := ⟨ht0, c0, c1, c2, c3, c4, c5, c6, c7, c8, c9, c10, c11, c12, c13, c14, c15, c16, c17⟩
              exact ct_iret S hr rfl hlocks hW (⟨(Ls, Ps, Ts, [], [], wd, pl), Or.inr ⟨hok, i, rfl, hil, Or.inr (Or.inr (Or.inl ⟨hpat, hfm1, fun q => h108 (nI_le (b := 900) q.2 (by omega)), rfl, rfl⟩))⟩, ⟨C, (fun k9 => if k9 = 6 then upd (M 6) ml.length d else M k9), hcF, hT, (mo_lc hl0 (fun k9 h2 => by show (if k9 = 6 then upd (M 6) ml.length d else M k9) = M k9; rw [if_neg (by omega)])), (mo_pc hp0 (fun k9 h1 h2 => by show (if k9 = 6 then upd (M 6) ml.length d else M k9) = M k9; rw [if_neg (by omega)])), (mo_tc hq0 (fun k9 h1 h2 => by show (if k9 = 6 then upd (M 6) ml.length d else M k9) = M k9; rw [if_neg (by omega)])), li_nil, li_nil, hwd, hpl⟩, hmk⟩) (Nat.le_of_ble_eq_true rfl) (Nat.le_of_ble_eq_true rfl) d_Mo_pattern_113
      · refine lv_bipush (v := -3) hx hb d_Mo_pattern_77 (by decide) ?_
        have hcF : mo_c G w_14 t C (fun k9 => if k9 = 6 then upd (M 6) ml.length d else M k9) (nI Ls.length) (nI ([] : List Int32).length) (nI Ps.length) (nI (hy_tot Ps)) (nI Ts.length) (nI wd.length) (nI pl.length) := ⟨ht0, c0, c1, c2, c3, c4, c5, c6, c7, c8, c9, c10, c11, c12, c13, c14, c15, c16, c17⟩
        exact ct_iret S hr rfl hlocks hW (⟨(Ls, Ps, Ts, [], [], wd, pl), Or.inr ⟨hok, i, rfl, hil, Or.inl ⟨bl_f hvp h74, rfl, rfl⟩⟩, ⟨C, (fun k9 => if k9 = 6 then upd (M 6) ml.length d else M k9), hcF, hT, (mo_lc hl0 (fun k9 h2 => by show (if k9 = 6 then upd (M 6) ml.length d else M k9) = M k9; rw [if_neg (by omega)])), (mo_pc hp0 (fun k9 h1 h2 => by show (if k9 = 6 then upd (M 6) ml.length d else M k9) = M k9; rw [if_neg (by omega)])), (mo_tc hq0 (fun k9 h1 h2 => by show (if k9 = 6 then upd (M 6) ml.length d else M k9) = M k9; rw [if_neg (by omega)])), li_nil, li_nil, hwd, hpl⟩, hmk⟩) (Nat.le_of_ble_eq_true rfl) (Nat.le_of_ble_eq_true rfl) d_Mo_pattern_79
    · refine lv_iconst (v := -1) hx hb d_Mo_pattern_18 (by decide) ?_
      exact ct_iret S hr rfl hlocks hW (⟨_, Or.inl ⟨fun q => bl_f hv2 h15 q.2, rfl, rfl⟩, h, mk_rf⟩) (Nat.le_of_ble_eq_true rfl) (Nat.le_of_ble_eq_true rfl) d_Mo_pattern_19
