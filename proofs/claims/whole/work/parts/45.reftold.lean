/-! THE REFERENCE: exception, drop. -/

theorem mo_t_set {Ts : List hy_T} {M M2 : Nat → Nat → Int32} {k : Nat} {p : hy_T} {y : Int32} (h : mo_t Ts M) (hk : Ts[k]? = some p) (e11 : M2 11 = M 11) (e12 : M2 12 = M 12) (e13 : M2 13 = M 13) (e14 : M2 14 = upd (M 14) k y) : mo_t (Ts.set k (p.1, p.2.1, y)) M2 := by
  intro j q hj
  rw [e11, e12, e13, e14]
  by_cases hjk : j = k
  · subst hjk
    have hl := (List.getElem?_eq_some_iff.mp hk).1
    rw [List.getElem?_set_self hl] at hj
    cases hj
    obtain ⟨g1, g2, g3, g4⟩ := h j p hk
    exact ⟨g1, g2, g3, pk_us⟩
  · rw [List.getElem?_set_ne (Ne.symm hjk)] at hj
    obtain ⟨g1, g2, g3, g4⟩ := h j q hj
    exact ⟨g1, g2, g3, by rw [pk_un hjk]; exact g4⟩
theorem mo_t_add {Ts : List hy_T} {M M2 : Nat → Nat → Int32} {p : hy_T} (h : mo_t Ts M) (wl : ∀ p ∈ Ts, p.2.1.length ≤ 30) (e11 : M2 11 = upd (M 11) Ts.length (nI p.1)) (e12 : M2 12 = upd (M 12) Ts.length (nI p.2.1.length)) (h13 : ∀ (i : Nat) (x : Int32), p.2.1[i]? = some x → M2 13 (30 * Ts.length + i) = x) (o13 : ∀ q, (q < 30 * Ts.length ∨ 30 * Ts.length + 30 ≤ q) → M2 13 q = M 13 q) (e14 : M2 14 = upd (M 14) Ts.length p.2.2) : mo_t (Ts ++ [p]) M2 := by
  intro j q hj
  rw [e11, e12, e14]
  by_cases hl : j < Ts.length
  · rw [List.getElem?_append_left hl] at hj
    obtain ⟨g1, g2, g3, g4⟩ := h j q hj
    have hw := wl q (List.mem_of_getElem? hj)
    refine ⟨by rw [pk_un (by omega)]; exact g1, by rw [pk_un (by omega)]; exact g2, fun i x hx => ?_, by rw [pk_un (by omega)]; exact g4⟩
    have hi := (List.getElem?_eq_some_iff.mp hx).1
    rw [o13 _ (by omega)]
    exact g3 i x hx
  · rw [List.getElem?_append_right (by omega)] at hj
    have h1 : j - Ts.length < 1 := (List.getElem?_eq_some_iff.mp hj).1
    have h2 : j = Ts.length := by omega
    subst h2
    rw [Nat.sub_self] at hj
    cases hj
    exact ⟨pk_us, pk_us, h13, pk_us⟩
/-- a stretch moved down by d -/
def sh_ (d : Nat) (f : Nat → Int32) (lo hi : Nat) : Nat → Int32 := fun q => if lo ≤ q ∧ q < hi then f (q + d) else f q
theorem sh_0 (d : Nat) (f : Nat → Int32) (lo : Nat) : ∀ q, f q = sh_ d f lo lo q := fun q => by unfold sh_; rw [if_neg (by omega)]
theorem sh_s {d : Nat} {f g : Nat → Int32} {lo hi : Nat} (h : ∀ q, g q = sh_ d f lo hi q) (hlo : lo ≤ hi) (hd : 1 ≤ d) : ∀ q, upd g hi (g (hi + d)) q = sh_ d f lo (hi + 1) q := by
  intro q
  by_cases hq : q = hi
  · subst hq
    rw [pk_us, h]
    unfold sh_
    rw [if_neg (show ¬ (lo ≤ q + d ∧ q + d < q) by omega), if_pos (show lo ≤ q ∧ q < q + 1 by omega)]
  · rw [pk_un hq, h q]
    unfold sh_
    by_cases h1 : lo ≤ q ∧ q < hi
    · rw [if_pos h1, if_pos (show lo ≤ q ∧ q < hi + 1 by omega)]
    · rw [if_neg h1, if_neg (show ¬ (lo ≤ q ∧ q < hi + 1) by omega)]
theorem mo_t_drop {Ts : List hy_T} {M M2 : Nat → Nat → Int32} {k : Nat} (h : mo_t Ts M) (hk : k < Ts.length) (wl : ∀ p ∈ Ts, p.2.1.length ≤ 30) (e11 : ∀ q, M2 11 q = sh_ 1 (M 11) k (Ts.length - 1) q) (e12 : ∀ q, M2 12 q = sh_ 1 (M 12) k (Ts.length - 1) q) (e13 : ∀ q, M2 13 q = sh_ 30 (M 13) (30 * k) (30 * (Ts.length - 1)) q) (e14 : ∀ q, M2 14 q = sh_ 1 (M 14) k (Ts.length - 1) q) : mo_t (Ts.eraseIdx k) M2 := by
  intro j q hj
  have hjl : j < (Ts.eraseIdx k).length := (List.getElem?_eq_some_iff.mp hj).1
  rw [List.length_eraseIdx_of_lt hk] at hjl
  rw [List.getElem?_eraseIdx] at hj
  split at hj
  · obtain ⟨g1, g2, g3, g4⟩ := h j q hj
    have hw := wl q (List.mem_of_getElem? hj)
    refine ⟨by rw [e11]; unfold sh_; rw [if_neg (by omega)]; exact g1, by rw [e12]; unfold sh_; rw [if_neg (by omega)]; exact g2, fun i x hx => ?_, by rw [e14]; unfold sh_; rw [if_neg (by omega)]; exact g4⟩
    have hi := (List.getElem?_eq_some_iff.mp hx).1
    rw [e13]
    unfold sh_
    rw [if_neg (by omega)]
    exact g3 i x hx
  · obtain ⟨g1, g2, g3, g4⟩ := h (j + 1) q hj
    have hw := wl q (List.mem_of_getElem? hj)
    refine ⟨by rw [e11]; unfold sh_; rw [if_pos (by omega)]; exact g1, by rw [e12]; unfold sh_; rw [if_pos (by omega)]; exact g2, fun i x hx => ?_, by rw [e14]; unfold sh_; rw [if_pos (by omega)]; exact g4⟩
    have hi := (List.getElem?_eq_some_iff.mp hx).1
    rw [e13]
    unfold sh_
    rw [if_pos (by omega), show 30 * j + i + 30 = 30 * (j + 1) + i by omega]
    exact g3 i x hx

set_option maxHeartbeats 4000000 in
set_option maxRecDepth 100000 in
/-- the copy of exception -/
theorem lo_Mo_exception {p_ : Program} {l : Launch} {e_ : Env} {s : State} {m : MethodId} {args : Array Value} {below : List Frame} {meth : Method} {c_ : Code} {Q : State → Prop} {G : ev_G} {A : Nat → Prop} (S : CallFix p_ m c_ b_Mo_exception 5 s args lw_good "HyphenRowsModel") (hE : ev_K G A s s.heap) {w : wd_M} {t k : Nat} {C : Nat → Nat} {M : Nat → Nat → Int32} {ln mk pn tn en qn y0 : Int32} {tg : Nat → Nat} {lt : List Int32} (hc : mo_c G w t C M ln mk pn tn en (nI lt.length) qn) (hT : mo_g tg t C) (hsrc : li_ lt (fun j => M 16 (j + 1))) (wn : lt.length ≤ 30) (hk40 : k < 40) (kk : ∀ (g : Nat → Int32) (w1 : wd_M) (H : Heap) (locs : List Loc), (∀ (j : Nat) (y : Int32), lt[j]? = some y → g (30 * k + j) = y) → (∀ q, (q < 30 * k ∨ 30 * k + 30 ≤ q) → g q = M 13 q) → w1 = va_up w (C 13) (some (.inl (G.2.1 0, 1200, .inl g))) → wd_W G.1 ev_cl A w1 s.heap H locs → ∀ ls : Array Slot, lv_has ls 5 [(0, .ref t), (2, .int y0), (3, .int (nI k))] → W p_ l e_ (rm_ 1 0 0) s m args below meth c_ H locs 0 0 Q (F0 m 107 ls [])) :
    ∀ (fu : Nat) (i : Nat) (xi : Int32) (g : Nat → Int32) (w1 : wd_M) (H : Heap) (locs : List Loc) (ls : Array Slot), lt.length < i + fu → i ≤ lt.length → xi = nI i → (∀ (j : Nat) (y : Int32), j < i → lt[j]? = some y → g (30 * k + j) = y) → (∀ q, (q < 30 * k ∨ 30 * k + 30 ≤ q) → g q = M 13 q) → w1 = va_up w (C 13) (some (.inl (G.2.1 0, 1200, .inl g))) → wd_W G.1 ev_cl A w1 s.heap H locs → lv_has ls 5 [(0, .ref t), (2, .int y0), (3, .int (nI k)), (4, .int xi)] → W p_ l e_ (rm_ 1 0 0) s m args below meth c_ H locs 0 0 Q (F0 m 71 ls []) := by
  have hx := S.1
  have hb := S.2.1
  have hK := hE.1
  intro fu
  induction fu with
  | zero =>
    intro i xi g w1 H locs ls hfu hi exi h1 h2 ew hW hl
    exact absurd hfu (by omega)
  | succ fu ih =>
    intro i xi g w1 H locs ls hfu hi exi h1 h2 ew hW hl
    obtain ⟨ht0, -, -, -, -, -, -, -, -, -, -, -, -, -, c13, -, -, c16, -⟩ := id hc
    have ht0 := wd_keep ew (wd_ne ht0 c13 (by simp)) ht0
    have c16 := wd_keep ew (tg_ne (tg := tg) (by rw [hT.2 16 (by omega), hT.2 13 (by omega)]; omega)) c16
    have c13 := wd_here ew
    refine lv_iload hx hb d_Mo_exception_71 (lv_at hl 3 rfl) ?_
    refine lv_aload_n hx hb d_Mo_exception_73 rfl (lv_at hl 0 rfl) ?_
    refine wd_get S i_Mo hK hW ht0 rfl 20 (by decide) k_Mo_94 rfl rfl d_Mo_exception_74 ?_
    refine lv_icmp_ge (tgt := 107) hx hb d_Mo_exception_77 (by decide) (fun hz => ?_) (fun hz => ?_)
    · have hin9 : i = lt.length := by rw [exi] at hz; have := (nI_leI (by omega) (by omega)).mp hz; omega
      exact kk g w1 H locs (fun j y hy => h1 j y (by have := (List.getElem?_eq_some_iff.mp hy).1; omega) hy) h2 ew hW ls (lv_sub hl [0, 1, 2] rfl)
    · have hlt : i < lt.length := by rw [exi] at hz; exact Nat.lt_of_not_le (fun q => hz (nI_le q (by omega)))
      refine lv_aload_n hx hb d_Mo_exception_80 rfl (lv_at hl 0 rfl) ?_
      refine wd_get S i_Mo hK hW ht0 rfl 18 (by decide) k_Mo_50 rfl rfl d_Mo_exception_81 ?_
      refine lv_bipush (v := 30) hx hb d_Mo_exception_84 (by decide) ?_
      refine lv_iload_n hx hb d_Mo_exception_86 rfl (lv_at hl 2 rfl) ?_
      refine lv_imul hx hb d_Mo_exception_87 ?_
      refine lv_iload hx hb d_Mo_exception_88 (lv_at hl 3 rfl) ?_
      refine lv_iadd hx hb d_Mo_exception_90 ?_
      refine lv_aload_n hx hb d_Mo_exception_91 rfl (lv_at hl 0 rfl) ?_
      refine wd_get S i_Mo hK hW ht0 rfl 22 (by decide) k_Mo_59 rfl rfl d_Mo_exception_92 ?_
      refine lv_iload hx hb d_Mo_exception_95 (lv_at hl 3 rfl) ?_
      refine lv_iconst (v := 1) hx hb d_Mo_exception_97 (by decide) ?_
      refine lv_iadd hx hb d_Mo_exception_98 ?_
      rw [show (30 : Int32) * nI k + xi = nI (30 * k + i) from by rw [exi]; exact ix_30 k i, show xi + 1 = nI (i + 1) from by rw [exi]; exact nI_1 i]
      refine wd_iald S hK hW 0 c16 rfl (vp_in_nI (by omega) (by omega)) d_Mo_exception_99 ?_
      rw [nI_clamp (n := i + 1) (by omega), show M 16 (i + 1) = lt[i] from hsrc i lt[i] (List.getElem?_eq_getElem hlt)]
      refine wd_iast S hK hW 0 c13 rfl (vp_in_nI (by omega) (by omega)) d_Mo_exception_100 (fun H locs w_1 ew_1 hW => ?_)
      have ht0 := wd_keep ew_1 (wd_ne ht0 c13 (by simp)) ht0
      have c16 := wd_keep ew_1 (tg_ne (tg := tg) (by rw [hT.2 16 (by omega), hT.2 13 (by omega)]; omega)) c16
      have c13 : w_1 (C 13) = some (.inl (G.2.1 0, 1200, .inl (upd g ((nI (30 * k + i)) : Int32).toNatClampNeg (lt[i])))) := wd_here ew_1
      have hcp := cp_s h1 h2 (List.getElem?_eq_getElem hlt) (show i < 30 by omega)
      obtain ⟨xi2, exi2⟩ : ∃ y : Int32, y = xi + 1 := ⟨_, rfl⟩
      refine lv_iinc (v := xi2) (lv' := [(4, .int xi2), (0, .ref t), (2, .int y0), (3, .int (nI k))]) hx hb d_Mo_exception_101 hl (k := 3) rfl (by rw [exi2]; rfl) (by decide) rfl (fun ls hl => ?_)
      refine lv_goto (tgt := 71) hx hb d_Mo_exception_104 (by decide) ?_
      exact ih (i + 1) xi2 (upd g (nI (30 * k + i)).toNatClampNeg lt[i]) _ _ _ _ (by omega) (by omega) (by rw [exi2, exi]; exact nI_1 i) (by rw [nI_clamp (by omega)]; exact hcp.1) (by rw [nI_clamp (by omega)]; exact hcp.2) (by rw [ew_1, ew]; exact bx_uu _ _ _ _) hW (lv_sub hl [1, 2, 3, 0] rfl)

set_option maxHeartbeats 4000000 in
set_option maxRecDepth 100000 in
/-- the reference: exception -/
theorem c_Mo_exception (l : Launch) (G : ev_G) (w : wd_M) (sz : Nat) (tg : Nat → Nat) (t : Nat) (Ls : List hy_L) (Ps : List hy_P) (Ts : List hy_T) (ml md wd : List Int32) (pl : List Nat) (x y : Int32) (h : mo_ G w tg t Ls Ps Ts ml md wd pl) (hwf : hy_wf Ls Ps Ts ml md wd pl) : ct_i l y_Mo_exception b_Mo_exception 5 (some FieldType.int) (rm_ 1 0 0) G w sz [.ref t, .int x, .int y] (mq_ G w tg t (sp_exception x y (Ls, Ps, Ts, ml, md, wd, pl))) := by
  refine ct_enter (by decide +kernel) (Nat.le_of_ble_eq_true rfl) ?_
  intro p_ e_ s m below meth c_ hsz S hr hlocks hname hE hW ls hl
  have S : CallFix p_ m c_ b_Mo_exception 5 s _ lw_good "HyphenRowsModel" := S
  have hx := S.1
  have hb := S.2.1
  have hK := hE.1
  have hl : lv_has ls 5 [(0, .ref t), (1, .int x), (2, .int y)] := hl
  obtain ⟨C, M, hc, hT, hl0, hp0, hq0, hml, hmd, hwd, hpl⟩ := id h
  obtain ⟨ht0, c0, c1, c2, c3, c4, c5, c6, c7, c8, c9, c10, c11, c12, c13, c14, c15, c16, c17⟩ := id hc
  obtain ⟨wL, wP, wT, wm, wml, wwd, wpl, wtot, wmx, wdx, wws, wplx, wlg, wps, wts⟩ := id hwf
  have hmk : mk_ w w tg := mk_rf
  refine lv_aload_n hx hb d_Mo_exception_0 rfl (lv_at hl 0 rfl) ?_
  refine lv_iload_n hx hb d_Mo_exception_1 rfl (lv_at hl 1 rfl) ?_
  refine ct_goi hW (ct_runV (As := [.int x]) (rest := []) (q := (R_Mo, F_Mo, 25)) S hE hW (c_Mo_isLanguage l G _ _ t C M (nI ml.length) (nI Ps.length) (nI (hy_tot Ps)) (nI Ts.length) (nI wd.length) (nI pl.length) Ls.length x hc) ht0 rfl kc_Mo_isLanguage kz_Mo k_Mo_69 ki_Mo_isLanguage kv_Mo_isLanguage kd_Mo_isLanguage ⟨Nat.le_of_ble_eq_true rfl, Nat.le_of_ble_eq_true rfl⟩ hl.1 (Nat.le_of_ble_eq_true rfl) d_Mo_exception_2 ⟨Nat.le_of_ble_eq_true rfl, Nat.le_of_ble_eq_true rfl⟩) (fun v_3 u_1 H locs hp_2 hW => ?_)
  obtain ⟨hv, hu_4⟩ := hp_2
  rw [hu_4] at hW
  refine lv_if_ne (tgt := 10) hx hb d_Mo_exception_5 (by decide) (fun h5 => ?_) (fun h5 => ?_)
  · have hnm0 := bl_t hv h5
    obtain ⟨i, hil, rfl⟩ := nm_of hnm0 (by omega)
    have hlgi : Ls[i]? = some Ls[i] := List.getElem?_eq_getElem hil
    generalize Ls[i] = lg at hlgi
    obtain ⟨m01, m2, m3, m4⟩ := hl0.1 i lg hlgi
    have hlgm := wlg lg (List.mem_of_getElem? hlgi)
    refine lv_aload_n hx hb d_Mo_exception_10 rfl (lv_at hl 0 rfl) ?_
    refine wd_get S i_Mo hK hW ht0 rfl 20 (by decide) k_Mo_94 rfl rfl d_Mo_exception_11 ?_
    refine lv_if_eq (tgt := 25) hx hb d_Mo_exception_14 (by decide) (fun h14 => ?_) (fun h14 => ?_)
    · refine lv_bipush (v := -3) hx hb d_Mo_exception_25 (by decide) ?_
      exact ct_iret S hr rfl hlocks hW (⟨_, Or.inr ⟨hnm0, i, lg, rfl, hlgi, Or.inl ⟨fun q => absurd ((nI_eq (a := wd.length) (b := 0) (by omega) (by omega)).mp h14) (by have h9 : 0 < wd.length := q.1; omega), rfl, rfl⟩⟩, h, mk_rf⟩) (Nat.le_of_ble_eq_true rfl) (Nat.le_of_ble_eq_true rfl) d_Mo_exception_27
    · have hpos : 0 < wd.length := Nat.pos_of_ne_zero (fun q => h14 (by rw [q]; rfl))
      refine lv_aload_n hx hb d_Mo_exception_17 rfl (lv_at hl 0 rfl) ?_
      refine lv_iload_n hx hb d_Mo_exception_18 rfl (lv_at hl 1 rfl) ?_
      refine ct_goi hW (ct_runV (As := [.int (nI i)]) (rest := []) (q := (R_Mo, F_Mo, 25)) S hE hW (c_Mo_spell l G _ _ t C M (nI Ls.length) (nI ml.length) (nI Ps.length) (nI (hy_tot Ps)) (nI Ts.length) (nI pl.length) tg i lg wd hc hT (fun s hs => (m01 s hs).1) (by omega) hlgm.1 hwd wwd wws) ht0 rfl kc_Mo_spell kz_Mo k_Mo_100 ki_Mo_spell kv_Mo_spell kd_Mo_spell ⟨Nat.le_of_ble_eq_true rfl, Nat.le_of_ble_eq_true rfl⟩ hl.1 (Nat.le_of_ble_eq_true rfl) d_Mo_exception_19 ⟨Nat.le_of_ble_eq_true rfl, Nat.le_of_ble_eq_true rfl⟩) (fun v_7 u_5 H locs hp_6 hW => ?_)
      obtain ⟨hv6, g16, eu, hrow⟩ := hp_6
      have hmk := mk_up hmk c16 eu (by rw [hT.2 16 (by omega)]; omega)
      have c0 := wd_keep eu (tg_ne (tg := tg) (by rw [hT.2 0 (by omega), hT.2 16 (by omega)]; omega)) c0
      have c1 := wd_keep eu (tg_ne (tg := tg) (by rw [hT.2 1 (by omega), hT.2 16 (by omega)]; omega)) c1
      have c2 := wd_keep eu (tg_ne (tg := tg) (by rw [hT.2 2 (by omega), hT.2 16 (by omega)]; omega)) c2
      have c3 := wd_keep eu (tg_ne (tg := tg) (by rw [hT.2 3 (by omega), hT.2 16 (by omega)]; omega)) c3
      have c4 := wd_keep eu (tg_ne (tg := tg) (by rw [hT.2 4 (by omega), hT.2 16 (by omega)]; omega)) c4
      have c5 := wd_keep eu (tg_ne (tg := tg) (by rw [hT.2 5 (by omega), hT.2 16 (by omega)]; omega)) c5
      have c6 := wd_keep eu (tg_ne (tg := tg) (by rw [hT.2 6 (by omega), hT.2 16 (by omega)]; omega)) c6
      have c7 := wd_keep eu (tg_ne (tg := tg) (by rw [hT.2 7 (by omega), hT.2 16 (by omega)]; omega)) c7
      have c8 := wd_keep eu (tg_ne (tg := tg) (by rw [hT.2 8 (by omega), hT.2 16 (by omega)]; omega)) c8
      have c9 := wd_keep eu (tg_ne (tg := tg) (by rw [hT.2 9 (by omega), hT.2 16 (by omega)]; omega)) c9
      have c10 := wd_keep eu (tg_ne (tg := tg) (by rw [hT.2 10 (by omega), hT.2 16 (by omega)]; omega)) c10
      have c11 := wd_keep eu (tg_ne (tg := tg) (by rw [hT.2 11 (by omega), hT.2 16 (by omega)]; omega)) c11
      have c12 := wd_keep eu (tg_ne (tg := tg) (by rw [hT.2 12 (by omega), hT.2 16 (by omega)]; omega)) c12
      have c13 := wd_keep eu (tg_ne (tg := tg) (by rw [hT.2 13 (by omega), hT.2 16 (by omega)]; omega)) c13
      have c14 := wd_keep eu (tg_ne (tg := tg) (by rw [hT.2 14 (by omega), hT.2 16 (by omega)]; omega)) c14
      have c15 := wd_keep eu (tg_ne (tg := tg) (by rw [hT.2 15 (by omega), hT.2 16 (by omega)]; omega)) c15
      have c17 := wd_keep eu (tg_ne (tg := tg) (by rw [hT.2 17 (by omega), hT.2 16 (by omega)]; omega)) c17
      have ht0 := wd_keep eu (wd_ne ht0 c16 (by simp)) ht0
      have c16 := wd_here eu
      refine lv_if_ne (tgt := 28) hx hb d_Mo_exception_22 (by decide) (fun h22 => ?_) (fun h22 => ?_)
      · have hsp : 0 < wd.length ∧ hy_sp lg wd := ⟨hpos, bl_t hv6 h22⟩
        have hll : (hy_let lg wd).length = wd.length := List.length_map _
        have hc1 : mo_c G u_5 t C (fun k9 => if k9 = 16 then g16 else M k9) (nI Ls.length) (nI ml.length) (nI Ps.length) (nI (hy_tot Ps)) (nI Ts.length) (nI (hy_let lg wd).length) (nI pl.length) := by rw [hll]; exact ⟨ht0, c0, c1, c2, c3, c4, c5, c6, c7, c8, c9, c10, c11, c12, c13, c14, c15, c16, c17⟩
        have hrt := row_tail hrow
        refine lv_aload_n hx hb d_Mo_exception_28 rfl (lv_at hl 0 rfl) ?_
        refine lv_iload_n hx hb d_Mo_exception_29 rfl (lv_at hl 1 rfl) ?_
        refine ct_goi hW (ct_runV (As := [.int (nI i)]) (rest := []) (q := (R_Mo, F_Mo, 25)) S hE hW (c_Mo_exceptionOf l G _ _ t C (fun k9 => if k9 = 16 then g16 else M k9) (nI Ls.length) (nI ml.length) (nI Ps.length) (nI (hy_tot Ps)) (nI pl.length) i (hy_let lg wd) Ts hc1 hq0 hrt (by omega) wT wts (by omega)) ht0 rfl kc_Mo_exceptionOf kz_Mo k_Mo_103 ki_Mo_exceptionOf kv_Mo_exceptionOf kd_Mo_exceptionOf ⟨Nat.le_of_ble_eq_true rfl, Nat.le_of_ble_eq_true rfl⟩ hl.1 (Nat.le_of_ble_eq_true rfl) d_Mo_exception_30 ⟨Nat.le_of_ble_eq_true rfl, Nat.le_of_ble_eq_true rfl⟩) (fun v_10 u_8 H locs hp_9 hW => ?_)
        obtain ⟨k, exv, hk, hno, hyes, hu2⟩ := hp_9
        rw [hu2] at hW
        rw [exv]
        refine lv_istore_n (lv' := [(3, .int (nI k)), (0, .ref t), (1, .int (nI i)), (2, .int y)]) hx hb d_Mo_exception_33 rfl hl (by decide) rfl (fun ls hl => ?_)
        refine lv_iload_n hx hb d_Mo_exception_34 rfl (lv_at hl 0 rfl) ?_
        refine lv_bipush (v := 40) hx hb d_Mo_exception_35 (by decide) ?_
        refine lv_icmp_ne (tgt := 43) hx hb d_Mo_exception_37 (by decide) (fun h37 => ?_) (fun h37 => ?_)
        · have hk40 : k < 40 := by have h9 : k ≠ 40 := fun q => h37 (by rw [q]; rfl); omega
          refine lv_iload_n hx hb d_Mo_exception_43 rfl (lv_at hl 0 rfl) ?_
          refine lv_aload_n hx hb d_Mo_exception_44 rfl (lv_at hl 1 rfl) ?_
          refine wd_get S i_Mo hK hW ht0 rfl 15 (by decide) k_Mo_97 rfl rfl d_Mo_exception_45 ?_
          refine lv_icmp_ne (tgt := 117) hx hb d_Mo_exception_48 (by decide) (fun h48 => ?_) (fun h48 => ?_)
          · have hkl : k < Ts.length := Nat.lt_of_le_of_ne hk (fun q => h48 (by rw [q]))
            obtain ⟨q, hqk, hqm⟩ := hyes hkl
            refine lv_aload_n hx hb d_Mo_exception_117 rfl (lv_at hl 1 rfl) ?_
            refine wd_get S i_Mo hK hW ht0 rfl 19 (by decide) k_Mo_53 rfl rfl d_Mo_exception_118 ?_
            refine lv_iload_n hx hb d_Mo_exception_121 rfl (lv_at hl 0 rfl) ?_
            refine lv_iload_n hx hb d_Mo_exception_122 rfl (lv_at hl 3 rfl) ?_
            refine wd_iast S hK hW 0 c14 rfl (vp_in_nI (by omega) (by omega)) d_Mo_exception_123 (fun H locs w_11 ew_11 hW => ?_)
            have hmk := mk_up hmk c14 ew_11 (by rw [hT.2 14 (by omega)]; omega)
            have ht0 := wd_keep ew_11 (wd_ne ht0 c14 (by simp)) ht0
            have c0 := wd_keep ew_11 (tg_ne (tg := tg) (by rw [hT.2 0 (by omega), hT.2 14 (by omega)]; omega)) c0
            have c1 := wd_keep ew_11 (tg_ne (tg := tg) (by rw [hT.2 1 (by omega), hT.2 14 (by omega)]; omega)) c1
            have c2 := wd_keep ew_11 (tg_ne (tg := tg) (by rw [hT.2 2 (by omega), hT.2 14 (by omega)]; omega)) c2
            have c3 := wd_keep ew_11 (tg_ne (tg := tg) (by rw [hT.2 3 (by omega), hT.2 14 (by omega)]; omega)) c3
            have c4 := wd_keep ew_11 (tg_ne (tg := tg) (by rw [hT.2 4 (by omega), hT.2 14 (by omega)]; omega)) c4
            have c5 := wd_keep ew_11 (tg_ne (tg := tg) (by rw [hT.2 5 (by omega), hT.2 14 (by omega)]; omega)) c5
            have c6 := wd_keep ew_11 (tg_ne (tg := tg) (by rw [hT.2 6 (by omega), hT.2 14 (by omega)]; omega)) c6
            have c7 := wd_keep ew_11 (tg_ne (tg := tg) (by rw [hT.2 7 (by omega), hT.2 14 (by omega)]; omega)) c7
            have c8 := wd_keep ew_11 (tg_ne (tg := tg) (by rw [hT.2 8 (by omega), hT.2 14 (by omega)]; omega)) c8
            have c9 := wd_keep ew_11 (tg_ne (tg := tg) (by rw [hT.2 9 (by omega), hT.2 14 (by omega)]; omega)) c9
            have c10 := wd_keep ew_11 (tg_ne (tg := tg) (by rw [hT.2 10 (by omega), hT.2 14 (by omega)]; omega)) c10
            have c11 := wd_keep ew_11 (tg_ne (tg := tg) (by rw [hT.2 11 (by omega), hT.2 14 (by omega)]; omega)) c11
            have c12 := wd_keep ew_11 (tg_ne (tg := tg) (by rw [hT.2 12 (by omega), hT.2 14 (by omega)]; omega)) c12
            have c13 := wd_keep ew_11 (tg_ne (tg := tg) (by rw [hT.2 13 (by omega), hT.2 14 (by omega)]; omega)) c13
            have c15 := wd_keep ew_11 (tg_ne (tg := tg) (by rw [hT.2 15 (by omega), hT.2 14 (by omega)]; omega)) c15
            have c16 := wd_keep ew_11 (tg_ne (tg := tg) (by rw [hT.2 16 (by omega), hT.2 14 (by omega)]; omega)) c16
            have c17 := wd_keep ew_11 (tg_ne (tg := tg) (by rw [hT.2 17 (by omega), hT.2 14 (by omega)]; omega)) c17
            have c14 : w_11 (C 14) = some (.inl (G.2.1 0, 40, .inl (upd (M 14) ((nI k) : Int32).toNatClampNeg y))) := wd_here ew_11
            rw [nI_clamp (by omega)] at c14
            refine lv_iload_n hx hb d_Mo_exception_124 rfl (lv_at hl 0 rfl) ?_
            have hcF : mo_c G w_11 t C (fun k9 => if k9 = 14 then upd (M 14) k y else if k9 = 16 then g16 else M k9) (nI Ls.length) (nI ml.length) (nI Ps.length) (nI (hy_tot Ps)) (nI (Ts.set k (q.1, q.2.1, y)).length) (nI wd.length) (nI pl.length) := by rw [List.length_set]; exact ⟨ht0, c0, c1, c2, c3, c4, c5, c6, c7, c8, c9, c10, c11, c12, c13, c14, c15, c16, c17⟩
            exact ct_iret S hr rfl hlocks hW (⟨(Ls, Ps, Ts.set k (q.1, q.2.1, y), ml, md, wd, pl), Or.inr ⟨hnm0, i, lg, rfl, hlgi, Or.inr (Or.inl ⟨hsp, k, q, Or.inr ⟨k, q, rfl, hqk, hqm, hno⟩, hkl, hqk, rfl, rfl⟩)⟩, ⟨C, (fun k9 => if k9 = 14 then upd (M 14) k y else if k9 = 16 then g16 else M k9), hcF, hT, (mo_lc hl0 (fun k9 h2 => by show (if k9 = 14 then upd (M 14) k y else if k9 = 16 then g16 else M k9) = M k9; rw [if_neg (by omega), if_neg (by omega)])), (mo_pc hp0 (fun k9 h1 h2 => by show (if k9 = 14 then upd (M 14) k y else if k9 = 16 then g16 else M k9) = M k9; rw [if_neg (by omega), if_neg (by omega)])), (mo_t_set hq0 hqk rfl rfl rfl rfl), hml, hmd, hwd, hpl⟩, hmk⟩) (Nat.le_of_ble_eq_true rfl) (Nat.le_of_ble_eq_true rfl) d_Mo_exception_125
          · have hkl : k = Ts.length := (nI_eq (by omega) (by omega)).mp h48
            have hfm1 : fm_ Ts (hy_tm i (hy_let lg wd)) (-1) := Or.inl ⟨rfl, fun j p hj => hno j p (by have := (List.getElem?_eq_some_iff.mp hj).1; omega) hj⟩
            subst hkl
            refine lv_aload_n hx hb d_Mo_exception_51 rfl (lv_at hl 1 rfl) ?_
            refine wd_get S i_Mo hK hW ht0 rfl 16 (by decide) k_Mo_44 rfl rfl d_Mo_exception_52 ?_
            refine lv_iload_n hx hb d_Mo_exception_55 rfl (lv_at hl 0 rfl) ?_
            refine lv_iload_n hx hb d_Mo_exception_56 rfl (lv_at hl 2 rfl) ?_
            refine wd_iast S hK hW 0 c11 rfl (vp_in_nI (by omega) (by omega)) d_Mo_exception_57 (fun H locs w_12 ew_12 hW => ?_)
            have hmk := mk_up hmk c11 ew_12 (by rw [hT.2 11 (by omega)]; omega)
            have ht0 := wd_keep ew_12 (wd_ne ht0 c11 (by simp)) ht0
            have c0 := wd_keep ew_12 (tg_ne (tg := tg) (by rw [hT.2 0 (by omega), hT.2 11 (by omega)]; omega)) c0
            have c1 := wd_keep ew_12 (tg_ne (tg := tg) (by rw [hT.2 1 (by omega), hT.2 11 (by omega)]; omega)) c1
            have c2 := wd_keep ew_12 (tg_ne (tg := tg) (by rw [hT.2 2 (by omega), hT.2 11 (by omega)]; omega)) c2
            have c3 := wd_keep ew_12 (tg_ne (tg := tg) (by rw [hT.2 3 (by omega), hT.2 11 (by omega)]; omega)) c3
            have c4 := wd_keep ew_12 (tg_ne (tg := tg) (by rw [hT.2 4 (by omega), hT.2 11 (by omega)]; omega)) c4
            have c5 := wd_keep ew_12 (tg_ne (tg := tg) (by rw [hT.2 5 (by omega), hT.2 11 (by omega)]; omega)) c5
            have c6 := wd_keep ew_12 (tg_ne (tg := tg) (by rw [hT.2 6 (by omega), hT.2 11 (by omega)]; omega)) c6
            have c7 := wd_keep ew_12 (tg_ne (tg := tg) (by rw [hT.2 7 (by omega), hT.2 11 (by omega)]; omega)) c7
            have c8 := wd_keep ew_12 (tg_ne (tg := tg) (by rw [hT.2 8 (by omega), hT.2 11 (by omega)]; omega)) c8
            have c9 := wd_keep ew_12 (tg_ne (tg := tg) (by rw [hT.2 9 (by omega), hT.2 11 (by omega)]; omega)) c9
            have c10 := wd_keep ew_12 (tg_ne (tg := tg) (by rw [hT.2 10 (by omega), hT.2 11 (by omega)]; omega)) c10
            have c12 := wd_keep ew_12 (tg_ne (tg := tg) (by rw [hT.2 12 (by omega), hT.2 11 (by omega)]; omega)) c12
            have c13 := wd_keep ew_12 (tg_ne (tg := tg) (by rw [hT.2 13 (by omega), hT.2 11 (by omega)]; omega)) c13
            have c14 := wd_keep ew_12 (tg_ne (tg := tg) (by rw [hT.2 14 (by omega), hT.2 11 (by omega)]; omega)) c14
            have c15 := wd_keep ew_12 (tg_ne (tg := tg) (by rw [hT.2 15 (by omega), hT.2 11 (by omega)]; omega)) c15
            have c16 := wd_keep ew_12 (tg_ne (tg := tg) (by rw [hT.2 16 (by omega), hT.2 11 (by omega)]; omega)) c16
            have c17 := wd_keep ew_12 (tg_ne (tg := tg) (by rw [hT.2 17 (by omega), hT.2 11 (by omega)]; omega)) c17
            have c11 : w_12 (C 11) = some (.inl (G.2.1 0, 40, .inl (upd (M 11) ((nI Ts.length) : Int32).toNatClampNeg (nI i)))) := wd_here ew_12
            rw [nI_clamp (by omega)] at c11
            refine lv_aload_n hx hb d_Mo_exception_58 rfl (lv_at hl 1 rfl) ?_
            refine wd_get S i_Mo hK hW ht0 rfl 17 (by decide) k_Mo_47 rfl rfl d_Mo_exception_59 ?_
            refine lv_iload_n hx hb d_Mo_exception_62 rfl (lv_at hl 0 rfl) ?_
            refine lv_aload_n hx hb d_Mo_exception_63 rfl (lv_at hl 1 rfl) ?_
            refine wd_get S i_Mo hK hW ht0 rfl 20 (by decide) k_Mo_94 rfl rfl d_Mo_exception_64 ?_
            refine wd_iast S hK hW 0 c12 rfl (vp_in_nI (by omega) (by omega)) d_Mo_exception_67 (fun H locs w_13 ew_13 hW => ?_)
            have hmk := mk_up hmk c12 ew_13 (by rw [hT.2 12 (by omega)]; omega)
            have ht0 := wd_keep ew_13 (wd_ne ht0 c12 (by simp)) ht0
            have c0 := wd_keep ew_13 (tg_ne (tg := tg) (by rw [hT.2 0 (by omega), hT.2 12 (by omega)]; omega)) c0
            have c1 := wd_keep ew_13 (tg_ne (tg := tg) (by rw [hT.2 1 (by omega), hT.2 12 (by omega)]; omega)) c1
            have c2 := wd_keep ew_13 (tg_ne (tg := tg) (by rw [hT.2 2 (by omega), hT.2 12 (by omega)]; omega)) c2
            have c3 := wd_keep ew_13 (tg_ne (tg := tg) (by rw [hT.2 3 (by omega), hT.2 12 (by omega)]; omega)) c3
            have c4 := wd_keep ew_13 (tg_ne (tg := tg) (by rw [hT.2 4 (by omega), hT.2 12 (by omega)]; omega)) c4
            have c5 := wd_keep ew_13 (tg_ne (tg := tg) (by rw [hT.2 5 (by omega), hT.2 12 (by omega)]; omega)) c5
            have c6 := wd_keep ew_13 (tg_ne (tg := tg) (by rw [hT.2 6 (by omega), hT.2 12 (by omega)]; omega)) c6
            have c7 := wd_keep ew_13 (tg_ne (tg := tg) (by rw [hT.2 7 (by omega), hT.2 12 (by omega)]; omega)) c7
            have c8 := wd_keep ew_13 (tg_ne (tg := tg) (by rw [hT.2 8 (by omega), hT.2 12 (by omega)]; omega)) c8
            have c9 := wd_keep ew_13 (tg_ne (tg := tg) (by rw [hT.2 9 (by omega), hT.2 12 (by omega)]; omega)) c9
            have c10 := wd_keep ew_13 (tg_ne (tg := tg) (by rw [hT.2 10 (by omega), hT.2 12 (by omega)]; omega)) c10
            have c11 := wd_keep ew_13 (tg_ne (tg := tg) (by rw [hT.2 11 (by omega), hT.2 12 (by omega)]; omega)) c11
            have c13 := wd_keep ew_13 (tg_ne (tg := tg) (by rw [hT.2 13 (by omega), hT.2 12 (by omega)]; omega)) c13
            have c14 := wd_keep ew_13 (tg_ne (tg := tg) (by rw [hT.2 14 (by omega), hT.2 12 (by omega)]; omega)) c14
            have c15 := wd_keep ew_13 (tg_ne (tg := tg) (by rw [hT.2 15 (by omega), hT.2 12 (by omega)]; omega)) c15
            have c16 := wd_keep ew_13 (tg_ne (tg := tg) (by rw [hT.2 16 (by omega), hT.2 12 (by omega)]; omega)) c16
            have c17 := wd_keep ew_13 (tg_ne (tg := tg) (by rw [hT.2 17 (by omega), hT.2 12 (by omega)]; omega)) c17
            have c12 : w_13 (C 12) = some (.inl (G.2.1 0, 40, .inl (upd (M 12) ((nI Ts.length) : Int32).toNatClampNeg (nI wd.length)))) := wd_here ew_13
            rw [nI_clamp (by omega)] at c12
            refine lv_iconst (v := 0) hx hb d_Mo_exception_68 (by decide) ?_
            refine lv_istore (lv' := [(4, .int 0), (3, .int (nI Ts.length)), (0, .ref t), (1, .int (nI i)), (2, .int y)]) hx hb d_Mo_exception_69 hl (by decide) rfl (fun ls hl => ?_)
            have hcA : mo_c G w_13 t C (fun k9 => if k9 = 12 then upd (M 12) Ts.length (nI wd.length) else if k9 = 11 then upd (M 11) Ts.length (nI i) else if k9 = 16 then g16 else M k9) (nI Ls.length) (nI ml.length) (nI Ps.length) (nI (hy_tot Ps)) (nI Ts.length) (nI (hy_let lg wd).length) (nI pl.length) := by rw [hll]; exact ⟨ht0, c0, c1, c2, c3, c4, c5, c6, c7, c8, c9, c10, c11, c12, c13, c14, c15, c16, c17⟩
            refine lo_Mo_exception (M := (fun k9 => if k9 = 12 then upd (M 12) Ts.length (nI wd.length) else if k9 = 11 then upd (M 11) Ts.length (nI i) else if k9 = 16 then g16 else M k9)) (lt := hy_let lg wd) (k := Ts.length) (y0 := y) S hE hcA hT hrt (by omega) hk40 (fun g13 w13 H locs r1 r2 ew13 hW ls hl => ?_) (wd.length + 1) 0 0 (M 13) _ _ _ _ (by omega) (Nat.zero_le _) nI_0.symm (fun j y hj => absurd hj (Nat.not_lt_zero j)) (fun _ _ => rfl) (up_id c13) hW (lv_sub hl [2, 4, 1, 0] rfl)
            have hmk := mk_up hmk c13 ew13 (by rw [hT.2 13 (by omega)]; omega)
            have c0 := wd_keep ew13 (tg_ne (tg := tg) (by rw [hT.2 0 (by omega), hT.2 13 (by omega)]; omega)) c0
            have c1 := wd_keep ew13 (tg_ne (tg := tg) (by rw [hT.2 1 (by omega), hT.2 13 (by omega)]; omega)) c1
            have c2 := wd_keep ew13 (tg_ne (tg := tg) (by rw [hT.2 2 (by omega), hT.2 13 (by omega)]; omega)) c2
            have c3 := wd_keep ew13 (tg_ne (tg := tg) (by rw [hT.2 3 (by omega), hT.2 13 (by omega)]; omega)) c3
            have c4 := wd_keep ew13 (tg_ne (tg := tg) (by rw [hT.2 4 (by omega), hT.2 13 (by omega)]; omega)) c4
            have c5 := wd_keep ew13 (tg_ne (tg := tg) (by rw [hT.2 5 (by omega), hT.2 13 (by omega)]; omega)) c5
            have c6 := wd_keep ew13 (tg_ne (tg := tg) (by rw [hT.2 6 (by omega), hT.2 13 (by omega)]; omega)) c6
            have c7 := wd_keep ew13 (tg_ne (tg := tg) (by rw [hT.2 7 (by omega), hT.2 13 (by omega)]; omega)) c7
            have c8 := wd_keep ew13 (tg_ne (tg := tg) (by rw [hT.2 8 (by omega), hT.2 13 (by omega)]; omega)) c8
            have c9 := wd_keep ew13 (tg_ne (tg := tg) (by rw [hT.2 9 (by omega), hT.2 13 (by omega)]; omega)) c9
            have c10 := wd_keep ew13 (tg_ne (tg := tg) (by rw [hT.2 10 (by omega), hT.2 13 (by omega)]; omega)) c10
            have c11 := wd_keep ew13 (tg_ne (tg := tg) (by rw [hT.2 11 (by omega), hT.2 13 (by omega)]; omega)) c11
            have c12 := wd_keep ew13 (tg_ne (tg := tg) (by rw [hT.2 12 (by omega), hT.2 13 (by omega)]; omega)) c12
            have c14 := wd_keep ew13 (tg_ne (tg := tg) (by rw [hT.2 14 (by omega), hT.2 13 (by omega)]; omega)) c14
            have c15 := wd_keep ew13 (tg_ne (tg := tg) (by rw [hT.2 15 (by omega), hT.2 13 (by omega)]; omega)) c15
            have c16 := wd_keep ew13 (tg_ne (tg := tg) (by rw [hT.2 16 (by omega), hT.2 13 (by omega)]; omega)) c16
            have c17 := wd_keep ew13 (tg_ne (tg := tg) (by rw [hT.2 17 (by omega), hT.2 13 (by omega)]; omega)) c17
            have ht0 := wd_keep ew13 (wd_ne ht0 c13 (by simp)) ht0
            have c13 := wd_here ew13
            refine lv_aload_n hx hb d_Mo_exception_107 rfl (lv_at hl 0 rfl) ?_
            refine lv_dup hx hb d_Mo_exception_108 rfl ?_
            refine wd_get S i_Mo hK hW ht0 rfl 15 (by decide) k_Mo_97 rfl rfl d_Mo_exception_109 ?_
            refine lv_iconst (v := 1) hx hb d_Mo_exception_112 (by decide) ?_
            refine lv_iadd hx hb d_Mo_exception_113 ?_
            refine lv_topi (fun ne ene => ?_)
            rw [nI_1] at ene
            refine wd_put S i_Mo t_Mo t_Mo_ok n_Mo hK hW ht0 rfl 15 (by decide) k_Mo_97 rfl rfl rfl rfl (Nat.le_of_ble_eq_true rfl) d_Mo_exception_114 (fun H locs w_14 ew_14 hW => ?_)
            have hmk := mk_up hmk ht0 ew_14 (by rw [hT.1]; omega)
            have c0 := wd_keep ew_14 (wd_ne c0 ht0 (by simp)) c0
            have c1 := wd_keep ew_14 (wd_ne c1 ht0 (by simp)) c1
            have c2 := wd_keep ew_14 (wd_ne c2 ht0 (by simp)) c2
            have c3 := wd_keep ew_14 (wd_ne c3 ht0 (by simp)) c3
            have c4 := wd_keep ew_14 (wd_ne c4 ht0 (by simp)) c4
            have c5 := wd_keep ew_14 (wd_ne c5 ht0 (by simp)) c5
            have c6 := wd_keep ew_14 (wd_ne c6 ht0 (by simp)) c6
            have c7 := wd_keep ew_14 (wd_ne c7 ht0 (by simp)) c7
            have c8 := wd_keep ew_14 (wd_ne c8 ht0 (by simp)) c8
            have c9 := wd_keep ew_14 (wd_ne c9 ht0 (by simp)) c9
            have c10 := wd_keep ew_14 (wd_ne c10 ht0 (by simp)) c10
            have c11 := wd_keep ew_14 (wd_ne c11 ht0 (by simp)) c11
            have c12 := wd_keep ew_14 (wd_ne c12 ht0 (by simp)) c12
            have c13 := wd_keep ew_14 (wd_ne c13 ht0 (by simp)) c13
            have c14 := wd_keep ew_14 (wd_ne c14 ht0 (by simp)) c14
            have c15 := wd_keep ew_14 (wd_ne c15 ht0 (by simp)) c15
            have c16 := wd_keep ew_14 (wd_ne c16 ht0 (by simp)) c16
            have c17 := wd_keep ew_14 (wd_ne c17 ht0 (by simp)) c17
            have ht0 : w_14 t = some (.inr (5, [.int (nI Ls.length), .ref (C 0), .ref (C 1), .ref (C 2), .ref (C 3), .ref (C 4), .int (nI ml.length), .ref (C 5), .ref (C 6), .int (nI Ps.length), .int (nI (hy_tot Ps)), .ref (C 7), .ref (C 8), .ref (C 9), .ref (C 10), .int ne, .ref (C 11), .ref (C 12), .ref (C 13), .ref (C 14), .int (nI wd.length), .ref (C 15), .ref (C 16), .int (nI pl.length), .ref (C 17)])) := wd_here ew_14
            rw [ene] at ht0
            refine lv_aload_n hx hb d_Mo_exception_117 rfl (lv_at hl 0 rfl) ?_
            refine wd_get S i_Mo hK hW ht0 rfl 19 (by decide) k_Mo_53 rfl rfl d_Mo_exception_118 ?_
            refine lv_iload_n hx hb d_Mo_exception_121 rfl (lv_at hl 2 rfl) ?_
            refine lv_iload_n hx hb d_Mo_exception_122 rfl (lv_at hl 1 rfl) ?_
            refine wd_iast S hK hW 0 c14 rfl (vp_in_nI (by omega) (by omega)) d_Mo_exception_123 (fun H locs w_15 ew_15 hW => ?_)
            have hmk := mk_up hmk c14 ew_15 (by rw [hT.2 14 (by omega)]; omega)
            have ht0 := wd_keep ew_15 (wd_ne ht0 c14 (by simp)) ht0
            have c0 := wd_keep ew_15 (tg_ne (tg := tg) (by rw [hT.2 0 (by omega), hT.2 14 (by omega)]; omega)) c0
            have c1 := wd_keep ew_15 (tg_ne (tg := tg) (by rw [hT.2 1 (by omega), hT.2 14 (by omega)]; omega)) c1
            have c2 := wd_keep ew_15 (tg_ne (tg := tg) (by rw [hT.2 2 (by omega), hT.2 14 (by omega)]; omega)) c2
            have c3 := wd_keep ew_15 (tg_ne (tg := tg) (by rw [hT.2 3 (by omega), hT.2 14 (by omega)]; omega)) c3
            have c4 := wd_keep ew_15 (tg_ne (tg := tg) (by rw [hT.2 4 (by omega), hT.2 14 (by omega)]; omega)) c4
            have c5 := wd_keep ew_15 (tg_ne (tg := tg) (by rw [hT.2 5 (by omega), hT.2 14 (by omega)]; omega)) c5
            have c6 := wd_keep ew_15 (tg_ne (tg := tg) (by rw [hT.2 6 (by omega), hT.2 14 (by omega)]; omega)) c6
            have c7 := wd_keep ew_15 (tg_ne (tg := tg) (by rw [hT.2 7 (by omega), hT.2 14 (by omega)]; omega)) c7
            have c8 := wd_keep ew_15 (tg_ne (tg := tg) (by rw [hT.2 8 (by omega), hT.2 14 (by omega)]; omega)) c8
            have c9 := wd_keep ew_15 (tg_ne (tg := tg) (by rw [hT.2 9 (by omega), hT.2 14 (by omega)]; omega)) c9
            have c10 := wd_keep ew_15 (tg_ne (tg := tg) (by rw [hT.2 10 (by omega), hT.2 14 (by omega)]; omega)) c10
            have c11 := wd_keep ew_15 (tg_ne (tg := tg) (by rw [hT.2 11 (by omega), hT.2 14 (by omega)]; omega)) c11
            have c12 := wd_keep ew_15 (tg_ne (tg := tg) (by rw [hT.2 12 (by omega), hT.2 14 (by omega)]; omega)) c12
            have c13 := wd_keep ew_15 (tg_ne (tg := tg) (by rw [hT.2 13 (by omega), hT.2 14 (by omega)]; omega)) c13
            have c15 := wd_keep ew_15 (tg_ne (tg := tg) (by rw [hT.2 15 (by omega), hT.2 14 (by omega)]; omega)) c15
            have c16 := wd_keep ew_15 (tg_ne (tg := tg) (by rw [hT.2 16 (by omega), hT.2 14 (by omega)]; omega)) c16
            have c17 := wd_keep ew_15 (tg_ne (tg := tg) (by rw [hT.2 17 (by omega), hT.2 14 (by omega)]; omega)) c17
            have c14 : w_15 (C 14) = some (.inl (G.2.1 0, 40, .inl (upd (M 14) ((nI Ts.length) : Int32).toNatClampNeg y))) := wd_here ew_15
            rw [nI_clamp (by omega)] at c14
            refine lv_iload_n hx hb d_Mo_exception_124 rfl (lv_at hl 2 rfl) ?_
            have hta : mo_t (Ts ++ [(i, hy_let lg wd, y)]) (fun k9 => if k9 = 14 then upd (M 14) Ts.length y else if k9 = 13 then g13 else if k9 = 12 then upd (M 12) Ts.length (nI wd.length) else if k9 = 11 then upd (M 11) Ts.length (nI i) else if k9 = 16 then g16 else M k9) := mo_t_add (p := (i, hy_let lg wd, y)) hq0 (fun p hp => (wts p hp).2) rfl (by show upd (M 12) Ts.length (nI wd.length) = _; rw [hll]) r1 r2 rfl
            have hcF : mo_c G w_15 t C (fun k9 => if k9 = 14 then upd (M 14) Ts.length y else if k9 = 13 then g13 else if k9 = 12 then upd (M 12) Ts.length (nI wd.length) else if k9 = 11 then upd (M 11) Ts.length (nI i) else if k9 = 16 then g16 else M k9) (nI Ls.length) (nI ml.length) (nI Ps.length) (nI (hy_tot Ps)) (nI (Ts ++ [(i, hy_let lg wd, y)]).length) (nI wd.length) (nI pl.length) := by rw [List.length_append]; exact ⟨ht0, c0, c1, c2, c3, c4, c5, c6, c7, c8, c9, c10, c11, c12, c13, c14, c15, c16, c17⟩
            exact ct_iret S hr rfl hlocks hW (⟨(Ls, Ps, Ts ++ [(i, hy_let lg wd, y)], ml, md, wd, pl), Or.inr ⟨hnm0, i, lg, rfl, hlgi, Or.inr (Or.inr (Or.inr ⟨hsp, hfm1, hk40, rfl, rfl⟩))⟩, ⟨C, (fun k9 => if k9 = 14 then upd (M 14) Ts.length y else if k9 = 13 then g13 else if k9 = 12 then upd (M 12) Ts.length (nI wd.length) else if k9 = 11 then upd (M 11) Ts.length (nI i) else if k9 = 16 then g16 else M k9), hcF, hT, (mo_lc hl0 (fun k9 h2 => by show (if k9 = 14 then upd (M 14) Ts.length y else if k9 = 13 then g13 else if k9 = 12 then upd (M 12) Ts.length (nI wd.length) else if k9 = 11 then upd (M 11) Ts.length (nI i) else if k9 = 16 then g16 else M k9) = M k9; rw [if_neg (by omega), if_neg (by omega), if_neg (by omega), if_neg (by omega), if_neg (by omega)])), (mo_pc hp0 (fun k9 h1 h2 => by show (if k9 = 14 then upd (M 14) Ts.length y else if k9 = 13 then g13 else if k9 = 12 then upd (M 12) Ts.length (nI wd.length) else if k9 = 11 then upd (M 11) Ts.length (nI i) else if k9 = 16 then g16 else M k9) = M k9; rw [if_neg (by omega), if_neg (by omega), if_neg (by omega), if_neg (by omega), if_neg (by omega)])), hta, hml, hmd, hwd, hpl⟩, hmk⟩) (Nat.le_of_ble_eq_true rfl) (Nat.le_of_ble_eq_true rfl) d_Mo_exception_125
        · have hk40 : k = 40 := (nI_eq (b := 40) (by omega) (by omega)).mp h37
          refine lv_bipush (v := -2) hx hb d_Mo_exception_40 (by decide) ?_
          have hcF : mo_c G u_5 t C (fun k9 => if k9 = 16 then g16 else M k9) (nI Ls.length) (nI ml.length) (nI Ps.length) (nI (hy_tot Ps)) (nI Ts.length) (nI wd.length) (nI pl.length) := ⟨ht0, c0, c1, c2, c3, c4, c5, c6, c7, c8, c9, c10, c11, c12, c13, c14, c15, c16, c17⟩
          exact ct_iret S hr rfl hlocks hW (⟨(Ls, Ps, Ts, ml, md, wd, pl), Or.inr ⟨hnm0, i, lg, rfl, hlgi, Or.inr (Or.inr (Or.inl ⟨hsp, Or.inl ⟨rfl, fun j p hj => hno j p (by have h9 : j < Ts.length := (List.getElem?_eq_some_iff.mp hj).1; omega) hj⟩, fun q => by have q : Ts.length < 40 := q; omega, rfl, rfl⟩))⟩, ⟨C, (fun k9 => if k9 = 16 then g16 else M k9), hcF, hT, (mo_lc hl0 (fun k9 h2 => by show (if k9 = 16 then g16 else M k9) = M k9; rw [if_neg (by omega)])), (mo_pc hp0 (fun k9 h1 h2 => by show (if k9 = 16 then g16 else M k9) = M k9; rw [if_neg (by omega)])), (mo_tc hq0 (fun k9 h1 h2 => by show (if k9 = 16 then g16 else M k9) = M k9; rw [if_neg (by omega)])), hml, hmd, hwd, hpl⟩, hmk⟩) (Nat.le_of_ble_eq_true rfl) (Nat.le_of_ble_eq_true rfl) d_Mo_exception_42
      · refine lv_bipush (v := -3) hx hb d_Mo_exception_25 (by decide) ?_
        have hcF : mo_c G u_5 t C (fun k9 => if k9 = 16 then g16 else M k9) (nI Ls.length) (nI ml.length) (nI Ps.length) (nI (hy_tot Ps)) (nI Ts.length) (nI wd.length) (nI pl.length) := ⟨ht0, c0, c1, c2, c3, c4, c5, c6, c7, c8, c9, c10, c11, c12, c13, c14, c15, c16, c17⟩
        exact ct_iret S hr rfl hlocks hW (⟨(Ls, Ps, Ts, ml, md, wd, pl), Or.inr ⟨hnm0, i, lg, rfl, hlgi, Or.inl ⟨fun q => bl_f hv6 h22 q.2, rfl, rfl⟩⟩, ⟨C, (fun k9 => if k9 = 16 then g16 else M k9), hcF, hT, (mo_lc hl0 (fun k9 h2 => by show (if k9 = 16 then g16 else M k9) = M k9; rw [if_neg (by omega)])), (mo_pc hp0 (fun k9 h1 h2 => by show (if k9 = 16 then g16 else M k9) = M k9; rw [if_neg (by omega)])), (mo_tc hq0 (fun k9 h1 h2 => by show (if k9 = 16 then g16 else M k9) = M k9; rw [if_neg (by omega)])), hml, hmd, hwd, hpl⟩, hmk⟩) (Nat.le_of_ble_eq_true rfl) (Nat.le_of_ble_eq_true rfl) d_Mo_exception_27
  · refine lv_iconst (v := -1) hx hb d_Mo_exception_8 (by decide) ?_
    exact ct_iret S hr rfl hlocks hW (⟨_, Or.inl ⟨fun q => bl_f hv h5 q, rfl, rfl⟩, h, mk_rf⟩) (Nat.le_of_ble_eq_true rfl) (Nat.le_of_ble_eq_true rfl) d_Mo_exception_9

set_option maxHeartbeats 4000000 in
set_option maxRecDepth 100000 in
/-- the inner loop of drop -/
theorem lo_Mo_dropB {p_ : Program} {l : Launch} {e_ : Env} {s : State} {m : MethodId} {args : Array Value} {below : List Frame} {meth : Method} {c_ : Code} {Q : State → Prop} {G : ev_G} {A : Nat → Prop} (S : CallFix p_ m c_ b_Mo_drop 4 s args lw_good "HyphenRowsModel") (hE : ev_K G A s s.heap) {w : wd_M} {t e lo : Nat} {C : Nat → Nat} {M : Nat → Nat → Int32} {ln mk pn tn en sn qn x1 : Int32} {f : Nat → Int32} (hc : mo_c G w t C M ln mk pn tn en sn qn) (he : e < 39) (hlo : lo ≤ 30 * e) (kk : ∀ (g : Nat → Int32) (w1 : wd_M) (H : Heap) (locs : List Loc), (∀ q, g q = sh_ 30 f lo (30 * e + 30) q) → w1 = va_up w (C 13) (some (.inl (G.2.1 0, 1200, .inl g))) → wd_W G.1 ev_cl A w1 s.heap H locs → ∀ ls : Array Slot, lv_has ls 4 [(0, .ref t), (1, .int x1), (2, .int (nI e))] → W p_ l e_ (rm_ 0 0 0) s m args below meth c_ H locs 0 0 Q (F0 m 115 ls [])) :
    ∀ (fu : Nat) (j : Nat) (xi : Int32) (g : Nat → Int32) (w1 : wd_M) (H : Heap) (locs : List Loc) (ls : Array Slot), 30 < j + fu → j ≤ 30 → xi = nI j → (∀ q, g q = sh_ 30 f lo (30 * e + j) q) → w1 = va_up w (C 13) (some (.inl (G.2.1 0, 1200, .inl g))) → wd_W G.1 ev_cl A w1 s.heap H locs → lv_has ls 4 [(0, .ref t), (1, .int x1), (2, .int (nI e)), (3, .int xi)] → W p_ l e_ (rm_ 0 0 0) s m args below meth c_ H locs 0 0 Q (F0 m 78 ls []) := by
  have hx := S.1
  have hb := S.2.1
  have hK := hE.1
  intro fu
  induction fu with
  | zero =>
    intro j xi g w1 H locs ls hfu hi exi h1 ew hW hl
    exact absurd hfu (by omega)
  | succ fu ih =>
    intro j xi g w1 H locs ls hfu hi exi h1 ew hW hl
    obtain ⟨ht0, -, -, -, -, -, -, -, -, -, -, -, -, -, c13, -⟩ := id hc
    have ht0 := wd_keep ew (wd_ne ht0 c13 (by simp)) ht0
    have c13 := wd_here ew
    refine lv_iload_n hx hb d_Mo_drop_78 rfl (lv_at hl 3 rfl) ?_
    refine lv_bipush (v := 30) hx hb d_Mo_drop_79 (by decide) ?_
    refine lv_icmp_ge (tgt := 115) hx hb d_Mo_drop_81 (by decide) (fun hz => ?_) (fun hz => ?_)
    · have hin9 : j = 30 := by rw [exi] at hz; have := (nI_leI (a := 30) (b := j) (by omega) (by omega)).mp hz; omega
      exact kk g w1 H locs (by rw [hin9] at h1; exact h1) ew hW ls (lv_sub hl [0, 1, 2] rfl)
    · have hlt : j < 30 := by rw [exi] at hz; exact Nat.lt_of_not_le (fun q => hz (nI_le (a := 30) q (by omega)))
      refine lv_aload_n hx hb d_Mo_drop_84 rfl (lv_at hl 0 rfl) ?_
      refine wd_get S i_Mo hK hW ht0 rfl 18 (by decide) k_Mo_50 rfl rfl d_Mo_drop_85 ?_
      refine lv_bipush (v := 30) hx hb d_Mo_drop_88 (by decide) ?_
      refine lv_iload_n hx hb d_Mo_drop_90 rfl (lv_at hl 2 rfl) ?_
      refine lv_imul hx hb d_Mo_drop_91 ?_
      refine lv_iload_n hx hb d_Mo_drop_92 rfl (lv_at hl 3 rfl) ?_
      refine lv_iadd hx hb d_Mo_drop_93 ?_
      refine lv_aload_n hx hb d_Mo_drop_94 rfl (lv_at hl 0 rfl) ?_
      refine wd_get S i_Mo hK hW ht0 rfl 18 (by decide) k_Mo_50 rfl rfl d_Mo_drop_95 ?_
      refine lv_bipush (v := 30) hx hb d_Mo_drop_98 (by decide) ?_
      refine lv_iload_n hx hb d_Mo_drop_100 rfl (lv_at hl 2 rfl) ?_
      refine lv_imul hx hb d_Mo_drop_101 ?_
      refine lv_bipush (v := 30) hx hb d_Mo_drop_102 (by decide) ?_
      refine lv_iadd hx hb d_Mo_drop_104 ?_
      refine lv_iload_n hx hb d_Mo_drop_105 rfl (lv_at hl 3 rfl) ?_
      refine lv_iadd hx hb d_Mo_drop_106 ?_
      rw [show (30 : Int32) * nI e + xi = nI (30 * e + j) from by rw [exi]; exact ix_30 e j, show (30 : Int32) * nI e + 30 + xi = nI (30 * e + j + 30) from by rw [exi, show (30 : Int32) * nI e + 30 = nI (30 * e + 30) from by rw [show (30 : Int32) = nI 30 from rfl, pk_mul, nI_add], nI_add, show 30 * e + 30 + j = 30 * e + j + 30 by omega]]
      refine wd_iald S hK hW 0 c13 rfl (vp_in_nI (by omega) (by omega)) d_Mo_drop_107 ?_
      rw [nI_clamp (n := 30 * e + j + 30) (by omega)]
      refine lv_topi (fun y0 ey0 => ?_)
      refine wd_iast S hK hW 0 c13 rfl (vp_in_nI (by omega) (by omega)) d_Mo_drop_108 (fun H locs w_1 ew_1 hW => ?_)
      have ht0 := wd_keep ew_1 (wd_ne ht0 c13 (by simp)) ht0
      have c13 : w_1 (C 13) = some (.inl (G.2.1 0, 1200, .inl (upd g ((nI (30 * e + j)) : Int32).toNatClampNeg y0))) := wd_here ew_1
      obtain ⟨xi2, exi2⟩ : ∃ y : Int32, y = xi + 1 := ⟨_, rfl⟩
      refine lv_iinc (v := xi2) (lv' := [(3, .int xi2), (0, .ref t), (1, .int x1), (2, .int (nI e))]) hx hb d_Mo_drop_109 hl (k := 3) rfl (by rw [exi2]; rfl) (by decide) rfl (fun ls hl => ?_)
      refine lv_goto (tgt := 78) hx hb d_Mo_drop_112 (by decide) ?_
      exact ih (j + 1) xi2 (upd g (nI (30 * e + j)).toNatClampNeg y0) _ _ _ _ (by omega) (by omega) (by rw [exi2, exi]; exact nI_1 j) (by rw [nI_clamp (by omega), ey0]; exact sh_s h1 (by omega) (by omega)) (by rw [ew_1, ew]; exact bx_uu _ _ _ _) hW (lv_sub hl [1, 2, 3, 0] rfl)

set_option maxHeartbeats 4000000 in
set_option maxRecDepth 100000 in
/-- the loop of drop -/
theorem lo_Mo_drop {p_ : Program} {l : Launch} {e_ : Env} {s : State} {m : MethodId} {args : Array Value} {below : List Frame} {meth : Method} {c_ : Code} {Q : State → Prop} {G : ev_G} {A : Nat → Prop} (S : CallFix p_ m c_ b_Mo_drop 4 s args lw_good "HyphenRowsModel") (hE : ev_K G A s s.heap) {w : wd_M} {t k n : Nat} {C : Nat → Nat} {Mz : Nat → Nat → Int32} {ln mk pn tn sn qn x1 : Int32} {tg : Nat → Nat} (hT : mo_g tg t C) (hk : k < n) (hn : n ≤ 40) (kk : ∀ (M : Nat → Nat → Int32) (w1 : wd_M) (H : Heap) (locs : List Loc), (∀ q, M 11 q = sh_ 1 (Mz 11) k (n - 1) q) → (∀ q, M 12 q = sh_ 1 (Mz 12) k (n - 1) q) → (∀ q, M 13 q = sh_ 30 (Mz 13) (30 * k) (30 * (n - 1)) q) → (∀ q, M 14 q = sh_ 1 (Mz 14) k (n - 1) q) → (∀ j, (j < 11 ∨ 15 ≤ j) → M j = Mz j) → mo_c G w1 t C M ln mk pn tn (nI (n - 1)) sn qn → mk_ w w1 tg → wd_W G.1 ev_cl A w1 s.heap H locs → ∀ ls : Array Slot, lv_has ls 4 [(0, .ref t)] → W p_ l e_ (rm_ 0 0 0) s m args below meth c_ H locs 0 0 Q (F0 m 121 ls [])) :
    ∀ (fu : Nat) (e : Nat) (xi : Int32) (M : Nat → Nat → Int32) (w1 : wd_M) (H : Heap) (locs : List Loc) (ls : Array Slot), n - 1 < e + fu → k ≤ e → e ≤ n - 1 → xi = nI e → (∀ q, M 11 q = sh_ 1 (Mz 11) k e q) → (∀ q, M 12 q = sh_ 1 (Mz 12) k e q) → (∀ q, M 13 q = sh_ 30 (Mz 13) (30 * k) (30 * e) q) → (∀ q, M 14 q = sh_ 1 (Mz 14) k e q) → (∀ j, (j < 11 ∨ 15 ≤ j) → M j = Mz j) → mo_c G w1 t C M ln mk pn tn (nI (n - 1)) sn qn → mk_ w w1 tg → wd_W G.1 ev_cl A w1 s.heap H locs → lv_has ls 4 [(0, .ref t), (1, .int x1), (2, .int xi)] → W p_ l e_ (rm_ 0 0 0) s m args below meth c_ H locs 0 0 Q (F0 m 26 ls []) := by
  have hx := S.1
  have hb := S.2.1
  have hK := hE.1
  intro fu
  induction fu with
  | zero =>
    intro e xi M w1 H locs ls hfu he1 he2 exi h11 h12 h13 h14 hoth hc0 hmk hW hl
    exact absurd hfu (by omega)
  | succ fu ih =>
    intro e xi M w1 H locs ls hfu he1 he2 exi h11 h12 h13 h14 hoth hc0 hmk hW hl
    obtain ⟨ht0, c0, c1, c2, c3, c4, c5, c6, c7, c8, c9, c10, c11, c12, c13, c14, c15, c16, c17⟩ := id hc0
    refine lv_iload_n hx hb d_Mo_drop_26 rfl (lv_at hl 2 rfl) ?_
    refine lv_aload_n hx hb d_Mo_drop_27 rfl (lv_at hl 0 rfl) ?_
    refine wd_get S i_Mo hK hW ht0 rfl 15 (by decide) k_Mo_97 rfl rfl d_Mo_drop_28 ?_
    refine lv_icmp_ge (tgt := 121) hx hb d_Mo_drop_31 (by decide) (fun hz => ?_) (fun hz => ?_)
    · have hin9 : e = n - 1 := by rw [exi] at hz; have := (nI_leI (by omega) (by omega)).mp hz; omega
      subst hin9
      exact kk M w1 H locs h11 h12 h13 h14 hoth hc0 hmk hW ls (lv_sub hl [0] rfl)
    · have hlt : e < n - 1 := by rw [exi] at hz; exact Nat.lt_of_not_le (fun q => hz (nI_le q (by omega)))
      rw [exi] at hl
      refine lv_aload_n hx hb d_Mo_drop_34 rfl (lv_at hl 0 rfl) ?_
      refine wd_get S i_Mo hK hW ht0 rfl 16 (by decide) k_Mo_44 rfl rfl d_Mo_drop_35 ?_
      refine lv_iload_n hx hb d_Mo_drop_38 rfl (lv_at hl 2 rfl) ?_
      refine lv_aload_n hx hb d_Mo_drop_39 rfl (lv_at hl 0 rfl) ?_
      refine wd_get S i_Mo hK hW ht0 rfl 16 (by decide) k_Mo_44 rfl rfl d_Mo_drop_40 ?_
      refine lv_iload_n hx hb d_Mo_drop_43 rfl (lv_at hl 2 rfl) ?_
      refine lv_iconst (v := 1) hx hb d_Mo_drop_44 (by decide) ?_
      refine lv_iadd hx hb d_Mo_drop_45 ?_
      rw [nI_1]
      refine wd_iald S hK hW 0 c11 rfl (vp_in_nI (by omega) (by omega)) d_Mo_drop_46 ?_
      rw [nI_clamp (n := e + 1) (by omega)]
      refine lv_topi (fun y11 ey11 => ?_)
      refine wd_iast S hK hW 0 c11 rfl (vp_in_nI (by omega) (by omega)) d_Mo_drop_47 (fun H locs w_1 ew_1 hW => ?_)
      have hmk := mk_up hmk c11 ew_1 (by rw [hT.2 11 (by omega)]; omega)
      have ht0 := wd_keep ew_1 (wd_ne ht0 c11 (by simp)) ht0
      have c0 := wd_keep ew_1 (tg_ne (tg := tg) (by rw [hT.2 0 (by omega), hT.2 11 (by omega)]; omega)) c0
      have c1 := wd_keep ew_1 (tg_ne (tg := tg) (by rw [hT.2 1 (by omega), hT.2 11 (by omega)]; omega)) c1
      have c2 := wd_keep ew_1 (tg_ne (tg := tg) (by rw [hT.2 2 (by omega), hT.2 11 (by omega)]; omega)) c2
      have c3 := wd_keep ew_1 (tg_ne (tg := tg) (by rw [hT.2 3 (by omega), hT.2 11 (by omega)]; omega)) c3
      have c4 := wd_keep ew_1 (tg_ne (tg := tg) (by rw [hT.2 4 (by omega), hT.2 11 (by omega)]; omega)) c4
      have c5 := wd_keep ew_1 (tg_ne (tg := tg) (by rw [hT.2 5 (by omega), hT.2 11 (by omega)]; omega)) c5
      have c6 := wd_keep ew_1 (tg_ne (tg := tg) (by rw [hT.2 6 (by omega), hT.2 11 (by omega)]; omega)) c6
      have c7 := wd_keep ew_1 (tg_ne (tg := tg) (by rw [hT.2 7 (by omega), hT.2 11 (by omega)]; omega)) c7
      have c8 := wd_keep ew_1 (tg_ne (tg := tg) (by rw [hT.2 8 (by omega), hT.2 11 (by omega)]; omega)) c8
      have c9 := wd_keep ew_1 (tg_ne (tg := tg) (by rw [hT.2 9 (by omega), hT.2 11 (by omega)]; omega)) c9
      have c10 := wd_keep ew_1 (tg_ne (tg := tg) (by rw [hT.2 10 (by omega), hT.2 11 (by omega)]; omega)) c10
      have c12 := wd_keep ew_1 (tg_ne (tg := tg) (by rw [hT.2 12 (by omega), hT.2 11 (by omega)]; omega)) c12
      have c13 := wd_keep ew_1 (tg_ne (tg := tg) (by rw [hT.2 13 (by omega), hT.2 11 (by omega)]; omega)) c13
      have c14 := wd_keep ew_1 (tg_ne (tg := tg) (by rw [hT.2 14 (by omega), hT.2 11 (by omega)]; omega)) c14
      have c15 := wd_keep ew_1 (tg_ne (tg := tg) (by rw [hT.2 15 (by omega), hT.2 11 (by omega)]; omega)) c15
      have c16 := wd_keep ew_1 (tg_ne (tg := tg) (by rw [hT.2 16 (by omega), hT.2 11 (by omega)]; omega)) c16
      have c17 := wd_keep ew_1 (tg_ne (tg := tg) (by rw [hT.2 17 (by omega), hT.2 11 (by omega)]; omega)) c17
      have c11 : w_1 (C 11) = some (.inl (G.2.1 0, 40, .inl (upd (M 11) ((nI e) : Int32).toNatClampNeg y11))) := wd_here ew_1
      rw [nI_clamp (by omega)] at c11
      refine lv_aload_n hx hb d_Mo_drop_48 rfl (lv_at hl 0 rfl) ?_
      refine wd_get S i_Mo hK hW ht0 rfl 17 (by decide) k_Mo_47 rfl rfl d_Mo_drop_49 ?_
      refine lv_iload_n hx hb d_Mo_drop_52 rfl (lv_at hl 2 rfl) ?_
      refine lv_aload_n hx hb d_Mo_drop_53 rfl (lv_at hl 0 rfl) ?_
      refine wd_get S i_Mo hK hW ht0 rfl 17 (by decide) k_Mo_47 rfl rfl d_Mo_drop_54 ?_
      refine lv_iload_n hx hb d_Mo_drop_57 rfl (lv_at hl 2 rfl) ?_
      refine lv_iconst (v := 1) hx hb d_Mo_drop_58 (by decide) ?_
      refine lv_iadd hx hb d_Mo_drop_59 ?_
      rw [nI_1]
      refine wd_iald S hK hW 0 c12 rfl (vp_in_nI (by omega) (by omega)) d_Mo_drop_60 ?_
      rw [nI_clamp (n := e + 1) (by omega)]
      refine lv_topi (fun y12 ey12 => ?_)
      refine wd_iast S hK hW 0 c12 rfl (vp_in_nI (by omega) (by omega)) d_Mo_drop_61 (fun H locs w_2 ew_2 hW => ?_)
      have hmk := mk_up hmk c12 ew_2 (by rw [hT.2 12 (by omega)]; omega)
      have ht0 := wd_keep ew_2 (wd_ne ht0 c12 (by simp)) ht0
      have c0 := wd_keep ew_2 (tg_ne (tg := tg) (by rw [hT.2 0 (by omega), hT.2 12 (by omega)]; omega)) c0
      have c1 := wd_keep ew_2 (tg_ne (tg := tg) (by rw [hT.2 1 (by omega), hT.2 12 (by omega)]; omega)) c1
      have c2 := wd_keep ew_2 (tg_ne (tg := tg) (by rw [hT.2 2 (by omega), hT.2 12 (by omega)]; omega)) c2
      have c3 := wd_keep ew_2 (tg_ne (tg := tg) (by rw [hT.2 3 (by omega), hT.2 12 (by omega)]; omega)) c3
      have c4 := wd_keep ew_2 (tg_ne (tg := tg) (by rw [hT.2 4 (by omega), hT.2 12 (by omega)]; omega)) c4
      have c5 := wd_keep ew_2 (tg_ne (tg := tg) (by rw [hT.2 5 (by omega), hT.2 12 (by omega)]; omega)) c5
      have c6 := wd_keep ew_2 (tg_ne (tg := tg) (by rw [hT.2 6 (by omega), hT.2 12 (by omega)]; omega)) c6
      have c7 := wd_keep ew_2 (tg_ne (tg := tg) (by rw [hT.2 7 (by omega), hT.2 12 (by omega)]; omega)) c7
      have c8 := wd_keep ew_2 (tg_ne (tg := tg) (by rw [hT.2 8 (by omega), hT.2 12 (by omega)]; omega)) c8
      have c9 := wd_keep ew_2 (tg_ne (tg := tg) (by rw [hT.2 9 (by omega), hT.2 12 (by omega)]; omega)) c9
      have c10 := wd_keep ew_2 (tg_ne (tg := tg) (by rw [hT.2 10 (by omega), hT.2 12 (by omega)]; omega)) c10
      have c11 := wd_keep ew_2 (tg_ne (tg := tg) (by rw [hT.2 11 (by omega), hT.2 12 (by omega)]; omega)) c11
      have c13 := wd_keep ew_2 (tg_ne (tg := tg) (by rw [hT.2 13 (by omega), hT.2 12 (by omega)]; omega)) c13
      have c14 := wd_keep ew_2 (tg_ne (tg := tg) (by rw [hT.2 14 (by omega), hT.2 12 (by omega)]; omega)) c14
      have c15 := wd_keep ew_2 (tg_ne (tg := tg) (by rw [hT.2 15 (by omega), hT.2 12 (by omega)]; omega)) c15
      have c16 := wd_keep ew_2 (tg_ne (tg := tg) (by rw [hT.2 16 (by omega), hT.2 12 (by omega)]; omega)) c16
      have c17 := wd_keep ew_2 (tg_ne (tg := tg) (by rw [hT.2 17 (by omega), hT.2 12 (by omega)]; omega)) c17
      have c12 : w_2 (C 12) = some (.inl (G.2.1 0, 40, .inl (upd (M 12) ((nI e) : Int32).toNatClampNeg y12))) := wd_here ew_2
      rw [nI_clamp (by omega)] at c12
      refine lv_aload_n hx hb d_Mo_drop_62 rfl (lv_at hl 0 rfl) ?_
      refine wd_get S i_Mo hK hW ht0 rfl 19 (by decide) k_Mo_53 rfl rfl d_Mo_drop_63 ?_
      refine lv_iload_n hx hb d_Mo_drop_66 rfl (lv_at hl 2 rfl) ?_
      refine lv_aload_n hx hb d_Mo_drop_67 rfl (lv_at hl 0 rfl) ?_
      refine wd_get S i_Mo hK hW ht0 rfl 19 (by decide) k_Mo_53 rfl rfl d_Mo_drop_68 ?_
      refine lv_iload_n hx hb d_Mo_drop_71 rfl (lv_at hl 2 rfl) ?_
      refine lv_iconst (v := 1) hx hb d_Mo_drop_72 (by decide) ?_
      refine lv_iadd hx hb d_Mo_drop_73 ?_
      rw [nI_1]
      refine wd_iald S hK hW 0 c14 rfl (vp_in_nI (by omega) (by omega)) d_Mo_drop_74 ?_
      rw [nI_clamp (n := e + 1) (by omega)]
      refine lv_topi (fun y14 ey14 => ?_)
      refine wd_iast S hK hW 0 c14 rfl (vp_in_nI (by omega) (by omega)) d_Mo_drop_75 (fun H locs w_3 ew_3 hW => ?_)
      have hmk := mk_up hmk c14 ew_3 (by rw [hT.2 14 (by omega)]; omega)
      have ht0 := wd_keep ew_3 (wd_ne ht0 c14 (by simp)) ht0
      have c0 := wd_keep ew_3 (tg_ne (tg := tg) (by rw [hT.2 0 (by omega), hT.2 14 (by omega)]; omega)) c0
      have c1 := wd_keep ew_3 (tg_ne (tg := tg) (by rw [hT.2 1 (by omega), hT.2 14 (by omega)]; omega)) c1
      have c2 := wd_keep ew_3 (tg_ne (tg := tg) (by rw [hT.2 2 (by omega), hT.2 14 (by omega)]; omega)) c2
      have c3 := wd_keep ew_3 (tg_ne (tg := tg) (by rw [hT.2 3 (by omega), hT.2 14 (by omega)]; omega)) c3
      have c4 := wd_keep ew_3 (tg_ne (tg := tg) (by rw [hT.2 4 (by omega), hT.2 14 (by omega)]; omega)) c4
      have c5 := wd_keep ew_3 (tg_ne (tg := tg) (by rw [hT.2 5 (by omega), hT.2 14 (by omega)]; omega)) c5
      have c6 := wd_keep ew_3 (tg_ne (tg := tg) (by rw [hT.2 6 (by omega), hT.2 14 (by omega)]; omega)) c6
      have c7 := wd_keep ew_3 (tg_ne (tg := tg) (by rw [hT.2 7 (by omega), hT.2 14 (by omega)]; omega)) c7
      have c8 := wd_keep ew_3 (tg_ne (tg := tg) (by rw [hT.2 8 (by omega), hT.2 14 (by omega)]; omega)) c8
      have c9 := wd_keep ew_3 (tg_ne (tg := tg) (by rw [hT.2 9 (by omega), hT.2 14 (by omega)]; omega)) c9
      have c10 := wd_keep ew_3 (tg_ne (tg := tg) (by rw [hT.2 10 (by omega), hT.2 14 (by omega)]; omega)) c10
      have c11 := wd_keep ew_3 (tg_ne (tg := tg) (by rw [hT.2 11 (by omega), hT.2 14 (by omega)]; omega)) c11
      have c12 := wd_keep ew_3 (tg_ne (tg := tg) (by rw [hT.2 12 (by omega), hT.2 14 (by omega)]; omega)) c12
      have c13 := wd_keep ew_3 (tg_ne (tg := tg) (by rw [hT.2 13 (by omega), hT.2 14 (by omega)]; omega)) c13
      have c15 := wd_keep ew_3 (tg_ne (tg := tg) (by rw [hT.2 15 (by omega), hT.2 14 (by omega)]; omega)) c15
      have c16 := wd_keep ew_3 (tg_ne (tg := tg) (by rw [hT.2 16 (by omega), hT.2 14 (by omega)]; omega)) c16
      have c17 := wd_keep ew_3 (tg_ne (tg := tg) (by rw [hT.2 17 (by omega), hT.2 14 (by omega)]; omega)) c17
      have c14 : w_3 (C 14) = some (.inl (G.2.1 0, 40, .inl (upd (M 14) ((nI e) : Int32).toNatClampNeg y14))) := wd_here ew_3
      rw [nI_clamp (by omega)] at c14
      refine lv_iconst (v := 0) hx hb d_Mo_drop_76 (by decide) ?_
      refine lv_istore_n (lv' := [(3, .int 0), (0, .ref t), (1, .int x1), (2, .int (nI e))]) hx hb d_Mo_drop_77 rfl hl (by decide) rfl (fun ls hl => ?_)
      have hcA : mo_c G w_3 t C (fun k9 => if k9 = 14 then upd (M 14) e y14 else if k9 = 12 then upd (M 12) e y12 else if k9 = 11 then upd (M 11) e y11 else M k9) ln mk pn tn (nI (n - 1)) sn qn := ⟨ht0, c0, c1, c2, c3, c4, c5, c6, c7, c8, c9, c10, c11, c12, c13, c14, c15, c16, c17⟩
      refine lo_Mo_dropB (M := (fun k9 => if k9 = 14 then upd (M 14) e y14 else if k9 = 12 then upd (M 12) e y12 else if k9 = 11 then upd (M 11) e y11 else M k9)) (e := e) (lo := 30 * k) (f := Mz 13) S hE hcA (by omega) (by omega) (fun g13 w13 H locs r1 ew13 hW ls hl => ?_) 31 0 0 (M 13) _ _ _ _ (by omega) (by omega) nI_0.symm h13 (up_id c13) hW (lv_sub hl [1, 2, 3, 0] rfl)
      have hmk := mk_up hmk c13 ew13 (by rw [hT.2 13 (by omega)]; omega)
      have c0 := wd_keep ew13 (tg_ne (tg := tg) (by rw [hT.2 0 (by omega), hT.2 13 (by omega)]; omega)) c0
      have c1 := wd_keep ew13 (tg_ne (tg := tg) (by rw [hT.2 1 (by omega), hT.2 13 (by omega)]; omega)) c1
      have c2 := wd_keep ew13 (tg_ne (tg := tg) (by rw [hT.2 2 (by omega), hT.2 13 (by omega)]; omega)) c2
      have c3 := wd_keep ew13 (tg_ne (tg := tg) (by rw [hT.2 3 (by omega), hT.2 13 (by omega)]; omega)) c3
      have c4 := wd_keep ew13 (tg_ne (tg := tg) (by rw [hT.2 4 (by omega), hT.2 13 (by omega)]; omega)) c4
      have c5 := wd_keep ew13 (tg_ne (tg := tg) (by rw [hT.2 5 (by omega), hT.2 13 (by omega)]; omega)) c5
      have c6 := wd_keep ew13 (tg_ne (tg := tg) (by rw [hT.2 6 (by omega), hT.2 13 (by omega)]; omega)) c6
      have c7 := wd_keep ew13 (tg_ne (tg := tg) (by rw [hT.2 7 (by omega), hT.2 13 (by omega)]; omega)) c7
      have c8 := wd_keep ew13 (tg_ne (tg := tg) (by rw [hT.2 8 (by omega), hT.2 13 (by omega)]; omega)) c8
      have c9 := wd_keep ew13 (tg_ne (tg := tg) (by rw [hT.2 9 (by omega), hT.2 13 (by omega)]; omega)) c9
      have c10 := wd_keep ew13 (tg_ne (tg := tg) (by rw [hT.2 10 (by omega), hT.2 13 (by omega)]; omega)) c10
      have c11 := wd_keep ew13 (tg_ne (tg := tg) (by rw [hT.2 11 (by omega), hT.2 13 (by omega)]; omega)) c11
      have c12 := wd_keep ew13 (tg_ne (tg := tg) (by rw [hT.2 12 (by omega), hT.2 13 (by omega)]; omega)) c12
      have c14 := wd_keep ew13 (tg_ne (tg := tg) (by rw [hT.2 14 (by omega), hT.2 13 (by omega)]; omega)) c14
      have c15 := wd_keep ew13 (tg_ne (tg := tg) (by rw [hT.2 15 (by omega), hT.2 13 (by omega)]; omega)) c15
      have c16 := wd_keep ew13 (tg_ne (tg := tg) (by rw [hT.2 16 (by omega), hT.2 13 (by omega)]; omega)) c16
      have c17 := wd_keep ew13 (tg_ne (tg := tg) (by rw [hT.2 17 (by omega), hT.2 13 (by omega)]; omega)) c17
      have ht0 := wd_keep ew13 (wd_ne ht0 c13 (by simp)) ht0
      have c13 := wd_here ew13
      obtain ⟨xi2, exi2⟩ : ∃ y : Int32, y = (nI e) + 1 := ⟨_, rfl⟩
      refine lv_iinc (v := xi2) (lv' := [(2, .int xi2), (0, .ref t), (1, .int x1)]) hx hb d_Mo_drop_115 hl (k := 2) rfl (by rw [exi2]; rfl) (by decide) rfl (fun ls hl => ?_)
      refine lv_goto (tgt := 26) hx hb d_Mo_drop_118 (by decide) ?_
      exact ih (e + 1) xi2 (fun k9 => if k9 = 13 then g13 else if k9 = 14 then upd (M 14) e y14 else if k9 = 12 then upd (M 12) e y12 else if k9 = 11 then upd (M 11) e y11 else M k9) w13 _ _ _ (by omega) (by omega) (by omega) (by rw [exi2]; exact nI_1 e) (by show ∀ q, upd (M 11) e y11 q = _; rw [ey11]; exact sh_s h11 (by omega) (by omega)) (by show ∀ q, upd (M 12) e y12 q = _; rw [ey12]; exact sh_s h12 (by omega) (by omega)) (by show ∀ q, g13 q = _; rw [show 30 * (e + 1) = 30 * e + 30 by omega]; exact r1) (by show ∀ q, upd (M 14) e y14 q = _; rw [ey14]; exact sh_s h14 (by omega) (by omega)) (fun j hj => by show (if j = 13 then g13 else if j = 14 then upd (M 14) e y14 else if j = 12 then upd (M 12) e y12 else if j = 11 then upd (M 11) e y11 else M j) = Mz j; rw [if_neg (by omega), if_neg (by omega), if_neg (by omega), if_neg (by omega)]; exact hoth j hj) ⟨ht0, c0, c1, c2, c3, c4, c5, c6, c7, c8, c9, c10, c11, c12, c13, c14, c15, c16, c17⟩ hmk hW (lv_sub hl [1, 2, 0] rfl)

set_option maxHeartbeats 4000000 in
set_option maxRecDepth 100000 in
/-- the reference: drop -/
theorem c_Mo_drop (l : Launch) (G : ev_G) (w : wd_M) (sz : Nat) (tg : Nat → Nat) (t : Nat) (Ls : List hy_L) (Ps : List hy_P) (Ts : List hy_T) (ml md wd : List Int32) (pl : List Nat) (x : Int32) (h : mo_ G w tg t Ls Ps Ts ml md wd pl) (hwf : hy_wf Ls Ps Ts ml md wd pl) : ct_i l y_Mo_drop b_Mo_drop 4 (some FieldType.int) (rm_ 0 0 0) G w sz [.ref t, .int x] (mq_ G w tg t (sp_drop x (Ls, Ps, Ts, ml, md, wd, pl))) := by
  refine ct_enter (by decide +kernel) (Nat.le_of_ble_eq_true rfl) ?_
  intro p_ e_ s m below meth c_ hsz S hr hlocks hname hE hW ls hl
  have S : CallFix p_ m c_ b_Mo_drop 4 s _ lw_good "HyphenRowsModel" := S
  have hx := S.1
  have hb := S.2.1
  have hK := hE.1
  have hl : lv_has ls 4 [(0, .ref t), (1, .int x)] := hl
  obtain ⟨C, M, hc, hT, hl0, hp0, hq0, hml, hmd, hwd, hpl⟩ := id h
  obtain ⟨ht0, c0, c1, c2, c3, c4, c5, c6, c7, c8, c9, c10, c11, c12, c13, c14, c15, c16, c17⟩ := id hc
  obtain ⟨wL, wP, wT, wm, wml, wwd, wpl, wtot, wmx, wdx, wws, wplx, wlg, wps, wts⟩ := id hwf
  have hmk : mk_ w w tg := mk_rf
  refine lv_iload_n hx hb d_Mo_drop_0 rfl (lv_at hl 1 rfl) ?_
  refine lv_if_lt (tgt := 12) hx hb d_Mo_drop_1 (by decide) (fun h1 => ?_) (fun h1 => ?_)
  · refine lv_iconst (v := -1) hx hb d_Mo_drop_12 (by decide) ?_
    exact ct_iret S hr rfl hlocks hW (⟨_, Or.inl ⟨fun q => q.1 h1, rfl, rfl⟩, h, mk_rf⟩) (Nat.le_of_ble_eq_true rfl) (Nat.le_of_ble_eq_true rfl) d_Mo_drop_13
  · refine lv_iload_n hx hb d_Mo_drop_4 rfl (lv_at hl 1 rfl) ?_
    refine lv_aload_n hx hb d_Mo_drop_5 rfl (lv_at hl 0 rfl) ?_
    refine wd_get S i_Mo hK hW ht0 rfl 15 (by decide) k_Mo_97 rfl rfl d_Mo_drop_6 ?_
    refine lv_icmp_lt (tgt := 14) hx hb d_Mo_drop_9 (by decide) (fun h9 => ?_) (fun h9 => ?_)
    · have hnm : nm_ x Ts.length := ⟨h1, Int32.not_le.mpr h9⟩
      obtain ⟨k, hk, rfl⟩ := nm_of hnm (by omega)
      refine lv_aload_n hx hb d_Mo_drop_14 rfl (lv_at hl 0 rfl) ?_
      refine lv_dup hx hb d_Mo_drop_15 rfl ?_
      refine wd_get S i_Mo hK hW ht0 rfl 15 (by decide) k_Mo_97 rfl rfl d_Mo_drop_16 ?_
      refine lv_iconst (v := 1) hx hb d_Mo_drop_19 (by decide) ?_
      refine lv_isub hx hb d_Mo_drop_20 ?_
      refine lv_topi (fun ne ene => ?_)
      rw [nI_pred3 (by omega)] at ene
      refine wd_put S i_Mo t_Mo t_Mo_ok n_Mo hK hW ht0 rfl 15 (by decide) k_Mo_97 rfl rfl rfl rfl (Nat.le_of_ble_eq_true rfl) d_Mo_drop_21 (fun H locs w_1 ew_1 hW => ?_)
      have hmk := mk_up hmk ht0 ew_1 (by rw [hT.1]; omega)
      have c0 := wd_keep ew_1 (wd_ne c0 ht0 (by simp)) c0
      have c1 := wd_keep ew_1 (wd_ne c1 ht0 (by simp)) c1
      have c2 := wd_keep ew_1 (wd_ne c2 ht0 (by simp)) c2
      have c3 := wd_keep ew_1 (wd_ne c3 ht0 (by simp)) c3
      have c4 := wd_keep ew_1 (wd_ne c4 ht0 (by simp)) c4
      have c5 := wd_keep ew_1 (wd_ne c5 ht0 (by simp)) c5
      have c6 := wd_keep ew_1 (wd_ne c6 ht0 (by simp)) c6
      have c7 := wd_keep ew_1 (wd_ne c7 ht0 (by simp)) c7
      have c8 := wd_keep ew_1 (wd_ne c8 ht0 (by simp)) c8
      have c9 := wd_keep ew_1 (wd_ne c9 ht0 (by simp)) c9
      have c10 := wd_keep ew_1 (wd_ne c10 ht0 (by simp)) c10
      have c11 := wd_keep ew_1 (wd_ne c11 ht0 (by simp)) c11
      have c12 := wd_keep ew_1 (wd_ne c12 ht0 (by simp)) c12
      have c13 := wd_keep ew_1 (wd_ne c13 ht0 (by simp)) c13
      have c14 := wd_keep ew_1 (wd_ne c14 ht0 (by simp)) c14
      have c15 := wd_keep ew_1 (wd_ne c15 ht0 (by simp)) c15
      have c16 := wd_keep ew_1 (wd_ne c16 ht0 (by simp)) c16
      have c17 := wd_keep ew_1 (wd_ne c17 ht0 (by simp)) c17
      have ht0 : w_1 t = some (.inr (5, [.int (nI Ls.length), .ref (C 0), .ref (C 1), .ref (C 2), .ref (C 3), .ref (C 4), .int (nI ml.length), .ref (C 5), .ref (C 6), .int (nI Ps.length), .int (nI (hy_tot Ps)), .ref (C 7), .ref (C 8), .ref (C 9), .ref (C 10), .int ne, .ref (C 11), .ref (C 12), .ref (C 13), .ref (C 14), .int (nI wd.length), .ref (C 15), .ref (C 16), .int (nI pl.length), .ref (C 17)])) := wd_here ew_1
      rw [ene] at ht0
      refine lv_iload_n hx hb d_Mo_drop_24 rfl (lv_at hl 1 rfl) ?_
      refine lv_topi (fun e0 ee0 => ?_)
      refine lv_istore_n (lv' := [(2, .int e0), (0, .ref t), (1, .int (nI k))]) hx hb d_Mo_drop_25 rfl hl (by decide) rfl (fun ls hl => ?_)
      have hc1 : mo_c G w_1 t C M (nI Ls.length) (nI ml.length) (nI Ps.length) (nI (hy_tot Ps)) (nI (Ts.length - 1)) (nI wd.length) (nI pl.length) := ⟨ht0, c0, c1, c2, c3, c4, c5, c6, c7, c8, c9, c10, c11, c12, c13, c14, c15, c16, c17⟩
      refine lo_Mo_drop (w := w) (Mz := M) (k := k) (n := Ts.length) (tg := tg) S hE hT hk wT (fun M2 w2 H locs h11 h12 h13 h14 hoth hc2 hmk hW ls hl => ?_) (Ts.length + 1) k e0 M _ _ _ _ (by omega) (Nat.le_refl _) (by omega) ee0 (sh_0 _ _ _) (sh_0 _ _ _) (sh_0 _ _ _) (sh_0 _ _ _) (fun _ _ => rfl) hc1 hmk hW (lv_sub hl [1, 2, 0] rfl)
      refine lv_iconst (v := 1) hx hb d_Mo_drop_121 (by decide) ?_
      have hle : (Ts.eraseIdx k).length = Ts.length - 1 := List.length_eraseIdx_of_lt hk
      have hcF : mo_c G w2 t C M2 (nI Ls.length) (nI ml.length) (nI Ps.length) (nI (hy_tot Ps)) (nI (Ts.eraseIdx k).length) (nI wd.length) (nI pl.length) := by rw [hle]; exact hc2
      exact ct_iret S hr rfl hlocks hW (⟨(Ls, Ps, Ts.eraseIdx k, ml, md, wd, pl), Or.inr ⟨hnm, rfl, k, rfl, hk, rfl⟩, ⟨C, M2, hcF, hT, mo_lc hl0 (fun j hj => hoth j (by omega)), mo_pc hp0 (fun j h1 h2 => hoth j (by omega)), mo_t_drop hq0 hk (fun p hp => (wts p hp).2) h11 h12 h13 h14, by rw [hoth 5 (by omega)]; exact hml, by rw [hoth 6 (by omega)]; exact hmd, by rw [hoth 15 (by omega)]; exact hwd, by rw [hoth 17 (by omega)]; exact hpl⟩, hmk⟩) (Nat.le_of_ble_eq_true rfl) (Nat.le_of_ble_eq_true rfl) d_Mo_drop_122
    · refine lv_iconst (v := -1) hx hb d_Mo_drop_12 (by decide) ?_
      exact ct_iret S hr rfl hlocks hW (⟨_, Or.inl ⟨fun q => q.2 (Int32.not_lt.mp h9), rfl, rfl⟩, h, mk_rf⟩) (Nat.le_of_ble_eq_true rfl) (Nat.le_of_ble_eq_true rfl) d_Mo_drop_13
