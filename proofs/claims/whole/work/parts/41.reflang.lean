/-! THE REFERENCE: languages, codes, ends; looking at the row in the making. -/

theorem mo_l_add {Ls : List hy_L} {M M2 : Nat → Nat → Int32} (h : mo_l Ls M) (hn : Ls.length < 4) (e0 : M2 0 = M 0) (e1 : M2 1 = M 1) (e2 : M2 2 = upd (M 2) Ls.length 2) (e3 : M2 3 = upd (M 3) Ls.length 3) (e4 : M2 4 = M 4) : mo_l (Ls ++ [((fun _ => 0), (fun _ => 0), 2, 3, 0)]) M2 := by
  unfold mo_l at h ⊢
  rw [e0, e1, e2, e3, e4]
  refine ⟨fun i lg hi => ?_, fun i h1 h2 => ?_⟩
  · by_cases hl : i < Ls.length
    · rw [List.getElem?_append_left hl] at hi
      obtain ⟨g1, g2, g3, g4⟩ := h.1 i lg hi
      exact ⟨g1, by rw [pk_un (by omega)]; exact g2, by rw [pk_un (by omega)]; exact g3, g4⟩
    · rw [List.getElem?_append_right (by omega)] at hi
      have h1 : i - Ls.length < 1 := (List.getElem?_eq_some_iff.mp hi).1
      have h2 : i = Ls.length := by omega
      subst h2
      rw [Nat.sub_self] at hi
      cases hi
      obtain ⟨g1, g2⟩ := h.2 Ls.length (Nat.le_refl _) hn
      exact ⟨g1, pk_us, pk_us, g2⟩
  · rw [List.length_append] at h1
    exact h.2 i (by omega) h2
theorem mo_l_set {Ls : List hy_L} {M M2 : Nat → Nat → Int32} {i : Nat} {lg2 : hy_L} (h : mo_l Ls M) (hi : i < Ls.length) (hk : ∀ j, j ≠ i → j < 4 → (∀ s, s < 256 → M2 0 (256 * j + s) = M 0 (256 * j + s) ∧ M2 1 (256 * j + s) = M 1 (256 * j + s)) ∧ M2 2 j = M 2 j ∧ M2 3 j = M 3 j ∧ M2 4 j = M 4 j) (h4 : Ls.length ≤ 4) (hs : (∀ s, s < 256 → M2 0 (256 * i + s) = lg2.1 s ∧ M2 1 (256 * i + s) = lg2.2.1 s) ∧ M2 2 i = nI lg2.2.2.1 ∧ M2 3 i = nI lg2.2.2.2.1 ∧ M2 4 i = lg2.2.2.2.2) : mo_l (Ls.set i lg2) M2 := by
  refine ⟨fun j lg hj => ?_, fun j h1 h2 => ?_⟩
  · by_cases hji : j = i
    · subst hji
      rw [List.getElem?_set_self hi] at hj
      cases hj
      exact hs
    · rw [List.getElem?_set_ne (Ne.symm hji)] at hj
      have hjl := (List.getElem?_eq_some_iff.mp hj).1
      obtain ⟨g1, g2, g3, g4⟩ := h.1 j lg hj
      obtain ⟨k1, k2, k3, k4⟩ := hk j hji (by omega)
      exact ⟨fun s hs => by rw [(k1 s hs).1, (k1 s hs).2]; exact g1 s hs, by rw [k2]; exact g2, by rw [k3]; exact g3, by rw [k4]; exact g4⟩
  · rw [List.length_set] at h1
    obtain ⟨g1, g2⟩ := h.2 j h1 h2
    obtain ⟨k1, k2, k3, k4⟩ := hk j (by omega) h2
    exact ⟨fun s hs => by rw [(k1 s hs).1, (k1 s hs).2]; exact g1 s hs, by rw [k4]; exact g2⟩
theorem ix_256 (i g : Nat) : (256 : Int32) * nI i + nI g = nI (256 * i + g) := by rw [show (256 : Int32) = nI 256 from rfl, pk_mul, nI_add]
theorem ix_12 (i g : Nat) : (12 : Int32) * nI i + nI g = nI (12 * i + g) := by rw [show (12 : Int32) = nI 12 from rfl, pk_mul, nI_add]
theorem ix_13 (i g : Nat) : (13 : Int32) * nI i + nI g = nI (13 * i + g) := by rw [show (13 : Int32) = nI 13 from rfl, pk_mul, nI_add]
theorem ix_30 (i g : Nat) : (30 : Int32) * nI i + nI g = nI (30 * i + g) := by rw [show (30 : Int32) = nI 30 from rfl, pk_mul, nI_add]
theorem mo_c_set {f g : Nat → Int32} {i gn : Nat} {x : Int32} (hf : ∀ s, s < 256 → f (256 * i + s) = g s) : ∀ s, s < 256 → upd f (256 * i + gn) x (256 * i + s) = upd g gn x s := by
  intro s hs
  by_cases h : s = gn
  · subst h
    rw [pk_us, pk_us]
  · rw [pk_un (by omega), pk_un h]
    exact hf s hs

set_option maxHeartbeats 4000000 in
set_option maxRecDepth 100000 in
/-- the reference: language -/
theorem c_Mo_language (l : Launch) (G : ev_G) (w : wd_M) (sz : Nat) (tg : Nat → Nat) (t : Nat) (Ls : List hy_L) (Ps : List hy_P) (Ts : List hy_T) (ml md wd : List Int32) (pl : List Nat) (h : mo_ G w tg t Ls Ps Ts ml md wd pl) (hwf : hy_wf Ls Ps Ts ml md wd pl) : ct_i l y_Mo_language b_Mo_language 1 (some FieldType.int) (rm_ 1 0 0) G w sz [.ref t] (mq_ G w tg t (sp_language (Ls, Ps, Ts, ml, md, wd, pl))) := by
  refine ct_enter (by decide +kernel) (Nat.le_of_ble_eq_true rfl) ?_
  intro p_ e_ s m below meth c_ hsz S hr hlocks hname hE hW ls hl
  have S : CallFix p_ m c_ b_Mo_language 1 s _ lw_good "HyphenRowsModel" := S
  have hx := S.1
  have hb := S.2.1
  have hK := hE.1
  have hl : lv_has ls 1 [(0, .ref t)] := hl
  obtain ⟨C, M, hc, hT, hl0, hp0, hq0, hml, hmd, hwd, hpl⟩ := id h
  obtain ⟨ht0, c0, c1, c2, c3, c4, c5, c6, c7, c8, c9, c10, c11, c12, c13, c14, c15, c16, c17⟩ := id hc
  obtain ⟨wL, wP, wT, wm, wml, wwd, wpl, wtot, wmx, wdx, wws, wplx, wlg, wps, wts⟩ := id hwf
  have hmk : mk_ w w tg := mk_rf
  refine lv_aload_n hx hb d_Mo_language_0 rfl (lv_at hl 0 rfl) ?_
  refine wd_get S i_Mo hK hW ht0 rfl 0 (by decide) k_Mo_65 rfl rfl d_Mo_language_1 ?_
  refine lv_iconst (v := 4) hx hb d_Mo_language_4 (by decide) ?_
  refine lv_icmp_ne (tgt := 11) hx hb d_Mo_language_5 (by decide) (fun h5 => ?_) (fun h5 => ?_)
  · have hlt : Ls.length < 4 := Nat.lt_of_le_of_ne wL (fun q => h5 (by rw [q]; rfl))
    refine lv_aload_n hx hb d_Mo_language_11 rfl (lv_at hl 0 rfl) ?_
    refine wd_get S i_Mo hK hW ht0 rfl 3 (by decide) k_Mo_17 rfl rfl d_Mo_language_12 ?_
    refine lv_aload_n hx hb d_Mo_language_15 rfl (lv_at hl 0 rfl) ?_
    refine wd_get S i_Mo hK hW ht0 rfl 0 (by decide) k_Mo_65 rfl rfl d_Mo_language_16 ?_
    refine lv_iconst (v := 2) hx hb d_Mo_language_19 (by decide) ?_
    refine wd_iast S hK hW 0 c2 rfl (vp_in_nI (by omega) (by omega)) d_Mo_language_20 (fun H locs w_1 ew_1 hW => ?_)
    have hmk := mk_up hmk c2 ew_1 (by rw [hT.2 2 (by omega)]; omega)
    have ht0 := wd_keep ew_1 (wd_ne ht0 c2 (by simp)) ht0
    have c0 := wd_keep ew_1 (tg_ne (tg := tg) (by rw [hT.2 0 (by omega), hT.2 2 (by omega)]; omega)) c0
    have c1 := wd_keep ew_1 (tg_ne (tg := tg) (by rw [hT.2 1 (by omega), hT.2 2 (by omega)]; omega)) c1
    have c3 := wd_keep ew_1 (tg_ne (tg := tg) (by rw [hT.2 3 (by omega), hT.2 2 (by omega)]; omega)) c3
    have c4 := wd_keep ew_1 (tg_ne (tg := tg) (by rw [hT.2 4 (by omega), hT.2 2 (by omega)]; omega)) c4
    have c5 := wd_keep ew_1 (tg_ne (tg := tg) (by rw [hT.2 5 (by omega), hT.2 2 (by omega)]; omega)) c5
    have c6 := wd_keep ew_1 (tg_ne (tg := tg) (by rw [hT.2 6 (by omega), hT.2 2 (by omega)]; omega)) c6
    have c7 := wd_keep ew_1 (tg_ne (tg := tg) (by rw [hT.2 7 (by omega), hT.2 2 (by omega)]; omega)) c7
    have c8 := wd_keep ew_1 (tg_ne (tg := tg) (by rw [hT.2 8 (by omega), hT.2 2 (by omega)]; omega)) c8
    have c9 := wd_keep ew_1 (tg_ne (tg := tg) (by rw [hT.2 9 (by omega), hT.2 2 (by omega)]; omega)) c9
    have c10 := wd_keep ew_1 (tg_ne (tg := tg) (by rw [hT.2 10 (by omega), hT.2 2 (by omega)]; omega)) c10
    have c11 := wd_keep ew_1 (tg_ne (tg := tg) (by rw [hT.2 11 (by omega), hT.2 2 (by omega)]; omega)) c11
    have c12 := wd_keep ew_1 (tg_ne (tg := tg) (by rw [hT.2 12 (by omega), hT.2 2 (by omega)]; omega)) c12
    have c13 := wd_keep ew_1 (tg_ne (tg := tg) (by rw [hT.2 13 (by omega), hT.2 2 (by omega)]; omega)) c13
    have c14 := wd_keep ew_1 (tg_ne (tg := tg) (by rw [hT.2 14 (by omega), hT.2 2 (by omega)]; omega)) c14
    have c15 := wd_keep ew_1 (tg_ne (tg := tg) (by rw [hT.2 15 (by omega), hT.2 2 (by omega)]; omega)) c15
    have c16 := wd_keep ew_1 (tg_ne (tg := tg) (by rw [hT.2 16 (by omega), hT.2 2 (by omega)]; omega)) c16
    have c17 := wd_keep ew_1 (tg_ne (tg := tg) (by rw [hT.2 17 (by omega), hT.2 2 (by omega)]; omega)) c17
    have c2 : w_1 (C 2) = some (.inl (G.2.1 0, 4, .inl (upd (M 2) ((nI Ls.length) : Int32).toNatClampNeg 2))) := wd_here ew_1
    rw [nI_clamp (by omega)] at c2
    refine lv_aload_n hx hb d_Mo_language_21 rfl (lv_at hl 0 rfl) ?_
    refine wd_get S i_Mo hK hW ht0 rfl 4 (by decide) k_Mo_20 rfl rfl d_Mo_language_22 ?_
    refine lv_aload_n hx hb d_Mo_language_25 rfl (lv_at hl 0 rfl) ?_
    refine wd_get S i_Mo hK hW ht0 rfl 0 (by decide) k_Mo_65 rfl rfl d_Mo_language_26 ?_
    refine lv_iconst (v := 3) hx hb d_Mo_language_29 (by decide) ?_
    refine wd_iast S hK hW 0 c3 rfl (vp_in_nI (by omega) (by omega)) d_Mo_language_30 (fun H locs w_2 ew_2 hW => ?_)
    have hmk := mk_up hmk c3 ew_2 (by rw [hT.2 3 (by omega)]; omega)
    have ht0 := wd_keep ew_2 (wd_ne ht0 c3 (by simp)) ht0
    have c0 := wd_keep ew_2 (tg_ne (tg := tg) (by rw [hT.2 0 (by omega), hT.2 3 (by omega)]; omega)) c0
    have c1 := wd_keep ew_2 (tg_ne (tg := tg) (by rw [hT.2 1 (by omega), hT.2 3 (by omega)]; omega)) c1
    have c2 := wd_keep ew_2 (tg_ne (tg := tg) (by rw [hT.2 2 (by omega), hT.2 3 (by omega)]; omega)) c2
    have c4 := wd_keep ew_2 (tg_ne (tg := tg) (by rw [hT.2 4 (by omega), hT.2 3 (by omega)]; omega)) c4
    have c5 := wd_keep ew_2 (tg_ne (tg := tg) (by rw [hT.2 5 (by omega), hT.2 3 (by omega)]; omega)) c5
    have c6 := wd_keep ew_2 (tg_ne (tg := tg) (by rw [hT.2 6 (by omega), hT.2 3 (by omega)]; omega)) c6
    have c7 := wd_keep ew_2 (tg_ne (tg := tg) (by rw [hT.2 7 (by omega), hT.2 3 (by omega)]; omega)) c7
    have c8 := wd_keep ew_2 (tg_ne (tg := tg) (by rw [hT.2 8 (by omega), hT.2 3 (by omega)]; omega)) c8
    have c9 := wd_keep ew_2 (tg_ne (tg := tg) (by rw [hT.2 9 (by omega), hT.2 3 (by omega)]; omega)) c9
    have c10 := wd_keep ew_2 (tg_ne (tg := tg) (by rw [hT.2 10 (by omega), hT.2 3 (by omega)]; omega)) c10
    have c11 := wd_keep ew_2 (tg_ne (tg := tg) (by rw [hT.2 11 (by omega), hT.2 3 (by omega)]; omega)) c11
    have c12 := wd_keep ew_2 (tg_ne (tg := tg) (by rw [hT.2 12 (by omega), hT.2 3 (by omega)]; omega)) c12
    have c13 := wd_keep ew_2 (tg_ne (tg := tg) (by rw [hT.2 13 (by omega), hT.2 3 (by omega)]; omega)) c13
    have c14 := wd_keep ew_2 (tg_ne (tg := tg) (by rw [hT.2 14 (by omega), hT.2 3 (by omega)]; omega)) c14
    have c15 := wd_keep ew_2 (tg_ne (tg := tg) (by rw [hT.2 15 (by omega), hT.2 3 (by omega)]; omega)) c15
    have c16 := wd_keep ew_2 (tg_ne (tg := tg) (by rw [hT.2 16 (by omega), hT.2 3 (by omega)]; omega)) c16
    have c17 := wd_keep ew_2 (tg_ne (tg := tg) (by rw [hT.2 17 (by omega), hT.2 3 (by omega)]; omega)) c17
    have c3 : w_2 (C 3) = some (.inl (G.2.1 0, 4, .inl (upd (M 3) ((nI Ls.length) : Int32).toNatClampNeg 3))) := wd_here ew_2
    rw [nI_clamp (by omega)] at c3
    refine lv_aload_n hx hb d_Mo_language_31 rfl (lv_at hl 0 rfl) ?_
    refine lv_dup hx hb d_Mo_language_32 rfl ?_
    refine wd_get S i_Mo hK hW ht0 rfl 0 (by decide) k_Mo_65 rfl rfl d_Mo_language_33 ?_
    refine lv_iconst (v := 1) hx hb d_Mo_language_36 (by decide) ?_
    refine lv_iadd hx hb d_Mo_language_37 ?_
    refine lv_topi (fun nl enl => ?_)
    rw [nI_1] at enl
    refine wd_put S i_Mo t_Mo t_Mo_ok n_Mo hK hW ht0 rfl 0 (by decide) k_Mo_65 rfl rfl rfl rfl (Nat.le_of_ble_eq_true rfl) d_Mo_language_38 (fun H locs w_3 ew_3 hW => ?_)
    have hmk := mk_up hmk ht0 ew_3 (by rw [hT.1]; omega)
    have c0 := wd_keep ew_3 (wd_ne c0 ht0 (by simp)) c0
    have c1 := wd_keep ew_3 (wd_ne c1 ht0 (by simp)) c1
    have c2 := wd_keep ew_3 (wd_ne c2 ht0 (by simp)) c2
    have c3 := wd_keep ew_3 (wd_ne c3 ht0 (by simp)) c3
    have c4 := wd_keep ew_3 (wd_ne c4 ht0 (by simp)) c4
    have c5 := wd_keep ew_3 (wd_ne c5 ht0 (by simp)) c5
    have c6 := wd_keep ew_3 (wd_ne c6 ht0 (by simp)) c6
    have c7 := wd_keep ew_3 (wd_ne c7 ht0 (by simp)) c7
    have c8 := wd_keep ew_3 (wd_ne c8 ht0 (by simp)) c8
    have c9 := wd_keep ew_3 (wd_ne c9 ht0 (by simp)) c9
    have c10 := wd_keep ew_3 (wd_ne c10 ht0 (by simp)) c10
    have c11 := wd_keep ew_3 (wd_ne c11 ht0 (by simp)) c11
    have c12 := wd_keep ew_3 (wd_ne c12 ht0 (by simp)) c12
    have c13 := wd_keep ew_3 (wd_ne c13 ht0 (by simp)) c13
    have c14 := wd_keep ew_3 (wd_ne c14 ht0 (by simp)) c14
    have c15 := wd_keep ew_3 (wd_ne c15 ht0 (by simp)) c15
    have c16 := wd_keep ew_3 (wd_ne c16 ht0 (by simp)) c16
    have c17 := wd_keep ew_3 (wd_ne c17 ht0 (by simp)) c17
    have ht0 : w_3 t = some (.inr (5, [.int nl, .ref (C 0), .ref (C 1), .ref (C 2), .ref (C 3), .ref (C 4), .int (nI ml.length), .ref (C 5), .ref (C 6), .int (nI Ps.length), .int (nI (hy_tot Ps)), .ref (C 7), .ref (C 8), .ref (C 9), .ref (C 10), .int (nI Ts.length), .ref (C 11), .ref (C 12), .ref (C 13), .ref (C 14), .int (nI wd.length), .ref (C 15), .ref (C 16), .int (nI pl.length), .ref (C 17)])) := wd_here ew_3
    refine lv_aload_n hx hb d_Mo_language_41 rfl (lv_at hl 0 rfl) ?_
    refine wd_get S i_Mo hK hW ht0 rfl 0 (by decide) k_Mo_65 rfl rfl d_Mo_language_42 ?_
    refine lv_iconst (v := 1) hx hb d_Mo_language_45 (by decide) ?_
    refine lv_isub hx hb d_Mo_language_46 ?_
    rw [enl] at ht0
    rw [enl, nI_pred]
    have hcF : mo_c G w_3 t C (fun k9 => if k9 = 3 then upd (M 3) Ls.length 3 else if k9 = 2 then upd (M 2) Ls.length 2 else M k9) (nI (Ls ++ [(((fun _ => 0), (fun _ => 0), 2, 3, 0) : hy_L)]).length) (nI ml.length) (nI Ps.length) (nI (hy_tot Ps)) (nI Ts.length) (nI wd.length) (nI pl.length) := by rw [List.length_append]; exact ⟨ht0, c0, c1, c2, c3, c4, c5, c6, c7, c8, c9, c10, c11, c12, c13, c14, c15, c16, c17⟩
    exact ct_iret S hr rfl hlocks hW (⟨(Ls ++ [((fun _ => 0), (fun _ => 0), 2, 3, 0)], Ps, Ts, ml, md, wd, pl), Or.inr ⟨hlt, rfl, rfl⟩, ⟨C, (fun k9 => if k9 = 3 then upd (M 3) Ls.length 3 else if k9 = 2 then upd (M 2) Ls.length 2 else M k9), hcF, hT, mo_l_add hl0 hlt rfl rfl rfl rfl rfl, (mo_pc hp0 (fun k9 h1 h2 => by show (if k9 = 3 then upd (M 3) Ls.length 3 else if k9 = 2 then upd (M 2) Ls.length 2 else M k9) = M k9; rw [if_neg (by omega), if_neg (by omega)])), (mo_tc hq0 (fun k9 h1 h2 => by show (if k9 = 3 then upd (M 3) Ls.length 3 else if k9 = 2 then upd (M 2) Ls.length 2 else M k9) = M k9; rw [if_neg (by omega), if_neg (by omega)])), hml, hmd, hwd, hpl⟩, hmk⟩) (Nat.le_of_ble_eq_true rfl) (Nat.le_of_ble_eq_true rfl) d_Mo_language_47
  · refine lv_bipush (v := -2) hx hb d_Mo_language_8 (by decide) ?_
    exact ct_iret S hr rfl hlocks hW (⟨_, Or.inl ⟨fun q => absurd ((nI_eq (a := Ls.length) (b := 4) (by omega) (by omega)).mp h5) (by have q : Ls.length < 4 := q; omega), rfl, rfl⟩, h, mk_rf⟩) (Nat.le_of_ble_eq_true rfl) (Nat.le_of_ble_eq_true rfl) d_Mo_language_10

set_option maxHeartbeats 4000000 in
set_option maxRecDepth 100000 in
/-- the reference: code -/
theorem c_Mo_code (l : Launch) (G : ev_G) (w : wd_M) (sz : Nat) (tg : Nat → Nat) (t : Nat) (Ls : List hy_L) (Ps : List hy_P) (Ts : List hy_T) (ml md wd : List Int32) (pl : List Nat) (x g c k : Int32) (h : mo_ G w tg t Ls Ps Ts ml md wd pl) (hwf : hy_wf Ls Ps Ts ml md wd pl) (hk01 : k = 0 ∨ k = 1) : ct_i l y_Mo_code b_Mo_code 5 (some FieldType.int) (rm_ 1 0 0) G w sz [.ref t, .int x, .int g, .int c, .int k] (mq_ G w tg t (sp_code x g c k (Ls, Ps, Ts, ml, md, wd, pl))) := by
  refine ct_enter (by decide +kernel) (Nat.le_of_ble_eq_true rfl) ?_
  intro p_ e_ s m below meth c_ hsz S hr hlocks hname hE hW ls hl
  have S : CallFix p_ m c_ b_Mo_code 5 s _ lw_good "HyphenRowsModel" := S
  have hx := S.1
  have hb := S.2.1
  have hK := hE.1
  have hl : lv_has ls 5 [(0, .ref t), (1, .int x), (2, .int g), (3, .int c), (4, .int k)] := hl
  obtain ⟨C, M, hc, hT, hl0, hp0, hq0, hml, hmd, hwd, hpl⟩ := id h
  obtain ⟨ht0, c0, c1, c2, c3, c4, c5, c6, c7, c8, c9, c10, c11, c12, c13, c14, c15, c16, c17⟩ := id hc
  obtain ⟨wL, wP, wT, wm, wml, wwd, wpl, wtot, wmx, wdx, wws, wplx, wlg, wps, wts⟩ := id hwf
  have hmk : mk_ w w tg := mk_rf
  refine lv_aload_n hx hb d_Mo_code_0 rfl (lv_at hl 0 rfl) ?_
  refine lv_iload_n hx hb d_Mo_code_1 rfl (lv_at hl 1 rfl) ?_
  refine ct_goi hW (ct_runV (As := [.int x]) (rest := []) (q := (R_Mo, F_Mo, 25)) S hE hW (c_Mo_isLanguage l G _ _ t C M (nI ml.length) (nI Ps.length) (nI (hy_tot Ps)) (nI Ts.length) (nI wd.length) (nI pl.length) Ls.length x hc) ht0 rfl kc_Mo_isLanguage kz_Mo k_Mo_69 ki_Mo_isLanguage kv_Mo_isLanguage kd_Mo_isLanguage ⟨Nat.le_of_ble_eq_true rfl, Nat.le_of_ble_eq_true rfl⟩ hl.1 (Nat.le_of_ble_eq_true rfl) d_Mo_code_2 ⟨Nat.le_of_ble_eq_true rfl, Nat.le_of_ble_eq_true rfl⟩) (fun v_3 u_1 H locs hp_2 hW => ?_)
  obtain ⟨hv, hu_4⟩ := hp_2
  rw [hu_4] at hW
  refine lv_if_eq (tgt := 29) hx hb d_Mo_code_5 (by decide) (fun hb0 => ?_) (fun hb0 => ?_)
  · refine lv_iconst (v := -1) hx hb d_Mo_code_29 (by decide) ?_
    exact ct_iret S hr rfl hlocks hW (⟨_, Or.inl ⟨fun q => bl_f hv hb0 q.1, rfl, rfl⟩, h, mk_rf⟩) (Nat.le_of_ble_eq_true rfl) (Nat.le_of_ble_eq_true rfl) d_Mo_code_30
  · refine lv_iload_n hx hb d_Mo_code_8 rfl (lv_at hl 2 rfl) ?_
    refine lv_iconst (v := 0) hx hb d_Mo_code_9 (by decide) ?_
    refine lv_sipush (v := 255) hx hb d_Mo_code_10 (by decide) ?_
    refine ct_goi hW (ct_runS (As := [.int g, .int 0, .int 255]) (rest := []) S hE hW (c_Mo_in l G _ _ g 0 255) kc_Mo_in kz_Mo k_Mo_73 ks_Mo_in kd_Mo_in ⟨Nat.le_of_ble_eq_true rfl, Nat.le_of_ble_eq_true rfl⟩ hl.1 (Nat.le_of_ble_eq_true rfl) d_Mo_code_13 ⟨Nat.le_of_ble_eq_true rfl, Nat.le_of_ble_eq_true rfl⟩) (fun v_7 u_5 H locs hp_6 hW => ?_)
    obtain ⟨hv1, hu_8⟩ := hp_6
    rw [hu_8] at hW
    refine lv_if_eq (tgt := 29) hx hb d_Mo_code_16 (by decide) (fun hb1 => ?_) (fun hb1 => ?_)
    · refine lv_iconst (v := -1) hx hb d_Mo_code_29 (by decide) ?_
      exact ct_iret S hr rfl hlocks hW (⟨_, Or.inl ⟨fun q => bl_f hv1 hb1 q.2.1, rfl, rfl⟩, h, mk_rf⟩) (Nat.le_of_ble_eq_true rfl) (Nat.le_of_ble_eq_true rfl) d_Mo_code_30
    · refine lv_iload_n hx hb d_Mo_code_19 rfl (lv_at hl 3 rfl) ?_
      refine lv_iconst (v := 0) hx hb d_Mo_code_20 (by decide) ?_
      refine lv_bipush (v := 30) hx hb d_Mo_code_21 (by decide) ?_
      refine ct_goi hW (ct_runS (As := [.int c, .int 0, .int 30]) (rest := []) S hE hW (c_Mo_in l G _ _ c 0 30) kc_Mo_in kz_Mo k_Mo_73 ks_Mo_in kd_Mo_in ⟨Nat.le_of_ble_eq_true rfl, Nat.le_of_ble_eq_true rfl⟩ hl.1 (Nat.le_of_ble_eq_true rfl) d_Mo_code_23 ⟨Nat.le_of_ble_eq_true rfl, Nat.le_of_ble_eq_true rfl⟩) (fun v_11 u_9 H locs hp_10 hW => ?_)
      obtain ⟨hv2, hu_12⟩ := hp_10
      rw [hu_12] at hW
      refine lv_if_ne (tgt := 31) hx hb d_Mo_code_26 (by decide) (fun hb2 => ?_) (fun hb2 => ?_)
      · have hnm0 := bl_t hv hb0
        have hok : nm_ x Ls.length ∧ ok_s g ∧ ok_l c := ⟨hnm0, bl_t hv1 hb1, bl_t hv2 hb2⟩
        obtain ⟨gn, hgn, rfl⟩ := ok_nat (n := 255) hok.2.1 (by decide)
        obtain ⟨i, hil, rfl⟩ := nm_of hnm0 (by omega)
        have hlgi : Ls[i]? = some Ls[i] := List.getElem?_eq_getElem hil
        generalize Ls[i] = lg at hlgi
        obtain ⟨m01, m2, m3, m4⟩ := hl0.1 i lg hlgi
        have hlgm := wlg lg (List.mem_of_getElem? hlgi)
        refine lv_aload_n hx hb d_Mo_code_31 rfl (lv_at hl 0 rfl) ?_
        refine wd_get S i_Mo hK hW ht0 rfl 1 (by decide) k_Mo_7 rfl rfl d_Mo_code_32 ?_
        refine lv_sipush (v := 256) hx hb d_Mo_code_35 (by decide) ?_
        refine lv_iload_n hx hb d_Mo_code_38 rfl (lv_at hl 1 rfl) ?_
        refine lv_imul hx hb d_Mo_code_39 ?_
        refine lv_iload_n hx hb d_Mo_code_40 rfl (lv_at hl 2 rfl) ?_
        refine lv_iadd hx hb d_Mo_code_41 ?_
        refine lv_iload_n hx hb d_Mo_code_42 rfl (lv_at hl 3 rfl) ?_
        rw [ix_256]
        refine wd_iast S hK hW 0 c0 rfl (vp_in_nI (by omega) (by omega)) d_Mo_code_43 (fun H locs w_13 ew_13 hW => ?_)
        have hmk := mk_up hmk c0 ew_13 (by rw [hT.2 0 (by omega)]; omega)
        have ht0 := wd_keep ew_13 (wd_ne ht0 c0 (by simp)) ht0
        have c1 := wd_keep ew_13 (tg_ne (tg := tg) (by rw [hT.2 1 (by omega), hT.2 0 (by omega)]; omega)) c1
        have c2 := wd_keep ew_13 (tg_ne (tg := tg) (by rw [hT.2 2 (by omega), hT.2 0 (by omega)]; omega)) c2
        have c3 := wd_keep ew_13 (tg_ne (tg := tg) (by rw [hT.2 3 (by omega), hT.2 0 (by omega)]; omega)) c3
        have c4 := wd_keep ew_13 (tg_ne (tg := tg) (by rw [hT.2 4 (by omega), hT.2 0 (by omega)]; omega)) c4
        have c5 := wd_keep ew_13 (tg_ne (tg := tg) (by rw [hT.2 5 (by omega), hT.2 0 (by omega)]; omega)) c5
        have c6 := wd_keep ew_13 (tg_ne (tg := tg) (by rw [hT.2 6 (by omega), hT.2 0 (by omega)]; omega)) c6
        have c7 := wd_keep ew_13 (tg_ne (tg := tg) (by rw [hT.2 7 (by omega), hT.2 0 (by omega)]; omega)) c7
        have c8 := wd_keep ew_13 (tg_ne (tg := tg) (by rw [hT.2 8 (by omega), hT.2 0 (by omega)]; omega)) c8
        have c9 := wd_keep ew_13 (tg_ne (tg := tg) (by rw [hT.2 9 (by omega), hT.2 0 (by omega)]; omega)) c9
        have c10 := wd_keep ew_13 (tg_ne (tg := tg) (by rw [hT.2 10 (by omega), hT.2 0 (by omega)]; omega)) c10
        have c11 := wd_keep ew_13 (tg_ne (tg := tg) (by rw [hT.2 11 (by omega), hT.2 0 (by omega)]; omega)) c11
        have c12 := wd_keep ew_13 (tg_ne (tg := tg) (by rw [hT.2 12 (by omega), hT.2 0 (by omega)]; omega)) c12
        have c13 := wd_keep ew_13 (tg_ne (tg := tg) (by rw [hT.2 13 (by omega), hT.2 0 (by omega)]; omega)) c13
        have c14 := wd_keep ew_13 (tg_ne (tg := tg) (by rw [hT.2 14 (by omega), hT.2 0 (by omega)]; omega)) c14
        have c15 := wd_keep ew_13 (tg_ne (tg := tg) (by rw [hT.2 15 (by omega), hT.2 0 (by omega)]; omega)) c15
        have c16 := wd_keep ew_13 (tg_ne (tg := tg) (by rw [hT.2 16 (by omega), hT.2 0 (by omega)]; omega)) c16
        have c17 := wd_keep ew_13 (tg_ne (tg := tg) (by rw [hT.2 17 (by omega), hT.2 0 (by omega)]; omega)) c17
        have c0 : w_13 (C 0) = some (.inl (G.2.1 0, 1024, .inl (upd (M 0) ((nI (256 * i + gn)) : Int32).toNatClampNeg c))) := wd_here ew_13
        rw [nI_clamp (by omega)] at c0
        refine lv_aload_n hx hb d_Mo_code_44 rfl (lv_at hl 0 rfl) ?_
        refine wd_get S i_Mo hK hW ht0 rfl 2 (by decide) k_Mo_13 rfl rfl d_Mo_code_45 ?_
        refine lv_sipush (v := 256) hx hb d_Mo_code_48 (by decide) ?_
        refine lv_iload_n hx hb d_Mo_code_51 rfl (lv_at hl 1 rfl) ?_
        refine lv_imul hx hb d_Mo_code_52 ?_
        refine lv_iload_n hx hb d_Mo_code_53 rfl (lv_at hl 2 rfl) ?_
        refine lv_iadd hx hb d_Mo_code_54 ?_
        refine lv_iload hx hb d_Mo_code_55 (lv_at hl 4 rfl) ?_
        rw [ix_256]
        refine wd_zast S hK hW 1 c1 rfl (vp_in_nI (by omega) (by omega)) d_Mo_code_57 (fun H locs w_14 ew_14 hW => ?_)
        have hmk := mk_up hmk c1 ew_14 (by rw [hT.2 1 (by omega)]; omega)
        have ht0 := wd_keep ew_14 (wd_ne ht0 c1 (by simp)) ht0
        have c0 := wd_keep ew_14 (tg_ne (tg := tg) (by rw [hT.2 0 (by omega), hT.2 1 (by omega)]; omega)) c0
        have c2 := wd_keep ew_14 (tg_ne (tg := tg) (by rw [hT.2 2 (by omega), hT.2 1 (by omega)]; omega)) c2
        have c3 := wd_keep ew_14 (tg_ne (tg := tg) (by rw [hT.2 3 (by omega), hT.2 1 (by omega)]; omega)) c3
        have c4 := wd_keep ew_14 (tg_ne (tg := tg) (by rw [hT.2 4 (by omega), hT.2 1 (by omega)]; omega)) c4
        have c5 := wd_keep ew_14 (tg_ne (tg := tg) (by rw [hT.2 5 (by omega), hT.2 1 (by omega)]; omega)) c5
        have c6 := wd_keep ew_14 (tg_ne (tg := tg) (by rw [hT.2 6 (by omega), hT.2 1 (by omega)]; omega)) c6
        have c7 := wd_keep ew_14 (tg_ne (tg := tg) (by rw [hT.2 7 (by omega), hT.2 1 (by omega)]; omega)) c7
        have c8 := wd_keep ew_14 (tg_ne (tg := tg) (by rw [hT.2 8 (by omega), hT.2 1 (by omega)]; omega)) c8
        have c9 := wd_keep ew_14 (tg_ne (tg := tg) (by rw [hT.2 9 (by omega), hT.2 1 (by omega)]; omega)) c9
        have c10 := wd_keep ew_14 (tg_ne (tg := tg) (by rw [hT.2 10 (by omega), hT.2 1 (by omega)]; omega)) c10
        have c11 := wd_keep ew_14 (tg_ne (tg := tg) (by rw [hT.2 11 (by omega), hT.2 1 (by omega)]; omega)) c11
        have c12 := wd_keep ew_14 (tg_ne (tg := tg) (by rw [hT.2 12 (by omega), hT.2 1 (by omega)]; omega)) c12
        have c13 := wd_keep ew_14 (tg_ne (tg := tg) (by rw [hT.2 13 (by omega), hT.2 1 (by omega)]; omega)) c13
        have c14 := wd_keep ew_14 (tg_ne (tg := tg) (by rw [hT.2 14 (by omega), hT.2 1 (by omega)]; omega)) c14
        have c15 := wd_keep ew_14 (tg_ne (tg := tg) (by rw [hT.2 15 (by omega), hT.2 1 (by omega)]; omega)) c15
        have c16 := wd_keep ew_14 (tg_ne (tg := tg) (by rw [hT.2 16 (by omega), hT.2 1 (by omega)]; omega)) c16
        have c17 := wd_keep ew_14 (tg_ne (tg := tg) (by rw [hT.2 17 (by omega), hT.2 1 (by omega)]; omega)) c17
        have c1 : w_14 (C 1) = some (.inl (G.2.1 1, 1024, .inl (upd (M 1) ((nI (256 * i + gn)) : Int32).toNatClampNeg (vp_nar .boolean k)))) := wd_here ew_14
        rw [nI_clamp (by omega), vpn01 hk01] at c1
        refine lv_iconst (v := 1) hx hb d_Mo_code_58 (by decide) ?_
        have hcF : mo_c G w_14 t C (fun k9 => if k9 = 1 then upd (M 1) (256 * i + gn) k else if k9 = 0 then upd (M 0) (256 * i + gn) c else M k9) (nI (Ls.set i (upd lg.1 gn c, upd lg.2.1 gn k, lg.2.2)).length) (nI ml.length) (nI Ps.length) (nI (hy_tot Ps)) (nI Ts.length) (nI wd.length) (nI pl.length) := by rw [List.length_set]; exact ⟨ht0, c0, c1, c2, c3, c4, c5, c6, c7, c8, c9, c10, c11, c12, c13, c14, c15, c16, c17⟩
        exact ct_iret S hr rfl hlocks hW (⟨(Ls.set i (upd lg.1 gn c, upd lg.2.1 gn k, lg.2.2), Ps, Ts, ml, md, wd, pl), Or.inr ⟨hok, rfl, i, gn, lg, rfl, rfl, by omega, hlgi, rfl⟩, ⟨C, (fun k9 => if k9 = 1 then upd (M 1) (256 * i + gn) k else if k9 = 0 then upd (M 0) (256 * i + gn) c else M k9), hcF, hT, (mo_l_set hl0 hil (fun j hj h4 => ⟨fun s hs => ⟨pk_un (by omega), pk_un (by omega)⟩, rfl, rfl, rfl⟩) wL ⟨fun s hs => ⟨mo_c_set (fun s hs => (m01 s hs).1) s hs, mo_c_set (fun s hs => (m01 s hs).2) s hs⟩, m2, m3, m4⟩), (mo_pc hp0 (fun k9 h1 h2 => by show (if k9 = 1 then upd (M 1) (256 * i + gn) k else if k9 = 0 then upd (M 0) (256 * i + gn) c else M k9) = M k9; rw [if_neg (by omega), if_neg (by omega)])), (mo_tc hq0 (fun k9 h1 h2 => by show (if k9 = 1 then upd (M 1) (256 * i + gn) k else if k9 = 0 then upd (M 0) (256 * i + gn) c else M k9) = M k9; rw [if_neg (by omega), if_neg (by omega)])), hml, hmd, hwd, hpl⟩, hmk⟩) (Nat.le_of_ble_eq_true rfl) (Nat.le_of_ble_eq_true rfl) d_Mo_code_59
      · refine lv_iconst (v := -1) hx hb d_Mo_code_29 (by decide) ?_
        exact ct_iret S hr rfl hlocks hW (⟨_, Or.inl ⟨fun q => bl_f hv2 hb2 q.2.2, rfl, rfl⟩, h, mk_rf⟩) (Nat.le_of_ble_eq_true rfl) (Nat.le_of_ble_eq_true rfl) d_Mo_code_30

set_option maxHeartbeats 4000000 in
set_option maxRecDepth 100000 in
/-- the reference: ends -/
theorem c_Mo_ends (l : Launch) (G : ev_G) (w : wd_M) (sz : Nat) (tg : Nat → Nat) (t : Nat) (Ls : List hy_L) (Ps : List hy_P) (Ts : List hy_T) (ml md wd : List Int32) (pl : List Nat) (x a0 b0 k : Int32) (h : mo_ G w tg t Ls Ps Ts ml md wd pl) (hwf : hy_wf Ls Ps Ts ml md wd pl) (hk01 : k = 0 ∨ k = 1) : ct_i l y_Mo_ends b_Mo_ends 5 (some FieldType.int) (rm_ 1 0 0) G w sz [.ref t, .int x, .int a0, .int b0, .int k] (mq_ G w tg t (sp_ends x a0 b0 k (Ls, Ps, Ts, ml, md, wd, pl))) := by
  refine ct_enter (by decide +kernel) (Nat.le_of_ble_eq_true rfl) ?_
  intro p_ e_ s m below meth c_ hsz S hr hlocks hname hE hW ls hl
  have S : CallFix p_ m c_ b_Mo_ends 5 s _ lw_good "HyphenRowsModel" := S
  have hx := S.1
  have hb := S.2.1
  have hK := hE.1
  have hl : lv_has ls 5 [(0, .ref t), (1, .int x), (2, .int a0), (3, .int b0), (4, .int k)] := hl
  obtain ⟨C, M, hc, hT, hl0, hp0, hq0, hml, hmd, hwd, hpl⟩ := id h
  obtain ⟨ht0, c0, c1, c2, c3, c4, c5, c6, c7, c8, c9, c10, c11, c12, c13, c14, c15, c16, c17⟩ := id hc
  obtain ⟨wL, wP, wT, wm, wml, wwd, wpl, wtot, wmx, wdx, wws, wplx, wlg, wps, wts⟩ := id hwf
  have hmk : mk_ w w tg := mk_rf
  refine lv_aload_n hx hb d_Mo_ends_0 rfl (lv_at hl 0 rfl) ?_
  refine lv_iload_n hx hb d_Mo_ends_1 rfl (lv_at hl 1 rfl) ?_
  refine ct_goi hW (ct_runV (As := [.int x]) (rest := []) (q := (R_Mo, F_Mo, 25)) S hE hW (c_Mo_isLanguage l G _ _ t C M (nI ml.length) (nI Ps.length) (nI (hy_tot Ps)) (nI Ts.length) (nI wd.length) (nI pl.length) Ls.length x hc) ht0 rfl kc_Mo_isLanguage kz_Mo k_Mo_69 ki_Mo_isLanguage kv_Mo_isLanguage kd_Mo_isLanguage ⟨Nat.le_of_ble_eq_true rfl, Nat.le_of_ble_eq_true rfl⟩ hl.1 (Nat.le_of_ble_eq_true rfl) d_Mo_ends_2 ⟨Nat.le_of_ble_eq_true rfl, Nat.le_of_ble_eq_true rfl⟩) (fun v_3 u_1 H locs hp_2 hW => ?_)
  obtain ⟨hv, hu_4⟩ := hp_2
  rw [hu_4] at hW
  refine lv_if_eq (tgt := 28) hx hb d_Mo_ends_5 (by decide) (fun hb0 => ?_) (fun hb0 => ?_)
  · refine lv_iconst (v := -1) hx hb d_Mo_ends_28 (by decide) ?_
    exact ct_iret S hr rfl hlocks hW (⟨_, Or.inl ⟨fun q => bl_f hv hb0 q.1, rfl, rfl⟩, h, mk_rf⟩) (Nat.le_of_ble_eq_true rfl) (Nat.le_of_ble_eq_true rfl) d_Mo_ends_29
  · refine lv_iload_n hx hb d_Mo_ends_8 rfl (lv_at hl 2 rfl) ?_
    refine lv_iconst (v := 0) hx hb d_Mo_ends_9 (by decide) ?_
    refine lv_bipush (v := 20) hx hb d_Mo_ends_10 (by decide) ?_
    refine ct_goi hW (ct_runS (As := [.int a0, .int 0, .int 20]) (rest := []) S hE hW (c_Mo_in l G _ _ a0 0 20) kc_Mo_in kz_Mo k_Mo_73 ks_Mo_in kd_Mo_in ⟨Nat.le_of_ble_eq_true rfl, Nat.le_of_ble_eq_true rfl⟩ hl.1 (Nat.le_of_ble_eq_true rfl) d_Mo_ends_12 ⟨Nat.le_of_ble_eq_true rfl, Nat.le_of_ble_eq_true rfl⟩) (fun v_7 u_5 H locs hp_6 hW => ?_)
    obtain ⟨hv1, hu_8⟩ := hp_6
    rw [hu_8] at hW
    refine lv_if_eq (tgt := 28) hx hb d_Mo_ends_15 (by decide) (fun hb1 => ?_) (fun hb1 => ?_)
    · refine lv_iconst (v := -1) hx hb d_Mo_ends_28 (by decide) ?_
      exact ct_iret S hr rfl hlocks hW (⟨_, Or.inl ⟨fun q => bl_f hv1 hb1 q.2.1, rfl, rfl⟩, h, mk_rf⟩) (Nat.le_of_ble_eq_true rfl) (Nat.le_of_ble_eq_true rfl) d_Mo_ends_29
    · refine lv_iload_n hx hb d_Mo_ends_18 rfl (lv_at hl 3 rfl) ?_
      refine lv_iconst (v := 0) hx hb d_Mo_ends_19 (by decide) ?_
      refine lv_bipush (v := 20) hx hb d_Mo_ends_20 (by decide) ?_
      refine ct_goi hW (ct_runS (As := [.int b0, .int 0, .int 20]) (rest := []) S hE hW (c_Mo_in l G _ _ b0 0 20) kc_Mo_in kz_Mo k_Mo_73 ks_Mo_in kd_Mo_in ⟨Nat.le_of_ble_eq_true rfl, Nat.le_of_ble_eq_true rfl⟩ hl.1 (Nat.le_of_ble_eq_true rfl) d_Mo_ends_22 ⟨Nat.le_of_ble_eq_true rfl, Nat.le_of_ble_eq_true rfl⟩) (fun v_11 u_9 H locs hp_10 hW => ?_)
      obtain ⟨hv2, hu_12⟩ := hp_10
      rw [hu_12] at hW
      refine lv_if_ne (tgt := 30) hx hb d_Mo_ends_25 (by decide) (fun hb2 => ?_) (fun hb2 => ?_)
      · have hnm0 := bl_t hv hb0
        have hok : nm_ x Ls.length ∧ ok_e a0 ∧ ok_e b0 := ⟨hnm0, bl_t hv1 hb1, bl_t hv2 hb2⟩
        obtain ⟨an, han, rfl⟩ := ok_nat (n := 20) hok.2.1 (by decide)
        obtain ⟨bn, hbn, rfl⟩ := ok_nat (n := 20) hok.2.2 (by decide)
        obtain ⟨i, hil, rfl⟩ := nm_of hnm0 (by omega)
        have hlgi : Ls[i]? = some Ls[i] := List.getElem?_eq_getElem hil
        generalize Ls[i] = lg at hlgi
        obtain ⟨m01, m2, m3, m4⟩ := hl0.1 i lg hlgi
        have hlgm := wlg lg (List.mem_of_getElem? hlgi)
        refine lv_aload_n hx hb d_Mo_ends_30 rfl (lv_at hl 0 rfl) ?_
        refine wd_get S i_Mo hK hW ht0 rfl 3 (by decide) k_Mo_17 rfl rfl d_Mo_ends_31 ?_
        refine lv_iload_n hx hb d_Mo_ends_34 rfl (lv_at hl 1 rfl) ?_
        refine lv_iload_n hx hb d_Mo_ends_35 rfl (lv_at hl 2 rfl) ?_
        refine wd_iast S hK hW 0 c2 rfl (vp_in_nI (by omega) (by omega)) d_Mo_ends_36 (fun H locs w_13 ew_13 hW => ?_)
        have hmk := mk_up hmk c2 ew_13 (by rw [hT.2 2 (by omega)]; omega)
        have ht0 := wd_keep ew_13 (wd_ne ht0 c2 (by simp)) ht0
        have c0 := wd_keep ew_13 (tg_ne (tg := tg) (by rw [hT.2 0 (by omega), hT.2 2 (by omega)]; omega)) c0
        have c1 := wd_keep ew_13 (tg_ne (tg := tg) (by rw [hT.2 1 (by omega), hT.2 2 (by omega)]; omega)) c1
        have c3 := wd_keep ew_13 (tg_ne (tg := tg) (by rw [hT.2 3 (by omega), hT.2 2 (by omega)]; omega)) c3
        have c4 := wd_keep ew_13 (tg_ne (tg := tg) (by rw [hT.2 4 (by omega), hT.2 2 (by omega)]; omega)) c4
        have c5 := wd_keep ew_13 (tg_ne (tg := tg) (by rw [hT.2 5 (by omega), hT.2 2 (by omega)]; omega)) c5
        have c6 := wd_keep ew_13 (tg_ne (tg := tg) (by rw [hT.2 6 (by omega), hT.2 2 (by omega)]; omega)) c6
        have c7 := wd_keep ew_13 (tg_ne (tg := tg) (by rw [hT.2 7 (by omega), hT.2 2 (by omega)]; omega)) c7
        have c8 := wd_keep ew_13 (tg_ne (tg := tg) (by rw [hT.2 8 (by omega), hT.2 2 (by omega)]; omega)) c8
        have c9 := wd_keep ew_13 (tg_ne (tg := tg) (by rw [hT.2 9 (by omega), hT.2 2 (by omega)]; omega)) c9
        have c10 := wd_keep ew_13 (tg_ne (tg := tg) (by rw [hT.2 10 (by omega), hT.2 2 (by omega)]; omega)) c10
        have c11 := wd_keep ew_13 (tg_ne (tg := tg) (by rw [hT.2 11 (by omega), hT.2 2 (by omega)]; omega)) c11
        have c12 := wd_keep ew_13 (tg_ne (tg := tg) (by rw [hT.2 12 (by omega), hT.2 2 (by omega)]; omega)) c12
        have c13 := wd_keep ew_13 (tg_ne (tg := tg) (by rw [hT.2 13 (by omega), hT.2 2 (by omega)]; omega)) c13
        have c14 := wd_keep ew_13 (tg_ne (tg := tg) (by rw [hT.2 14 (by omega), hT.2 2 (by omega)]; omega)) c14
        have c15 := wd_keep ew_13 (tg_ne (tg := tg) (by rw [hT.2 15 (by omega), hT.2 2 (by omega)]; omega)) c15
        have c16 := wd_keep ew_13 (tg_ne (tg := tg) (by rw [hT.2 16 (by omega), hT.2 2 (by omega)]; omega)) c16
        have c17 := wd_keep ew_13 (tg_ne (tg := tg) (by rw [hT.2 17 (by omega), hT.2 2 (by omega)]; omega)) c17
        have c2 : w_13 (C 2) = some (.inl (G.2.1 0, 4, .inl (upd (M 2) ((nI i) : Int32).toNatClampNeg (nI an)))) := wd_here ew_13
        rw [nI_clamp (by omega)] at c2
        refine lv_aload_n hx hb d_Mo_ends_37 rfl (lv_at hl 0 rfl) ?_
        refine wd_get S i_Mo hK hW ht0 rfl 4 (by decide) k_Mo_20 rfl rfl d_Mo_ends_38 ?_
        refine lv_iload_n hx hb d_Mo_ends_41 rfl (lv_at hl 1 rfl) ?_
        refine lv_iload_n hx hb d_Mo_ends_42 rfl (lv_at hl 3 rfl) ?_
        refine wd_iast S hK hW 0 c3 rfl (vp_in_nI (by omega) (by omega)) d_Mo_ends_43 (fun H locs w_14 ew_14 hW => ?_)
        have hmk := mk_up hmk c3 ew_14 (by rw [hT.2 3 (by omega)]; omega)
        have ht0 := wd_keep ew_14 (wd_ne ht0 c3 (by simp)) ht0
        have c0 := wd_keep ew_14 (tg_ne (tg := tg) (by rw [hT.2 0 (by omega), hT.2 3 (by omega)]; omega)) c0
        have c1 := wd_keep ew_14 (tg_ne (tg := tg) (by rw [hT.2 1 (by omega), hT.2 3 (by omega)]; omega)) c1
        have c2 := wd_keep ew_14 (tg_ne (tg := tg) (by rw [hT.2 2 (by omega), hT.2 3 (by omega)]; omega)) c2
        have c4 := wd_keep ew_14 (tg_ne (tg := tg) (by rw [hT.2 4 (by omega), hT.2 3 (by omega)]; omega)) c4
        have c5 := wd_keep ew_14 (tg_ne (tg := tg) (by rw [hT.2 5 (by omega), hT.2 3 (by omega)]; omega)) c5
        have c6 := wd_keep ew_14 (tg_ne (tg := tg) (by rw [hT.2 6 (by omega), hT.2 3 (by omega)]; omega)) c6
        have c7 := wd_keep ew_14 (tg_ne (tg := tg) (by rw [hT.2 7 (by omega), hT.2 3 (by omega)]; omega)) c7
        have c8 := wd_keep ew_14 (tg_ne (tg := tg) (by rw [hT.2 8 (by omega), hT.2 3 (by omega)]; omega)) c8
        have c9 := wd_keep ew_14 (tg_ne (tg := tg) (by rw [hT.2 9 (by omega), hT.2 3 (by omega)]; omega)) c9
        have c10 := wd_keep ew_14 (tg_ne (tg := tg) (by rw [hT.2 10 (by omega), hT.2 3 (by omega)]; omega)) c10
        have c11 := wd_keep ew_14 (tg_ne (tg := tg) (by rw [hT.2 11 (by omega), hT.2 3 (by omega)]; omega)) c11
        have c12 := wd_keep ew_14 (tg_ne (tg := tg) (by rw [hT.2 12 (by omega), hT.2 3 (by omega)]; omega)) c12
        have c13 := wd_keep ew_14 (tg_ne (tg := tg) (by rw [hT.2 13 (by omega), hT.2 3 (by omega)]; omega)) c13
        have c14 := wd_keep ew_14 (tg_ne (tg := tg) (by rw [hT.2 14 (by omega), hT.2 3 (by omega)]; omega)) c14
        have c15 := wd_keep ew_14 (tg_ne (tg := tg) (by rw [hT.2 15 (by omega), hT.2 3 (by omega)]; omega)) c15
        have c16 := wd_keep ew_14 (tg_ne (tg := tg) (by rw [hT.2 16 (by omega), hT.2 3 (by omega)]; omega)) c16
        have c17 := wd_keep ew_14 (tg_ne (tg := tg) (by rw [hT.2 17 (by omega), hT.2 3 (by omega)]; omega)) c17
        have c3 : w_14 (C 3) = some (.inl (G.2.1 0, 4, .inl (upd (M 3) ((nI i) : Int32).toNatClampNeg (nI bn)))) := wd_here ew_14
        rw [nI_clamp (by omega)] at c3
        refine lv_aload_n hx hb d_Mo_ends_44 rfl (lv_at hl 0 rfl) ?_
        refine wd_get S i_Mo hK hW ht0 rfl 5 (by decide) k_Mo_23 rfl rfl d_Mo_ends_45 ?_
        refine lv_iload_n hx hb d_Mo_ends_48 rfl (lv_at hl 1 rfl) ?_
        refine lv_iload hx hb d_Mo_ends_49 (lv_at hl 4 rfl) ?_
        refine wd_zast S hK hW 1 c4 rfl (vp_in_nI (by omega) (by omega)) d_Mo_ends_51 (fun H locs w_15 ew_15 hW => ?_)
        have hmk := mk_up hmk c4 ew_15 (by rw [hT.2 4 (by omega)]; omega)
        have ht0 := wd_keep ew_15 (wd_ne ht0 c4 (by simp)) ht0
        have c0 := wd_keep ew_15 (tg_ne (tg := tg) (by rw [hT.2 0 (by omega), hT.2 4 (by omega)]; omega)) c0
        have c1 := wd_keep ew_15 (tg_ne (tg := tg) (by rw [hT.2 1 (by omega), hT.2 4 (by omega)]; omega)) c1
        have c2 := wd_keep ew_15 (tg_ne (tg := tg) (by rw [hT.2 2 (by omega), hT.2 4 (by omega)]; omega)) c2
        have c3 := wd_keep ew_15 (tg_ne (tg := tg) (by rw [hT.2 3 (by omega), hT.2 4 (by omega)]; omega)) c3
        have c5 := wd_keep ew_15 (tg_ne (tg := tg) (by rw [hT.2 5 (by omega), hT.2 4 (by omega)]; omega)) c5
        have c6 := wd_keep ew_15 (tg_ne (tg := tg) (by rw [hT.2 6 (by omega), hT.2 4 (by omega)]; omega)) c6
        have c7 := wd_keep ew_15 (tg_ne (tg := tg) (by rw [hT.2 7 (by omega), hT.2 4 (by omega)]; omega)) c7
        have c8 := wd_keep ew_15 (tg_ne (tg := tg) (by rw [hT.2 8 (by omega), hT.2 4 (by omega)]; omega)) c8
        have c9 := wd_keep ew_15 (tg_ne (tg := tg) (by rw [hT.2 9 (by omega), hT.2 4 (by omega)]; omega)) c9
        have c10 := wd_keep ew_15 (tg_ne (tg := tg) (by rw [hT.2 10 (by omega), hT.2 4 (by omega)]; omega)) c10
        have c11 := wd_keep ew_15 (tg_ne (tg := tg) (by rw [hT.2 11 (by omega), hT.2 4 (by omega)]; omega)) c11
        have c12 := wd_keep ew_15 (tg_ne (tg := tg) (by rw [hT.2 12 (by omega), hT.2 4 (by omega)]; omega)) c12
        have c13 := wd_keep ew_15 (tg_ne (tg := tg) (by rw [hT.2 13 (by omega), hT.2 4 (by omega)]; omega)) c13
        have c14 := wd_keep ew_15 (tg_ne (tg := tg) (by rw [hT.2 14 (by omega), hT.2 4 (by omega)]; omega)) c14
        have c15 := wd_keep ew_15 (tg_ne (tg := tg) (by rw [hT.2 15 (by omega), hT.2 4 (by omega)]; omega)) c15
        have c16 := wd_keep ew_15 (tg_ne (tg := tg) (by rw [hT.2 16 (by omega), hT.2 4 (by omega)]; omega)) c16
        have c17 := wd_keep ew_15 (tg_ne (tg := tg) (by rw [hT.2 17 (by omega), hT.2 4 (by omega)]; omega)) c17
        have c4 : w_15 (C 4) = some (.inl (G.2.1 1, 4, .inl (upd (M 4) ((nI i) : Int32).toNatClampNeg (vp_nar .boolean k)))) := wd_here ew_15
        rw [nI_clamp (by omega), vpn01 hk01] at c4
        refine lv_iconst (v := 1) hx hb d_Mo_ends_52 (by decide) ?_
        have hcF : mo_c G w_15 t C (fun k9 => if k9 = 4 then upd (M 4) i k else if k9 = 3 then upd (M 3) i (nI bn) else if k9 = 2 then upd (M 2) i (nI an) else M k9) (nI (Ls.set i (lg.1, lg.2.1, an, bn, k)).length) (nI ml.length) (nI Ps.length) (nI (hy_tot Ps)) (nI Ts.length) (nI wd.length) (nI pl.length) := by rw [List.length_set]; exact ⟨ht0, c0, c1, c2, c3, c4, c5, c6, c7, c8, c9, c10, c11, c12, c13, c14, c15, c16, c17⟩
        exact ct_iret S hr rfl hlocks hW (⟨(Ls.set i (lg.1, lg.2.1, an, bn, k), Ps, Ts, ml, md, wd, pl), Or.inr ⟨hok, rfl, i, an, bn, lg, rfl, rfl, han, rfl, hbn, hlgi, rfl⟩, ⟨C, (fun k9 => if k9 = 4 then upd (M 4) i k else if k9 = 3 then upd (M 3) i (nI bn) else if k9 = 2 then upd (M 2) i (nI an) else M k9), hcF, hT, (mo_l_set hl0 hil (fun j hj h4 => ⟨fun s hs => ⟨rfl, rfl⟩, pk_un hj, pk_un hj, pk_un hj⟩) wL ⟨m01, pk_us, pk_us, pk_us⟩), (mo_pc hp0 (fun k9 h1 h2 => by show (if k9 = 4 then upd (M 4) i k else if k9 = 3 then upd (M 3) i (nI bn) else if k9 = 2 then upd (M 2) i (nI an) else M k9) = M k9; rw [if_neg (by omega), if_neg (by omega), if_neg (by omega)])), (mo_tc hq0 (fun k9 h1 h2 => by show (if k9 = 4 then upd (M 4) i k else if k9 = 3 then upd (M 3) i (nI bn) else if k9 = 2 then upd (M 2) i (nI an) else M k9) = M k9; rw [if_neg (by omega), if_neg (by omega), if_neg (by omega)])), hml, hmd, hwd, hpl⟩, hmk⟩) (Nat.le_of_ble_eq_true rfl) (Nat.le_of_ble_eq_true rfl) d_Mo_ends_53
      · refine lv_iconst (v := -1) hx hb d_Mo_ends_28 (by decide) ?_
        exact ct_iret S hr rfl hlocks hW (⟨_, Or.inl ⟨fun q => bl_f hv2 hb2 q.2.2, rfl, rfl⟩, h, mk_rf⟩) (Nat.le_of_ble_eq_true rfl) (Nat.le_of_ble_eq_true rfl) d_Mo_ends_29
