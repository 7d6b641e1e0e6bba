/-! THE CLASS: its calls (those that make no cell). -/

theorem nar01 {k : Int32} (h : k = 0 ∨ k = 1) : narrow .boolean (.int k) = .int k := by rcases h with q | q <;> rw [q] <;> rfl
theorem fit01 {k : Int32} (h : k = 0 ∨ k = 1) : fits .boolean (.int k) = true := by rcases h with q | q <;> rw [q] <;> rfl
theorem vpn01 {k : Int32} (h : k = 0 ∨ k = 1) : vp_nar .boolean k = k := by rcases h with q | q <;> rw [q] <;> rfl
/-- one language is another now -/
theorem la_upd {G : ev_G} {w u : wd_M} {tg : Nat → Nat} {la : List Nat} {Ls : List hy_L} {i a b z : Nat} {lg2 : hy_L} (h : la_ G w tg la Ls) (ha : la[i]? = some a) (ta1 : tg a = 1000 + 3 * i) (tb : tg b = 1001 + 3 * i) (tz : tg z = 1002 + 3 * i) (hk : ∀ x, w x ≠ none → ¬ (1000 + 3 * i ≤ tg x ∧ tg x ≤ 1002 + 3 * i) → u x = w x) (h1 : la_1 G u a b z lg2) : la_ G u tg la (Ls.set i lg2) := by
  refine ⟨by rw [List.length_set]; exact h.1, fun j lg hj => ?_⟩
  by_cases hji : j = i
  · subst hji
    have hl : j < (Ls.set j lg2).length := (List.getElem?_eq_some_iff.mp hj).1
    rw [List.length_set] at hl
    rw [List.getElem?_set_self hl] at hj
    cases hj
    exact ⟨a, b, z, ha, h1, ta1, tb, tz⟩
  · rw [List.getElem?_set_ne (Ne.symm hji)] at hj
    obtain ⟨a2, b2, z2, g1, ⟨g2, g3, g4⟩, t1, t2, t3⟩ := h.2 j lg hj
    exact ⟨a2, b2, z2, g1, ⟨by rw [hk a2 (wd_some g2) (by omega)]; exact g2, by rw [hk b2 (wd_some g3) (by omega)]; exact g3, by rw [hk z2 (wd_some g4) (by omega)]; exact g4⟩, t1, t2, t3⟩
/-- the parts behind a change of languages alone -/
theorem hs_la {G : ev_G} {w u : wd_M} {tg : Nat → Nat} {B E : Nat → Nat} {la pa ta : List Nat} {Ls Ls2 : List hy_L} {Ps : List hy_P} {Ts : List hy_T} (h : hs_ G w tg B E la pa ta Ls Ps Ts) (hPs : Ps.length ≤ 150) (hB : ∀ i, i < 3 → tg (B i) = 2 + i) (hk : ∀ x, w x ≠ none → ¬ (1000 ≤ tg x ∧ tg x < 2000) → u x = w x) (hd : ∀ x, u x = none ↔ w x = none) (hl : la_ G u tg la Ls2) : hs_ G u tg B E la pa ta Ls2 Ps Ts := by
  obtain ⟨⟨h0, h1, h2, hE⟩, -, hp, h3⟩ := h
  have kB : ∀ i, i < 3 → (∃ y, w (B i) = some y) → u (B i) = w (B i) := fun i hi hy => by obtain ⟨y, hy⟩ := hy; exact hk _ (wd_some hy) (by rw [hB i hi]; omega)
  have kE : ∀ i, i < 3 → w (E i) ≠ none → u (E i) = w (E i) := fun i hi hn => hk _ hn (by rw [hE i hi hn]; omega)
  exact ⟨⟨al_keep h0 (kB 0 (by omega) ⟨_, h0.choose_spec.1⟩) (kE 0 (by omega)), al_keep h1 (kB 1 (by omega) ⟨_, h1.choose_spec.1⟩) (kE 1 (by omega)), al_keep h2 (kB 2 (by omega) ⟨_, h2.choose_spec.1⟩) (kE 2 (by omega)), fun i hi hn => hE i hi (fun q => hn ((hd _).mpr q))⟩, hl, pa_keep hp (fun x hx hq => hk x hx (fun z => by have hq : 2000 ≤ tg x ∧ tg x < 10000 := hq; omega)) ex_rf hPs, ta_keep h3 (fun x hx hq => hk x hx (fun z => by have hq : 10000 ≤ tg x := hq; omega)) ex_rf⟩
/-- the class's own cells, where a write spares tags below 11 -/
theorem hc_kp {G : ev_G} {w u : wd_M} {tg : Nat → Nat} {r : Nat} {B : Nat → Nat} {F : Nat → Nat → Int32} {tot mn wn pn : Int32} (hc : hr_c G w r B F tot mn wn pn) (hg : hr_g tg r B) (hk : ∀ x, w x ≠ none → tg x < 11 → u x = w x) : hr_c G u r B F tot mn wn pn := by
  obtain ⟨hr0, a3, a4, a5, a6, a7, a8⟩ := hc
  refine ⟨?_, ?_, ?_, ?_, ?_, ?_, ?_⟩
  · rw [hk r (wd_some hr0) (by rw [hg.1]; omega)]; exact hr0
  · rw [hk _ (wd_some a3) (by rw [hg.2 3 (by omega)]; omega)]; exact a3
  · rw [hk _ (wd_some a4) (by rw [hg.2 4 (by omega)]; omega)]; exact a4
  · rw [hk _ (wd_some a5) (by rw [hg.2 5 (by omega)]; omega)]; exact a5
  · rw [hk _ (wd_some a6) (by rw [hg.2 6 (by omega)]; omega)]; exact a6
  · rw [hk _ (wd_some a7) (by rw [hg.2 7 (by omega)]; omega)]; exact a7
  · rw [hk _ (wd_some a8) (by rw [hg.2 8 (by omega)]; omega)]; exact a8

set_option maxHeartbeats 4000000 in
set_option maxRecDepth 100000 in
/-- at -/
theorem c_HR_at (l : Launch) (G : ev_G) (w : wd_M) (sz : Nat) (tg : Nat → Nat) (r : Nat) (Ls : List hy_L) (Ps : List hy_P) (Ts : List hy_T) (ml md wd : List Int32) (pl : List Nat) (x : Int32) (h : hr_ G w tg r Ls Ps Ts ml md wd pl) (hwf : hy_wf Ls Ps Ts ml md wd pl) : ct_i l y_HR_at b_HR_at 2 (some FieldType.int) (rm_ 1 0 0) G w sz [.ref r, .int x] (hq_ G w tg r (sp_at x (Ls, Ps, Ts, ml, md, wd, pl))) := by
  refine ct_enter (by decide +kernel) (Nat.le_of_ble_eq_true rfl) ?_
  intro p_ e_ s m below meth c_ hsz S hr hlocks hname hE hW ls hl
  have S : CallFix p_ m c_ b_HR_at 2 s _ lw_good "HyphenRows" := S
  have hx := S.1
  have hb := S.2.1
  have hK := hE.1
  have hl : lv_has ls 2 [(0, .ref r), (1, .int x)] := hl
  obtain ⟨B, E, F, la, pa, ta, hc, hg, hal, hla, hpa, hta, hml, hmd, hwd, hpl⟩ := id h
  have hs : hs_ G w tg B E la pa ta Ls Ps Ts := ⟨hal, hla, hpa, hta⟩
  obtain ⟨hr0, a3, a4, a5, a6, a7, a8⟩ := id hc
  obtain ⟨wL, wP, wT, wm, wml, wwd, wpl, wtot, wmx, wdx, wws, wplx, wlg, wps, wts⟩ := id hwf
  have hB3 : ∀ i, i < 3 → tg (B i) = 2 + i := fun i hi => hg.2 i (by omega)
  have hkp : kp_ w w tg (fun t => 500 ≤ t ∧ t < 600) := kp_rf
  refine lv_iload_n hx hb d_HR_at_0 rfl (lv_at hl 1 rfl) ?_
  refine lv_if_lt (tgt := 12) hx hb d_HR_at_1 (by decide) (fun h1 => ?_) (fun h1 => ?_)
  · refine lv_iconst (v := -1) hx hb d_HR_at_12 (by decide) ?_
    exact ct_iret S hr rfl hlocks hW (⟨_, tg, ⟨rfl, Or.inl ⟨fun q => q.1 h1, rfl⟩⟩, h, ex_rf, kp_rf⟩) (Nat.le_refl _) (Nat.le_refl _) d_HR_at_13
  · refine lv_iload_n hx hb d_HR_at_4 rfl (lv_at hl 1 rfl) ?_
    refine lv_aload_n hx hb d_HR_at_5 rfl (lv_at hl 0 rfl) ?_
    refine wd_get S i_HR hK hW hr0 rfl 12 (by decide) k_HR_51 rfl rfl d_HR_at_6 ?_
    refine lv_icmp_lt (tgt := 14) hx hb d_HR_at_9 (by decide) (fun h9 => ?_) (fun h9 => ?_)
    · obtain ⟨k, hk, rfl⟩ := nm_of (n := pl.length) ⟨h1, Int32.not_le.mpr h9⟩ (by omega)
      have hpk : pl[k]? = some pl[k] := List.getElem?_eq_getElem hk
      refine lv_aload_n hx hb d_HR_at_14 rfl (lv_at hl 0 rfl) ?_
      refine wd_get S i_HR hK hW hr0 rfl 11 (by decide) k_HR_48 rfl rfl d_HR_at_15 ?_
      refine lv_iload_n hx hb d_HR_at_18 rfl (lv_at hl 1 rfl) ?_
      refine wd_iald S hK hW 0 a8 rfl (vp_in_nI (by omega) (by omega)) d_HR_at_19 ?_
      rw [nI_clamp (by omega), hpl k (nI pl[k]) (by rw [List.getElem?_map, hpk]; rfl)]
      exact ct_iret S hr rfl hlocks hW (⟨_, tg, ⟨rfl, Or.inr ⟨k, pl[k], rfl, hpk, rfl⟩⟩, h, ex_rf, kp_rf⟩) (Nat.le_refl _) (Nat.le_refl _) d_HR_at_20
    · refine lv_iconst (v := -1) hx hb d_HR_at_12 (by decide) ?_
      exact ct_iret S hr rfl hlocks hW (⟨_, tg, ⟨rfl, Or.inl ⟨fun q => q.2 (Int32.not_lt.mp h9), rfl⟩⟩, h, ex_rf, kp_rf⟩) (Nat.le_refl _) (Nat.le_refl _) d_HR_at_13

set_option maxHeartbeats 4000000 in
set_option maxRecDepth 100000 in
/-- patterns -/
theorem c_HR_patterns (l : Launch) (G : ev_G) (w : wd_M) (sz : Nat) (tg : Nat → Nat) (r : Nat) (Ls : List hy_L) (Ps : List hy_P) (Ts : List hy_T) (ml md wd : List Int32) (pl : List Nat) (h : hr_ G w tg r Ls Ps Ts ml md wd pl) (hwf : hy_wf Ls Ps Ts ml md wd pl) : ct_i l y_HR_patterns b_HR_patterns 1 (some FieldType.int) (rm_ 1 0 0) G w sz [.ref r] (hq_ G w tg r (sp_patterns (Ls, Ps, Ts, ml, md, wd, pl))) := by
  refine ct_enter (by decide +kernel) (Nat.le_of_ble_eq_true rfl) ?_
  intro p_ e_ s m below meth c_ hsz S hr hlocks hname hE hW ls hl
  have S : CallFix p_ m c_ b_HR_patterns 1 s _ lw_good "HyphenRows" := S
  have hx := S.1
  have hb := S.2.1
  have hK := hE.1
  have hl : lv_has ls 1 [(0, .ref r)] := hl
  obtain ⟨B, E, F, la, pa, ta, hc, hg, hal, hla, hpa, hta, hml, hmd, hwd, hpl⟩ := id h
  have hs : hs_ G w tg B E la pa ta Ls Ps Ts := ⟨hal, hla, hpa, hta⟩
  obtain ⟨hr0, a3, a4, a5, a6, a7, a8⟩ := id hc
  obtain ⟨wL, wP, wT, wm, wml, wwd, wpl, wtot, wmx, wdx, wws, wplx, wlg, wps, wts⟩ := id hwf
  have hB3 : ∀ i, i < 3 → tg (B i) = 2 + i := fun i hi => hg.2 i (by omega)
  have hkp : kp_ w w tg (fun t => 500 ≤ t ∧ t < 600) := kp_rf
  obtain ⟨mo1, haX, he1⟩ := id hal.2.1
  refine lv_aload_n hx hb d_HR_patterns_0 rfl (lv_at hl 0 rfl) ?_
  refine wd_get S i_HR hK hW hr0 rfl 1 (by decide) k_HR_16 rfl rfl d_HR_patterns_1 ?_
  refine ct_goi hW (ct_runV (As := []) (rest := []) (q := (R_AL, F_AL, 3)) S hE hW (c_AL_size l G _ _ (B 1) (E 1) (nI pa.length) mo1 haX) haX rfl kc_AL_size kz_AL k_HR_54 ki_AL_size kv_AL_size kd_AL_size ⟨Nat.le_of_ble_eq_true rfl, Nat.le_of_ble_eq_true rfl⟩ hl.1 (Nat.le_of_ble_eq_true rfl) d_HR_patterns_4 ⟨Nat.le_of_ble_eq_true rfl, Nat.le_of_ble_eq_true rfl⟩) (fun v_3 u_1 H locs hp_2 hW => ?_)
  obtain ⟨hv, hu_4⟩ := hp_2
  rw [hu_4] at hW
  exact ct_iret S hr rfl hlocks hW (⟨_, tg, ⟨by rw [hv, hpa.1], rfl⟩, h, ex_rf, kp_rf⟩) (Nat.le_refl _) (Nat.le_refl _) d_HR_patterns_7

set_option maxHeartbeats 4000000 in
set_option maxRecDepth 100000 in
/-- exceptions -/
theorem c_HR_exceptions (l : Launch) (G : ev_G) (w : wd_M) (sz : Nat) (tg : Nat → Nat) (r : Nat) (Ls : List hy_L) (Ps : List hy_P) (Ts : List hy_T) (ml md wd : List Int32) (pl : List Nat) (h : hr_ G w tg r Ls Ps Ts ml md wd pl) (hwf : hy_wf Ls Ps Ts ml md wd pl) : ct_i l y_HR_exceptions b_HR_exceptions 1 (some FieldType.int) (rm_ 1 0 0) G w sz [.ref r] (hq_ G w tg r (sp_exceptions (Ls, Ps, Ts, ml, md, wd, pl))) := by
  refine ct_enter (by decide +kernel) (Nat.le_of_ble_eq_true rfl) ?_
  intro p_ e_ s m below meth c_ hsz S hr hlocks hname hE hW ls hl
  have S : CallFix p_ m c_ b_HR_exceptions 1 s _ lw_good "HyphenRows" := S
  have hx := S.1
  have hb := S.2.1
  have hK := hE.1
  have hl : lv_has ls 1 [(0, .ref r)] := hl
  obtain ⟨B, E, F, la, pa, ta, hc, hg, hal, hla, hpa, hta, hml, hmd, hwd, hpl⟩ := id h
  have hs : hs_ G w tg B E la pa ta Ls Ps Ts := ⟨hal, hla, hpa, hta⟩
  obtain ⟨hr0, a3, a4, a5, a6, a7, a8⟩ := id hc
  obtain ⟨wL, wP, wT, wm, wml, wwd, wpl, wtot, wmx, wdx, wws, wplx, wlg, wps, wts⟩ := id hwf
  have hB3 : ∀ i, i < 3 → tg (B i) = 2 + i := fun i hi => hg.2 i (by omega)
  have hkp : kp_ w w tg (fun t => 500 ≤ t ∧ t < 600) := kp_rf
  obtain ⟨mo2, haX, he2⟩ := id hal.2.2.1
  refine lv_aload_n hx hb d_HR_exceptions_0 rfl (lv_at hl 0 rfl) ?_
  refine wd_get S i_HR hK hW hr0 rfl 2 (by decide) k_HR_19 rfl rfl d_HR_exceptions_1 ?_
  refine ct_goi hW (ct_runV (As := []) (rest := []) (q := (R_AL, F_AL, 3)) S hE hW (c_AL_size l G _ _ (B 2) (E 2) (nI ta.length) mo2 haX) haX rfl kc_AL_size kz_AL k_HR_54 ki_AL_size kv_AL_size kd_AL_size ⟨Nat.le_of_ble_eq_true rfl, Nat.le_of_ble_eq_true rfl⟩ hl.1 (Nat.le_of_ble_eq_true rfl) d_HR_exceptions_4 ⟨Nat.le_of_ble_eq_true rfl, Nat.le_of_ble_eq_true rfl⟩) (fun v_3 u_1 H locs hp_2 hW => ?_)
  obtain ⟨hv, hu_4⟩ := hp_2
  rw [hu_4] at hW
  exact ct_iret S hr rfl hlocks hW (⟨_, tg, ⟨by rw [hv, hta.1], rfl⟩, h, ex_rf, kp_rf⟩) (Nat.le_refl _) (Nat.le_refl _) d_HR_exceptions_7

set_option maxHeartbeats 4000000 in
set_option maxRecDepth 100000 in
/-- clear -/
theorem c_HR_clear (l : Launch) (G : ev_G) (w : wd_M) (sz : Nat) (tg : Nat → Nat) (r : Nat) (Ls : List hy_L) (Ps : List hy_P) (Ts : List hy_T) (ml md wd : List Int32) (pl : List Nat) (h : hr_ G w tg r Ls Ps Ts ml md wd pl) (hwf : hy_wf Ls Ps Ts ml md wd pl) : ct_i l y_HR_clear b_HR_clear 2 (some FieldType.int) (rm_ 1 0 0) G w sz [.ref r] (hq_ G w tg r (sp_clear (Ls, Ps, Ts, ml, md, wd, pl))) := by
  refine ct_enter (by decide +kernel) (Nat.le_of_ble_eq_true rfl) ?_
  intro p_ e_ s m below meth c_ hsz S hr hlocks hname hE hW ls hl
  have S : CallFix p_ m c_ b_HR_clear 2 s _ lw_good "HyphenRows" := S
  have hx := S.1
  have hb := S.2.1
  have hK := hE.1
  have hl : lv_has ls 2 [(0, .ref r)] := hl
  obtain ⟨B, E, F, la, pa, ta, hc, hg, hal, hla, hpa, hta, hml, hmd, hwd, hpl⟩ := id h
  have hs : hs_ G w tg B E la pa ta Ls Ps Ts := ⟨hal, hla, hpa, hta⟩
  obtain ⟨hr0, a3, a4, a5, a6, a7, a8⟩ := id hc
  obtain ⟨wL, wP, wT, wm, wml, wwd, wpl, wtot, wmx, wdx, wws, wplx, wlg, wps, wts⟩ := id hwf
  have hB3 : ∀ i, i < 3 → tg (B i) = 2 + i := fun i hi => hg.2 i (by omega)
  have hkp : kp_ w w tg (fun t => 500 ≤ t ∧ t < 600) := kp_rf
  refine lv_aload_n hx hb d_HR_clear_0 rfl (lv_at hl 0 rfl) ?_
  refine wd_get S i_HR hK hW hr0 rfl 8 (by decide) k_HR_39 rfl rfl d_HR_clear_1 ?_
  refine lv_topi (fun x_1 ex_1 => ?_)
  refine lv_istore_n (lv' := [(1, .int x_1), (0, .ref r)]) hx hb d_HR_clear_4 rfl hl (by decide) rfl (fun ls hl => ?_)
  refine lv_aload_n hx hb d_HR_clear_5 rfl (lv_at hl 1 rfl) ?_
  refine lv_iconst (v := 0) hx hb d_HR_clear_6 (by decide) ?_
  refine wd_put S i_HR t_HR t_HR_ok n_HR hK hW hr0 rfl 8 (by decide) k_HR_39 rfl rfl rfl rfl (Nat.le_of_ble_eq_true rfl) d_HR_clear_7 (fun H locs w_2 ew_2 hW => ?_)
  have hs := hs_up hs wL wP hB3 hr0 ew_2 (Or.inl hg.1)
  have hkp := kp_tr hkp (up_kp ew_2 (by rw [hg.1]; show ¬ (_ ∧ _); omega))
  have a3 := wd_keep ew_2 (wd_ne a3 hr0 (by simp)) a3
  have a4 := wd_keep ew_2 (wd_ne a4 hr0 (by simp)) a4
  have a5 := wd_keep ew_2 (wd_ne a5 hr0 (by simp)) a5
  have a6 := wd_keep ew_2 (wd_ne a6 hr0 (by simp)) a6
  have a7 := wd_keep ew_2 (wd_ne a7 hr0 (by simp)) a7
  have a8 := wd_keep ew_2 (wd_ne a8 hr0 (by simp)) a8
  have hr0 : w_2 r = some (.inr (0, [.ref (B 0), .ref (B 1), .ref (B 2), .int (nI (hy_tot Ps)), .ref (B 3), .ref (B 4), .int (nI ml.length), .ref (B 5), .int 0, .ref (B 6), .ref (B 7), .ref (B 8), .int (nI pl.length)])) := wd_here ew_2
  refine lv_iload_n hx hb d_HR_clear_10 rfl (lv_at hl 0 rfl) ?_
  have hcF : hr_c G w_2 r B (F) (nI (hy_tot Ps)) (nI ml.length) (nI ([] : List Int32).length) (nI pl.length) := ⟨hr0, a3, a4, a5, a6, a7, a8⟩
  exact ct_iret S hr rfl hlocks hW (⟨(Ls, Ps, Ts, ml, md, [], pl), tg, ⟨ex_1, rfl⟩, ⟨B, E, _, la, pa, ta, hcF, hg, hs.1, hs.2.1, hs.2.2.1, hs.2.2.2, hml, hmd, li_nil, hpl⟩, ex_rf, hkp⟩) (Nat.le_refl _) (Nat.le_refl _) d_HR_clear_11

set_option maxHeartbeats 4000000 in
set_option maxRecDepth 100000 in
/-- sign -/
theorem c_HR_sign (l : Launch) (G : ev_G) (w : wd_M) (sz : Nat) (tg : Nat → Nat) (r : Nat) (Ls : List hy_L) (Ps : List hy_P) (Ts : List hy_T) (ml md wd : List Int32) (pl : List Nat) (x : Int32) (h : hr_ G w tg r Ls Ps Ts ml md wd pl) (hwf : hy_wf Ls Ps Ts ml md wd pl) : ct_i l y_HR_sign b_HR_sign 2 (some FieldType.int) (rm_ 1 0 0) G w sz [.ref r, .int x] (hq_ G w tg r (sp_sign x (Ls, Ps, Ts, ml, md, wd, pl))) := by
  refine ct_enter (by decide +kernel) (Nat.le_of_ble_eq_true rfl) ?_
  intro p_ e_ s m below meth c_ hsz S hr hlocks hname hE hW ls hl
  have S : CallFix p_ m c_ b_HR_sign 2 s _ lw_good "HyphenRows" := S
  have hx := S.1
  have hb := S.2.1
  have hK := hE.1
  have hl : lv_has ls 2 [(0, .ref r), (1, .int x)] := hl
  obtain ⟨B, E, F, la, pa, ta, hc, hg, hal, hla, hpa, hta, hml, hmd, hwd, hpl⟩ := id h
  have hs : hs_ G w tg B E la pa ta Ls Ps Ts := ⟨hal, hla, hpa, hta⟩
  obtain ⟨hr0, a3, a4, a5, a6, a7, a8⟩ := id hc
  obtain ⟨wL, wP, wT, wm, wml, wwd, wpl, wtot, wmx, wdx, wws, wplx, wlg, wps, wts⟩ := id hwf
  have hB3 : ∀ i, i < 3 → tg (B i) = 2 + i := fun i hi => hg.2 i (by omega)
  have hkp : kp_ w w tg (fun t => 500 ≤ t ∧ t < 600) := kp_rf
  refine lv_iload_n hx hb d_HR_sign_0 rfl (lv_at hl 1 rfl) ?_
  refine ct_goi hW (ct_runS (As := [.int x]) (rest := []) S hE hW (c_HR_isSign l G _ _ x) kc_HR_isSign kz_HR k_HR_69 ks_HR_isSign kd_HR_isSign ⟨Nat.le_of_ble_eq_true rfl, Nat.le_of_ble_eq_true rfl⟩ hl.1 (Nat.le_of_ble_eq_true rfl) d_HR_sign_1 ⟨Nat.le_of_ble_eq_true rfl, Nat.le_of_ble_eq_true rfl⟩) (fun v_3 u_1 H locs hp_2 hW => ?_)
  obtain ⟨hv, hu_4⟩ := hp_2
  rw [hu_4] at hW
  refine lv_if_ne (tgt := 9) hx hb d_HR_sign_4 (by decide) (fun h4 => ?_) (fun h4 => ?_)
  · have hok := ok_s256.mp (bl_t hv h4)
    refine lv_aload_n hx hb d_HR_sign_9 rfl (lv_at hl 0 rfl) ?_
    refine wd_get S i_HR hK hW hr0 rfl 8 (by decide) k_HR_39 rfl rfl d_HR_sign_10 ?_
    refine lv_bipush (v := 30) hx hb d_HR_sign_13 (by decide) ?_
    refine lv_icmp_lt (tgt := 21) hx hb d_HR_sign_15 (by decide) (fun h13 => ?_) (fun h13 => ?_)
    · have hlt : wd.length < 30 := (nI_ltI (a := wd.length) (b := 30) (by omega) (by omega)).mp h13
      refine lv_aload_n hx hb d_HR_sign_21 rfl (lv_at hl 0 rfl) ?_
      refine wd_get S i_HR hK hW hr0 rfl 7 (by decide) k_HR_36 rfl rfl d_HR_sign_22 ?_
      refine lv_aload_n hx hb d_HR_sign_25 rfl (lv_at hl 0 rfl) ?_
      refine wd_get S i_HR hK hW hr0 rfl 8 (by decide) k_HR_39 rfl rfl d_HR_sign_26 ?_
      refine lv_iload_n hx hb d_HR_sign_29 rfl (lv_at hl 1 rfl) ?_
      refine wd_iast S hK hW 0 a5 rfl (vp_in_nI (by omega) (by omega)) d_HR_sign_30 (fun H locs w_5 ew_5 hW => ?_)
      have hs := hs_up hs wL wP hB3 a5 ew_5 (Or.inr (by rw [hg.2 5 (by omega)]; omega))
      have hkp := kp_tr hkp (up_kp ew_5 (by rw [hg.2 5 (by omega)]; show ¬ (_ ∧ _); omega))
      have hr0 := wd_keep ew_5 (wd_ne hr0 a5 (by simp)) hr0
      have a3 := wd_keep ew_5 (wd_ne a3 a5 (by simp)) a3
      have a4 := wd_keep ew_5 (wd_ne a4 a5 (by simp)) a4
      have a6 := wd_keep ew_5 (wd_ne a6 a5 (by simp)) a6
      have a7 := wd_keep ew_5 (wd_ne a7 a5 (by simp)) a7
      have a8 := wd_keep ew_5 (Ne.symm (tg_ne (tg := tg) (by rw [hg.2 5 (by omega), hg.2 8 (by omega)]; omega))) a8
      have a5 : w_5 (B 5) = some (.inl (G.2.1 0, 30, .inl (upd (F 5) ((nI wd.length) : Int32).toNatClampNeg x))) := wd_here ew_5
      rw [nI_clamp (by omega)] at a5
      refine lv_aload_n hx hb d_HR_sign_31 rfl (lv_at hl 0 rfl) ?_
      refine lv_dup hx hb d_HR_sign_32 rfl ?_
      refine wd_get S i_HR hK hW hr0 rfl 8 (by decide) k_HR_39 rfl rfl d_HR_sign_33 ?_
      refine lv_iconst (v := 1) hx hb d_HR_sign_36 (by decide) ?_
      refine lv_iadd hx hb d_HR_sign_37 ?_
      refine lv_topi (fun nl enl => ?_)
      rw [nI_1] at enl
      refine wd_put S i_HR t_HR t_HR_ok n_HR hK hW hr0 rfl 8 (by decide) k_HR_39 rfl rfl rfl rfl (Nat.le_of_ble_eq_true rfl) d_HR_sign_38 (fun H locs w_6 ew_6 hW => ?_)
      have hs := hs_up hs wL wP hB3 hr0 ew_6 (Or.inl hg.1)
      have hkp := kp_tr hkp (up_kp ew_6 (by rw [hg.1]; show ¬ (_ ∧ _); omega))
      have a3 := wd_keep ew_6 (wd_ne a3 hr0 (by simp)) a3
      have a4 := wd_keep ew_6 (wd_ne a4 hr0 (by simp)) a4
      have a5 := wd_keep ew_6 (wd_ne a5 hr0 (by simp)) a5
      have a6 := wd_keep ew_6 (wd_ne a6 hr0 (by simp)) a6
      have a7 := wd_keep ew_6 (wd_ne a7 hr0 (by simp)) a7
      have a8 := wd_keep ew_6 (wd_ne a8 hr0 (by simp)) a8
      have hr0 : w_6 r = some (.inr (0, [.ref (B 0), .ref (B 1), .ref (B 2), .int (nI (hy_tot Ps)), .ref (B 3), .ref (B 4), .int (nI ml.length), .ref (B 5), .int nl, .ref (B 6), .ref (B 7), .ref (B 8), .int (nI pl.length)])) := wd_here ew_6
      refine lv_aload_n hx hb d_HR_sign_41 rfl (lv_at hl 0 rfl) ?_
      refine wd_get S i_HR hK hW hr0 rfl 8 (by decide) k_HR_39 rfl rfl d_HR_sign_42 ?_
      rw [enl] at hr0
      rw [enl]
      have hcF : hr_c G w_6 r B (fun k => if k = 5 then upd (F 5) wd.length x else F k) (nI (hy_tot Ps)) (nI ml.length) (nI (wd ++ [x]).length) (nI pl.length) := by rw [List.length_append]; exact ⟨hr0, a3, a4, a5, a6, a7, a8⟩
      exact ct_iret S hr rfl hlocks hW (⟨(Ls, Ps, Ts, ml, md, wd ++ [x], pl), tg, Or.inr (Or.inr ⟨hok, hlt, rfl, rfl⟩), ⟨B, E, _, la, pa, ta, hcF, hg, hs.1, hs.2.1, hs.2.2.1, hs.2.2.2, hml, hmd, li_put hwd, hpl⟩, ex_rf, hkp⟩) (Nat.le_refl _) (Nat.le_refl _) d_HR_sign_45
    · refine lv_bipush (v := -2) hx hb d_HR_sign_18 (by decide) ?_
      exact ct_iret S hr rfl hlocks hW (⟨_, tg, Or.inr (Or.inl ⟨hok, fun q => h13 (nI_lt (b := 30) q (by omega)), rfl, rfl⟩), h, ex_rf, kp_rf⟩) (Nat.le_refl _) (Nat.le_refl _) d_HR_sign_20
  · refine lv_iconst (v := -1) hx hb d_HR_sign_7 (by decide) ?_
    exact ct_iret S hr rfl hlocks hW (⟨_, tg, Or.inl ⟨fun q => bl_f hv h4 (ok_s256.mpr q), rfl, rfl⟩, h, ex_rf, kp_rf⟩) (Nat.le_refl _) (Nat.le_refl _) d_HR_sign_8

set_option maxHeartbeats 4000000 in
set_option maxRecDepth 100000 in
/-- next -/
theorem c_HR_next (l : Launch) (G : ev_G) (w : wd_M) (sz : Nat) (tg : Nat → Nat) (r : Nat) (Ls : List hy_L) (Ps : List hy_P) (Ts : List hy_T) (ml md wd : List Int32) (pl : List Nat) (x d : Int32) (h : hr_ G w tg r Ls Ps Ts ml md wd pl) (hwf : hy_wf Ls Ps Ts ml md wd pl) : ct_i l y_HR_next b_HR_next 3 (some FieldType.int) (rm_ 1 0 0) G w sz [.ref r, .int x, .int d] (hq_ G w tg r (sp_next x d (Ls, Ps, Ts, ml, md, wd, pl))) := by
  refine ct_enter (by decide +kernel) (Nat.le_of_ble_eq_true rfl) ?_
  intro p_ e_ s m below meth c_ hsz S hr hlocks hname hE hW ls hl
  have S : CallFix p_ m c_ b_HR_next 3 s _ lw_good "HyphenRows" := S
  have hx := S.1
  have hb := S.2.1
  have hK := hE.1
  have hl : lv_has ls 3 [(0, .ref r), (1, .int x), (2, .int d)] := hl
  obtain ⟨B, E, F, la, pa, ta, hc, hg, hal, hla, hpa, hta, hml, hmd, hwd, hpl⟩ := id h
  have hs : hs_ G w tg B E la pa ta Ls Ps Ts := ⟨hal, hla, hpa, hta⟩
  obtain ⟨hr0, a3, a4, a5, a6, a7, a8⟩ := id hc
  obtain ⟨wL, wP, wT, wm, wml, wwd, wpl, wtot, wmx, wdx, wws, wplx, wlg, wps, wts⟩ := id hwf
  have hB3 : ∀ i, i < 3 → tg (B i) = 2 + i := fun i hi => hg.2 i (by omega)
  have hkp : kp_ w w tg (fun t => 500 ≤ t ∧ t < 600) := kp_rf
  refine lv_iload_n hx hb d_HR_next_0 rfl (lv_at hl 1 rfl) ?_
  refine ct_goi hW (ct_runS (As := [.int x]) (rest := []) S hE hW (c_HR_isLetterOrZero l G _ _ x) kc_HR_isLetterOrZero kz_HR k_HR_72 ks_HR_isLetterOrZero kd_HR_isLetterOrZero ⟨Nat.le_of_ble_eq_true rfl, Nat.le_of_ble_eq_true rfl⟩ hl.1 (Nat.le_of_ble_eq_true rfl) d_HR_next_1 ⟨Nat.le_of_ble_eq_true rfl, Nat.le_of_ble_eq_true rfl⟩) (fun v_3 u_1 H locs hp_2 hW => ?_)
  obtain ⟨hv, hu_4⟩ := hp_2
  rw [hu_4] at hW
  refine lv_if_eq (tgt := 14) hx hb d_HR_next_4 (by decide) (fun h4 => ?_) (fun h4 => ?_)
  · refine lv_iconst (v := -1) hx hb d_HR_next_14 (by decide) ?_
    exact ct_iret S hr rfl hlocks hW (⟨_, tg, Or.inl ⟨fun q => bl_f hv h4 q.1, rfl, rfl⟩, h, ex_rf, kp_rf⟩) (Nat.le_refl _) (Nat.le_refl _) d_HR_next_15
  · refine lv_iload_n hx hb d_HR_next_7 rfl (lv_at hl 2 rfl) ?_
    refine ct_goi hW (ct_runS (As := [.int d]) (rest := []) S hE hW (c_HR_isDigit l G _ _ d) kc_HR_isDigit kz_HR k_HR_99 ks_HR_isDigit kd_HR_isDigit ⟨Nat.le_of_ble_eq_true rfl, Nat.le_of_ble_eq_true rfl⟩ hl.1 (Nat.le_of_ble_eq_true rfl) d_HR_next_8 ⟨Nat.le_of_ble_eq_true rfl, Nat.le_of_ble_eq_true rfl⟩) (fun v_7 u_5 H locs hp_6 hW => ?_)
    obtain ⟨hv2, hu_8⟩ := hp_6
    rw [hu_8] at hW
    refine lv_if_ne (tgt := 16) hx hb d_HR_next_11 (by decide) (fun h11 => ?_) (fun h11 => ?_)
    · have hok : ok_l x ∧ ok_d d := ⟨bl_t hv h4, bl_t hv2 h11⟩
      refine lv_aload_n hx hb d_HR_next_16 rfl (lv_at hl 0 rfl) ?_
      refine wd_get S i_HR hK hW hr0 rfl 6 (by decide) k_HR_33 rfl rfl d_HR_next_17 ?_
      refine lv_bipush (v := 12) hx hb d_HR_next_20 (by decide) ?_
      refine lv_icmp_lt (tgt := 28) hx hb d_HR_next_22 (by decide) (fun h22 => ?_) (fun h22 => ?_)
      · have hlt : ml.length < 12 := (nI_ltI (a := ml.length) (b := 12) (by omega) (by omega)).mp h22
        refine lv_aload_n hx hb d_HR_next_28 rfl (lv_at hl 0 rfl) ?_
        refine wd_get S i_HR hK hW hr0 rfl 4 (by decide) k_HR_26 rfl rfl d_HR_next_29 ?_
        refine lv_aload_n hx hb d_HR_next_32 rfl (lv_at hl 0 rfl) ?_
        refine wd_get S i_HR hK hW hr0 rfl 6 (by decide) k_HR_33 rfl rfl d_HR_next_33 ?_
        refine lv_iload_n hx hb d_HR_next_36 rfl (lv_at hl 1 rfl) ?_
        refine wd_iast S hK hW 0 a3 rfl (vp_in_nI (by omega) (by omega)) d_HR_next_37 (fun H locs w_9 ew_9 hW => ?_)
        have hs := hs_up hs wL wP hB3 a3 ew_9 (Or.inr (by rw [hg.2 3 (by omega)]; omega))
        have hkp := kp_tr hkp (up_kp ew_9 (by rw [hg.2 3 (by omega)]; show ¬ (_ ∧ _); omega))
        have hr0 := wd_keep ew_9 (wd_ne hr0 a3 (by simp)) hr0
        have a4 := wd_keep ew_9 (wd_ne a4 a3 (by simp)) a4
        have a5 := wd_keep ew_9 (wd_ne a5 a3 (by simp)) a5
        have a6 := wd_keep ew_9 (wd_ne a6 a3 (by simp)) a6
        have a7 := wd_keep ew_9 (wd_ne a7 a3 (by simp)) a7
        have a8 := wd_keep ew_9 (wd_ne a8 a3 (by simp)) a8
        have a3 : w_9 (B 3) = some (.inl (G.2.1 0, 12, .inl (upd (F 3) ((nI ml.length) : Int32).toNatClampNeg x))) := wd_here ew_9
        rw [nI_clamp (by omega)] at a3
        refine lv_aload_n hx hb d_HR_next_38 rfl (lv_at hl 0 rfl) ?_
        refine wd_get S i_HR hK hW hr0 rfl 5 (by decide) k_HR_30 rfl rfl d_HR_next_39 ?_
        refine lv_aload_n hx hb d_HR_next_42 rfl (lv_at hl 0 rfl) ?_
        refine wd_get S i_HR hK hW hr0 rfl 6 (by decide) k_HR_33 rfl rfl d_HR_next_43 ?_
        refine lv_iload_n hx hb d_HR_next_46 rfl (lv_at hl 2 rfl) ?_
        refine wd_iast S hK hW 0 a4 rfl (vp_in_nI (by omega) (by omega)) d_HR_next_47 (fun H locs w_10 ew_10 hW => ?_)
        have hs := hs_up hs wL wP hB3 a4 ew_10 (Or.inr (by rw [hg.2 4 (by omega)]; omega))
        have hkp := kp_tr hkp (up_kp ew_10 (by rw [hg.2 4 (by omega)]; show ¬ (_ ∧ _); omega))
        have hr0 := wd_keep ew_10 (wd_ne hr0 a4 (by simp)) hr0
        have a3 := wd_keep ew_10 (wd_ne a3 a4 (by simp)) a3
        have a5 := wd_keep ew_10 (wd_ne a5 a4 (by simp)) a5
        have a6 := wd_keep ew_10 (wd_ne a6 a4 (by simp)) a6
        have a7 := wd_keep ew_10 (wd_ne a7 a4 (by simp)) a7
        have a8 := wd_keep ew_10 (wd_ne a8 a4 (by simp)) a8
        have a4 : w_10 (B 4) = some (.inl (G.2.1 0, 13, .inl (upd (F 4) ((nI ml.length) : Int32).toNatClampNeg d))) := wd_here ew_10
        rw [nI_clamp (by omega)] at a4
        refine lv_aload_n hx hb d_HR_next_48 rfl (lv_at hl 0 rfl) ?_
        refine lv_dup hx hb d_HR_next_49 rfl ?_
        refine wd_get S i_HR hK hW hr0 rfl 6 (by decide) k_HR_33 rfl rfl d_HR_next_50 ?_
        refine lv_iconst (v := 1) hx hb d_HR_next_53 (by decide) ?_
        refine lv_iadd hx hb d_HR_next_54 ?_
        refine lv_topi (fun nl enl => ?_)
        rw [nI_1] at enl
        refine wd_put S i_HR t_HR t_HR_ok n_HR hK hW hr0 rfl 6 (by decide) k_HR_33 rfl rfl rfl rfl (Nat.le_of_ble_eq_true rfl) d_HR_next_55 (fun H locs w_11 ew_11 hW => ?_)
        have hs := hs_up hs wL wP hB3 hr0 ew_11 (Or.inl hg.1)
        have hkp := kp_tr hkp (up_kp ew_11 (by rw [hg.1]; show ¬ (_ ∧ _); omega))
        have a3 := wd_keep ew_11 (wd_ne a3 hr0 (by simp)) a3
        have a4 := wd_keep ew_11 (wd_ne a4 hr0 (by simp)) a4
        have a5 := wd_keep ew_11 (wd_ne a5 hr0 (by simp)) a5
        have a6 := wd_keep ew_11 (wd_ne a6 hr0 (by simp)) a6
        have a7 := wd_keep ew_11 (wd_ne a7 hr0 (by simp)) a7
        have a8 := wd_keep ew_11 (wd_ne a8 hr0 (by simp)) a8
        have hr0 : w_11 r = some (.inr (0, [.ref (B 0), .ref (B 1), .ref (B 2), .int (nI (hy_tot Ps)), .ref (B 3), .ref (B 4), .int nl, .ref (B 5), .int (nI wd.length), .ref (B 6), .ref (B 7), .ref (B 8), .int (nI pl.length)])) := wd_here ew_11
        refine lv_aload_n hx hb d_HR_next_58 rfl (lv_at hl 0 rfl) ?_
        refine wd_get S i_HR hK hW hr0 rfl 6 (by decide) k_HR_33 rfl rfl d_HR_next_59 ?_
        rw [enl] at hr0
        rw [enl]
        have hmd2 : li_ (md ++ [d]) (upd (F 4) ml.length d) := by rw [wm]; exact li_put hmd
        have hcF : hr_c G w_11 r B (fun k => if k = 3 then upd (F 3) ml.length x else if k = 4 then upd (F 4) ml.length d else F k) (nI (hy_tot Ps)) (nI (ml ++ [x]).length) (nI wd.length) (nI pl.length) := by rw [List.length_append]; exact ⟨hr0, a3, a4, a5, a6, a7, a8⟩
        exact ct_iret S hr rfl hlocks hW (⟨(Ls, Ps, Ts, ml ++ [x], md ++ [d], wd, pl), tg, Or.inr (Or.inr ⟨hok, hlt, rfl, rfl⟩), ⟨B, E, _, la, pa, ta, hcF, hg, hs.1, hs.2.1, hs.2.2.1, hs.2.2.2, li_put hml, hmd2, hwd, hpl⟩, ex_rf, hkp⟩) (Nat.le_refl _) (Nat.le_refl _) d_HR_next_62
      · refine lv_bipush (v := -2) hx hb d_HR_next_25 (by decide) ?_
        exact ct_iret S hr rfl hlocks hW (⟨_, tg, Or.inr (Or.inl ⟨hok, fun q => h22 (nI_lt (b := 12) q (by omega)), rfl, rfl⟩), h, ex_rf, kp_rf⟩) (Nat.le_refl _) (Nat.le_refl _) d_HR_next_27
    · refine lv_iconst (v := -1) hx hb d_HR_next_14 (by decide) ?_
      exact ct_iret S hr rfl hlocks hW (⟨_, tg, Or.inl ⟨fun q => bl_f hv2 h11 q.2, rfl, rfl⟩, h, ex_rf, kp_rf⟩) (Nat.le_refl _) (Nat.le_refl _) d_HR_next_15

set_option maxHeartbeats 4000000 in
set_option maxRecDepth 100000 in
/-- digit -/
theorem c_HR_digit (l : Launch) (G : ev_G) (w : wd_M) (sz : Nat) (tg : Nat → Nat) (r : Nat) (Ls : List hy_L) (Ps : List hy_P) (Ts : List hy_T) (ml md wd : List Int32) (pl : List Nat) (x y : Int32) (h : hr_ G w tg r Ls Ps Ts ml md wd pl) (hwf : hy_wf Ls Ps Ts ml md wd pl) : ct_i l y_HR_digit b_HR_digit 3 (some FieldType.int) (rm_ 5 0 0) G w sz [.ref r, .int x, .int y] (hq_ G w tg r (sp_digit x y (Ls, Ps, Ts, ml, md, wd, pl))) := by
  refine ct_enter (by decide +kernel) (Nat.le_of_ble_eq_true rfl) ?_
  intro p_ e_ s m below meth c_ hsz S hr hlocks hname hE hW ls hl
  have S : CallFix p_ m c_ b_HR_digit 3 s _ lw_good "HyphenRows" := S
  have hx := S.1
  have hb := S.2.1
  have hK := hE.1
  have hl : lv_has ls 3 [(0, .ref r), (1, .int x), (2, .int y)] := hl
  obtain ⟨B, E, F, la, pa, ta, hc, hg, hal, hla, hpa, hta, hml, hmd, hwd, hpl⟩ := id h
  have hs : hs_ G w tg B E la pa ta Ls Ps Ts := ⟨hal, hla, hpa, hta⟩
  obtain ⟨hr0, a3, a4, a5, a6, a7, a8⟩ := id hc
  obtain ⟨wL, wP, wT, wm, wml, wwd, wpl, wtot, wmx, wdx, wws, wplx, wlg, wps, wts⟩ := id hwf
  have hB3 : ∀ i, i < 3 → tg (B i) = 2 + i := fun i hi => hg.2 i (by omega)
  have hkp : kp_ w w tg (fun t => 500 ≤ t ∧ t < 600) := kp_rf
  obtain ⟨mo0, haL, he0⟩ := id hs.1.1
  refine lv_aload_n hx hb d_HR_digit_0 rfl (lv_at hl 0 rfl) ?_
  refine lv_iload_n hx hb d_HR_digit_1 rfl (lv_at hl 1 rfl) ?_
  refine ct_goi hW (ct_runV (As := [.int x]) (rest := []) (q := (R_HR, F_HR, 13)) S hE hW (c_HR_isLanguage l G _ _ r B E F (nI (hy_tot Ps)) (nI ml.length) (nI wd.length) (nI pl.length) la x hc hal.1) hr0 rfl kc_HR_isLanguage kz_HR k_HR_65 ki_HR_isLanguage kv_HR_isLanguage kd_HR_isLanguage ⟨Nat.le_of_ble_eq_true rfl, Nat.le_of_ble_eq_true rfl⟩ hl.1 (Nat.le_of_ble_eq_true rfl) d_HR_digit_2 ⟨Nat.le_of_ble_eq_true rfl, Nat.le_of_ble_eq_true rfl⟩) (fun v_3 u_1 H locs hp_2 hW => ?_)
  obtain ⟨hv, hu_4⟩ := hp_2
  rw [hu_4] at hW
  rw [hla.1] at hv
  refine lv_if_eq (tgt := 20) hx hb d_HR_digit_5 (by decide) (fun h5 => ?_) (fun h5 => ?_)
  · refine lv_iconst (v := -1) hx hb d_HR_digit_20 (by decide) ?_
    exact ct_iret S hr rfl hlocks hW (⟨_, tg, ⟨rfl, Or.inl ⟨fun q => bl_f hv h5 q.1, rfl⟩⟩, h, ex_rf, kp_rf⟩) (Nat.le_refl _) (Nat.le_refl _) d_HR_digit_21
  · refine lv_iload_n hx hb d_HR_digit_8 rfl (lv_at hl 2 rfl) ?_
    refine lv_if_lt (tgt := 20) hx hb d_HR_digit_9 (by decide) (fun h9 => ?_) (fun h9 => ?_)
    · refine lv_iconst (v := -1) hx hb d_HR_digit_20 (by decide) ?_
      exact ct_iret S hr rfl hlocks hW (⟨_, tg, ⟨rfl, Or.inl ⟨fun q => q.2.1 h9, rfl⟩⟩, h, ex_rf, kp_rf⟩) (Nat.le_refl _) (Nat.le_refl _) d_HR_digit_21
    · refine lv_iload_n hx hb d_HR_digit_12 rfl (lv_at hl 2 rfl) ?_
      refine lv_aload_n hx hb d_HR_digit_13 rfl (lv_at hl 0 rfl) ?_
      refine wd_get S i_HR hK hW hr0 rfl 8 (by decide) k_HR_39 rfl rfl d_HR_digit_14 ?_
      refine lv_icmp_le (tgt := 22) hx hb d_HR_digit_17 (by decide) (fun h17 => ?_) (fun h17 => ?_)
      · have hnm0 := bl_t hv h5
        have hnm : nm_ x la.length := by rw [hla.1]; exact hnm0
        obtain ⟨k, hk, rfl⟩ : ∃ k : Nat, k ≤ wd.length ∧ y = nI k := nI_of2 (nI_toInt (by omega)) h9 h17
        obtain ⟨i, hil, rfl⟩ := nm_of hnm (by rw [hla.1]; omega)
        have hil2 : i < Ls.length := by rw [← hla.1]; exact hil
        have hlgi : Ls[i]? = some Ls[i] := List.getElem?_eq_getElem hil2
        generalize Ls[i] = lg at hlgi
        obtain ⟨a, b, z, e1, hla1, tga, tgb, tgz⟩ := hs.2.1.2 i lg hlgi
        have hlgm := wlg lg (List.mem_of_getElem? hlgi)
        obtain ⟨mo0, haL, he0⟩ := id hs.1.1
        refine lv_aload_n hx hb d_HR_digit_22 rfl (lv_at hl 0 rfl) ?_
        refine lv_aload_n hx hb d_HR_digit_23 rfl (lv_at hl 0 rfl) ?_
        refine wd_get S i_HR hK hW hr0 rfl 0 (by decide) k_HR_10 rfl rfl d_HR_digit_24 ?_
        refine lv_iload_n hx hb d_HR_digit_27 rfl (lv_at hl 1 rfl) ?_
        refine ct_goq hW (ct_runV (As := [.int (nI i)]) (rest := [.ref r]) (q := (R_AL, F_AL, 3)) S hE hW (c_AL_get l G _ _ (B 0) (E 0) la i hs.1.1 hil) haL rfl kc_AL_get kz_AL k_HR_75 ki_AL_get kv_AL_get kd_AL_get ⟨Nat.le_of_ble_eq_true rfl, Nat.le_of_ble_eq_true rfl⟩ hl.1 (Nat.le_of_ble_eq_true rfl) d_HR_digit_28 ⟨Nat.le_of_ble_eq_true rfl, Nat.le_of_ble_eq_true rfl⟩) (fun v_7 u_5 H locs hp_6 hW => ?_)
        obtain ⟨hvg, hu_8⟩ := hp_6
        rw [hu_8] at hW
        rw [hvg, e1]
        refine W.eq (g2 := F0 m 31 ls [.ref a, .ref r]) rfl ?_
        refine wd_cast S (T := F_La) (N := 5) k_HR_58 hK hW hla1.1 rfl d_HR_digit_31 ?_
        obtain ⟨q1, q2, q3⟩ := id hla1
        refine ct_goi hW (ct_runV (As := [.ref a]) (rest := []) (q := (R_HR, F_HR, 13)) S hE hW (c_HR_spellWord l G _ _ r B F (nI (hy_tot Ps)) (nI ml.length) (nI pl.length) a b z lg wd hc hla1 hwd wwd wws) hr0 rfl kc_HR_spellWord kz_HR k_HR_123 ki_HR_spellWord kv_HR_spellWord kd_HR_spellWord ⟨Nat.le_of_ble_eq_true rfl, Nat.le_of_ble_eq_true rfl⟩ hl.1 (Nat.le_of_ble_eq_true rfl) d_HR_digit_34 ⟨Nat.le_of_ble_eq_true rfl, Nat.le_of_ble_eq_true rfl⟩) (fun v_11 u_9 H locs hp_10 hW => ?_)
        obtain ⟨hv6, g6, eu, hrow⟩ := hp_10
        have hs := hs_up hs wL wP hB3 a6 eu (Or.inr (by rw [hg.2 6 (by omega)]; omega))
        have hkp := kp_tr hkp (up_kp eu (by rw [hg.2 6 (by omega)]; show ¬ (_ ∧ _); omega))
        have hc1 := hc_6 hc eu
        refine lv_if_ne (tgt := 42) hx hb d_HR_digit_37 (by decide) (fun h37 => ?_) (fun h37 => ?_)
        · have hsp := bl_t hv6 h37
          have hll : (hy_let lg wd).length = wd.length := List.length_map _
          have hcl : hr_c G u_9 r B (fun k => if k = 6 then g6 else F k) (nI (hy_tot Ps)) (nI ml.length) (nI (hy_let lg wd).length) (nI pl.length) := by rw [hll]; exact hc1
          have hr1 := hc1.1
          refine lv_aload_n hx hb d_HR_digit_42 rfl (lv_at hl 0 rfl) ?_
          refine lv_iload_n hx hb d_HR_digit_43 rfl (lv_at hl 1 rfl) ?_
          refine ct_gov hW (ct_runV (As := [.int (nI i)]) (rest := []) (q := (R_HR, F_HR, 13)) S hE hW (c_HR_findRowDigits l G _ _ r i B E (fun k => if k = 6 then g6 else F k) (nI (hy_tot Ps)) (nI ml.length) (nI pl.length) tg pa ta Ps Ts (hy_let lg wd) hcl hg hs.1.2.1 hs.2.2.1 wps wP (hrow hsp) (by omega) (by omega) hs.1.2.2.1 hs.2.2.2 wts wT) hr1 rfl kc_HR_findRowDigits kz_HR k_HR_151 ki_HR_findRowDigits kv_HR_findRowDigits kd_HR_findRowDigits ⟨Nat.le_of_ble_eq_true rfl, Nat.le_of_ble_eq_true rfl⟩ hl.1 (Nat.le_of_ble_eq_true rfl) d_HR_digit_44 ⟨Nat.le_of_ble_eq_true rfl, Nat.le_of_ble_eq_true rfl⟩) (fun u_12 H locs hp_13 hW => ?_)
          obtain ⟨g7, eu2, hdig⟩ := hp_13
          have hs := hs_up hs wL wP hB3 hc1.2.2.2.2.2.1 eu2 (Or.inr (by rw [hg.2 7 (by omega)]; omega))
          have hkp := kp_tr hkp (up_kp eu2 (by rw [hg.2 7 (by omega)]; show ¬ (_ ∧ _); omega))
          have hc2 := hc_7 hc1 eu2
          obtain ⟨hr0, a3, a4, a5, a6, a7, a8⟩ := id hc2
          refine lv_aload_n hx hb d_HR_digit_47 rfl (lv_at hl 0 rfl) ?_
          refine wd_get S i_HR hK hW hr0 rfl 10 (by decide) k_HR_45 rfl rfl d_HR_digit_48 ?_
          refine lv_iload_n hx hb d_HR_digit_51 rfl (lv_at hl 2 rfl) ?_
          refine lv_iconst (v := 1) hx hb d_HR_digit_52 (by decide) ?_
          refine lv_iadd hx hb d_HR_digit_53 ?_
          rw [nI_1]
          refine wd_iald S hK hW 0 a7 rfl (vp_in_nI (by omega) (by omega)) d_HR_digit_54 ?_
          rw [nI_clamp (by omega)]
          exact ct_iret S hr rfl hlocks hW (⟨_, tg, ⟨rfl, Or.inr ⟨⟨hnm0, nI_pos (n := k) (by omega), nI_nlt (a := wd.length) (b := k) hk (by omega)⟩, i, k, lg, rfl, rfl, hk, hlgi, Or.inr ⟨hsp, hdig k (by rw [hll]; exact hk)⟩⟩⟩, ⟨B, E, _, la, pa, ta, hc2, hg, hs.1, hs.2.1, hs.2.2.1, hs.2.2.2, hml, hmd, hwd, hpl⟩, ex_rf, hkp⟩) (Nat.le_refl _) (Nat.le_refl _) d_HR_digit_55
        · refine lv_iconst (v := 0) hx hb d_HR_digit_40 (by decide) ?_
          exact ct_iret S hr rfl hlocks hW (⟨_, tg, ⟨rfl, Or.inr ⟨⟨hnm0, nI_pos (n := k) (by omega), nI_nlt (a := wd.length) (b := k) hk (by omega)⟩, i, k, lg, rfl, rfl, hk, hlgi, Or.inl ⟨bl_f hv6 h37, rfl⟩⟩⟩, ⟨B, E, _, la, pa, ta, hc1, hg, hs.1, hs.2.1, hs.2.2.1, hs.2.2.2, hml, hmd, hwd, hpl⟩, ex_rf, hkp⟩) (Nat.le_refl _) (Nat.le_refl _) d_HR_digit_41
      · refine lv_iconst (v := -1) hx hb d_HR_digit_20 (by decide) ?_
        exact ct_iret S hr rfl hlocks hW (⟨_, tg, ⟨rfl, Or.inl ⟨fun q => q.2.2 (Int32.not_le.mp h17), rfl⟩⟩, h, ex_rf, kp_rf⟩) (Nat.le_refl _) (Nat.le_refl _) d_HR_digit_21

set_option maxHeartbeats 4000000 in
set_option maxRecDepth 100000 in
/-- code -/
theorem c_HR_code (l : Launch) (G : ev_G) (w : wd_M) (sz : Nat) (tg : Nat → Nat) (r : Nat) (Ls : List hy_L) (Ps : List hy_P) (Ts : List hy_T) (ml md wd : List Int32) (pl : List Nat) (x g c k : Int32) (h : hr_ G w tg r Ls Ps Ts ml md wd pl) (hwf : hy_wf Ls Ps Ts ml md wd pl) (hk01 : k = 0 ∨ k = 1) : ct_i l y_HR_code b_HR_code 6 (some FieldType.int) (rm_ 3 0 0) G w sz [.ref r, .int x, .int g, .int c, .int k] (hq_ G w tg r (sp_code x g c k (Ls, Ps, Ts, ml, md, wd, pl))) := by
  refine ct_enter (by decide +kernel) (Nat.le_of_ble_eq_true rfl) ?_
  intro p_ e_ s m below meth c_ hsz S hr hlocks hname hE hW ls hl
  have S : CallFix p_ m c_ b_HR_code 6 s _ lw_good "HyphenRows" := S
  have hx := S.1
  have hb := S.2.1
  have hK := hE.1
  have hl : lv_has ls 6 [(0, .ref r), (1, .int x), (2, .int g), (3, .int c), (4, .int k)] := hl
  obtain ⟨B, E, F, la, pa, ta, hc, hg, hal, hla, hpa, hta, hml, hmd, hwd, hpl⟩ := id h
  have hs : hs_ G w tg B E la pa ta Ls Ps Ts := ⟨hal, hla, hpa, hta⟩
  obtain ⟨hr0, a3, a4, a5, a6, a7, a8⟩ := id hc
  obtain ⟨wL, wP, wT, wm, wml, wwd, wpl, wtot, wmx, wdx, wws, wplx, wlg, wps, wts⟩ := id hwf
  have hB3 : ∀ i, i < 3 → tg (B i) = 2 + i := fun i hi => hg.2 i (by omega)
  have hkp : kp_ w w tg (fun t => 500 ≤ t ∧ t < 600) := kp_rf
  obtain ⟨mo0, haL, he0⟩ := id hs.1.1
  refine lv_aload_n hx hb d_HR_code_0 rfl (lv_at hl 0 rfl) ?_
  refine lv_iload_n hx hb d_HR_code_1 rfl (lv_at hl 1 rfl) ?_
  refine ct_goi hW (ct_runV (As := [.int x]) (rest := []) (q := (R_HR, F_HR, 13)) S hE hW (c_HR_isLanguage l G _ _ r B E F (nI (hy_tot Ps)) (nI ml.length) (nI wd.length) (nI pl.length) la x hc hal.1) hr0 rfl kc_HR_isLanguage kz_HR k_HR_65 ki_HR_isLanguage kv_HR_isLanguage kd_HR_isLanguage ⟨Nat.le_of_ble_eq_true rfl, Nat.le_of_ble_eq_true rfl⟩ hl.1 (Nat.le_of_ble_eq_true rfl) d_HR_code_2 ⟨Nat.le_of_ble_eq_true rfl, Nat.le_of_ble_eq_true rfl⟩) (fun v_3 u_1 H locs hp_2 hW => ?_)
  obtain ⟨hv, hu_4⟩ := hp_2
  rw [hu_4] at hW
  rw [hla.1] at hv
  refine lv_if_eq (tgt := 22) hx hb d_HR_code_5 (by decide) (fun hb0 => ?_) (fun hb0 => ?_)
  · refine lv_iconst (v := -1) hx hb d_HR_code_22 (by decide) ?_
    exact ct_iret S hr rfl hlocks hW (⟨_, tg, Or.inl ⟨fun q => bl_f hv hb0 q.1, rfl, rfl⟩, h, ex_rf, kp_rf⟩) (Nat.le_refl _) (Nat.le_refl _) d_HR_code_23
  · refine lv_iload_n hx hb d_HR_code_8 rfl (lv_at hl 2 rfl) ?_
    refine ct_goi hW (ct_runS (As := [.int g]) (rest := []) S hE hW (c_HR_isSign l G _ _ g) kc_HR_isSign kz_HR k_HR_69 ks_HR_isSign kd_HR_isSign ⟨Nat.le_of_ble_eq_true rfl, Nat.le_of_ble_eq_true rfl⟩ hl.1 (Nat.le_of_ble_eq_true rfl) d_HR_code_9 ⟨Nat.le_of_ble_eq_true rfl, Nat.le_of_ble_eq_true rfl⟩) (fun v_7 u_5 H locs hp_6 hW => ?_)
    obtain ⟨hv1, hu_8⟩ := hp_6
    rw [hu_8] at hW
    refine lv_if_eq (tgt := 22) hx hb d_HR_code_12 (by decide) (fun hb1 => ?_) (fun hb1 => ?_)
    · refine lv_iconst (v := -1) hx hb d_HR_code_22 (by decide) ?_
      exact ct_iret S hr rfl hlocks hW (⟨_, tg, Or.inl ⟨fun q => bl_f hv1 hb1 (ok_s256.mpr q.2.1), rfl, rfl⟩, h, ex_rf, kp_rf⟩) (Nat.le_refl _) (Nat.le_refl _) d_HR_code_23
    · refine lv_iload_n hx hb d_HR_code_15 rfl (lv_at hl 3 rfl) ?_
      refine ct_goi hW (ct_runS (As := [.int c]) (rest := []) S hE hW (c_HR_isLetterOrZero l G _ _ c) kc_HR_isLetterOrZero kz_HR k_HR_72 ks_HR_isLetterOrZero kd_HR_isLetterOrZero ⟨Nat.le_of_ble_eq_true rfl, Nat.le_of_ble_eq_true rfl⟩ hl.1 (Nat.le_of_ble_eq_true rfl) d_HR_code_16 ⟨Nat.le_of_ble_eq_true rfl, Nat.le_of_ble_eq_true rfl⟩) (fun v_11 u_9 H locs hp_10 hW => ?_)
      obtain ⟨hv2, hu_12⟩ := hp_10
      rw [hu_12] at hW
      refine lv_if_ne (tgt := 24) hx hb d_HR_code_19 (by decide) (fun hb2 => ?_) (fun hb2 => ?_)
      · have hnm0 := bl_t hv hb0
        have hnm : nm_ x la.length := by rw [hla.1]; exact hnm0
        have hok : nm_ x Ls.length ∧ ok_s g ∧ ok_l c := ⟨hnm0, ok_s256.mp (bl_t hv1 hb1), bl_t hv2 hb2⟩
        obtain ⟨gn, hgn, rfl⟩ := ok_nat (n := 255) hok.2.1 (by decide)
        obtain ⟨i, hil, rfl⟩ := nm_of hnm (by rw [hla.1]; omega)
        have hil2 : i < Ls.length := by rw [← hla.1]; exact hil
        have hlgi : Ls[i]? = some Ls[i] := List.getElem?_eq_getElem hil2
        generalize Ls[i] = lg at hlgi
        obtain ⟨a, b, z, e1, hla1, tga, tgb, tgz⟩ := hs.2.1.2 i lg hlgi
        have hlgm := wlg lg (List.mem_of_getElem? hlgi)
        obtain ⟨mo0, haL, he0⟩ := id hs.1.1
        refine lv_aload_n hx hb d_HR_code_24 rfl (lv_at hl 0 rfl) ?_
        refine wd_get S i_HR hK hW hr0 rfl 0 (by decide) k_HR_10 rfl rfl d_HR_code_25 ?_
        refine lv_iload_n hx hb d_HR_code_28 rfl (lv_at hl 1 rfl) ?_
        refine ct_goq hW (ct_runV (As := [.int (nI i)]) (rest := []) (q := (R_AL, F_AL, 3)) S hE hW (c_AL_get l G _ _ (B 0) (E 0) la i hs.1.1 hil) haL rfl kc_AL_get kz_AL k_HR_75 ki_AL_get kv_AL_get kd_AL_get ⟨Nat.le_of_ble_eq_true rfl, Nat.le_of_ble_eq_true rfl⟩ hl.1 (Nat.le_of_ble_eq_true rfl) d_HR_code_29 ⟨Nat.le_of_ble_eq_true rfl, Nat.le_of_ble_eq_true rfl⟩) (fun v_15 u_13 H locs hp_14 hW => ?_)
        obtain ⟨hvg, hu_16⟩ := hp_14
        rw [hu_16] at hW
        rw [hvg, e1]
        refine W.eq (g2 := F0 m 32 ls [.ref a]) rfl ?_
        refine wd_cast S (T := F_La) (N := 5) k_HR_58 hK hW hla1.1 rfl d_HR_code_32 ?_
        obtain ⟨q1, q2, q3⟩ := id hla1
        refine lv_astore (lv' := [(5, .ref a), (0, .ref r), (1, .int (nI i)), (2, .int (nI gn)), (3, .int c), (4, .int k)]) hx hb d_HR_code_35 hl (by decide) rfl (fun ls hl => ?_)
        refine lv_aload hx hb d_HR_code_37 (lv_at hl 0 rfl) ?_
        refine wd_get S i_La hK hW q1 rfl 0 (by decide) k_HR_79 rfl rfl d_HR_code_39 ?_
        refine lv_iload_n hx hb d_HR_code_42 rfl (lv_at hl 3 rfl) ?_
        refine lv_iload_n hx hb d_HR_code_43 rfl (lv_at hl 4 rfl) ?_
        refine wd_iast S hK hW 0 q2 rfl (vp_in_nI (by omega) (by omega)) d_HR_code_44 (fun H locs w_17 ew_17 hW => ?_)
        have q1 := wd_keep ew_17 (wd_ne q1 q2 (by simp)) q1
        have q3 := wd_keep ew_17 (tg_ne (tg := tg) (by rw [tgb, tgz]; omega)) q3
        have q2 : w_17 b = some (.inl (G.2.1 0, 256, .inl (upd lg.1 ((nI gn) : Int32).toNatClampNeg c))) := wd_here ew_17
        rw [nI_clamp (by omega)] at q2
        refine lv_aload hx hb d_HR_code_45 (lv_at hl 0 rfl) ?_
        refine wd_get S i_La hK hW q1 rfl 1 (by decide) k_HR_82 rfl rfl d_HR_code_47 ?_
        refine lv_iload_n hx hb d_HR_code_50 rfl (lv_at hl 3 rfl) ?_
        refine lv_iload hx hb d_HR_code_51 (lv_at hl 5 rfl) ?_
        refine wd_zast S hK hW 1 q3 rfl (vp_in_nI (by omega) (by omega)) d_HR_code_53 (fun H locs w_18 ew_18 hW => ?_)
        have q1 := wd_keep ew_18 (wd_ne q1 q3 (by simp)) q1
        have q2 := wd_keep ew_18 (Ne.symm (tg_ne (tg := tg) (by rw [tgb, tgz]; omega))) q2
        have q3 : w_18 z = some (.inl (G.2.1 1, 256, .inl (upd lg.2.1 ((nI gn) : Int32).toNatClampNeg (vp_nar .boolean k)))) := wd_here ew_18
        rw [nI_clamp (by omega), vpn01 hk01] at q3
        refine lv_iconst (v := 1) hx hb d_HR_code_54 (by decide) ?_
        have hk : ∀ y, w y ≠ none → ¬ (1000 + 3 * i ≤ tg y ∧ tg y ≤ 1002 + 3 * i) → w_18 y = w y := fun y _ hq => by rw [ew_18, va_up_ne _ _ (tg_ne (tg := tg) (by omega)), ew_17, va_up_ne _ _ (tg_ne (tg := tg) (by omega))]
        have hd : ∀ y, w_18 y = none ↔ w y = none := fun y => by rw [ew_18, ew_17]; exact up_dom2 hla1.2.1 hla1.2.2
        have hla2 := la_upd (lg2 := (upd lg.1 gn c, upd lg.2.1 gn k, lg.2.2)) hla e1 tga tgb tgz hk ⟨q1, q2, q3⟩
        have hs2 := hs_la hs wP hB3 (fun y hy hq => hk y hy (by omega)) hd hla2
        have hcF := hc_kp hc hg (fun y hy hq => hk y hy (by omega))
        exact ct_iret S hr rfl hlocks hW (⟨_, tg, Or.inr ⟨hok, rfl, i, gn, lg, rfl, rfl, by omega, hlgi, rfl⟩, ⟨B, E, _, la, pa, ta, hcF, hg, hs2.1, hs2.2.1, hs2.2.2.1, hs2.2.2.2, hml, hmd, hwd, hpl⟩, ex_rf, fun y hy hq => hk y hy (by have hq : 500 ≤ tg y ∧ tg y < 600 := hq; omega)⟩) (Nat.le_refl _) (Nat.le_refl _) d_HR_code_55
      · refine lv_iconst (v := -1) hx hb d_HR_code_22 (by decide) ?_
        exact ct_iret S hr rfl hlocks hW (⟨_, tg, Or.inl ⟨fun q => bl_f hv2 hb2 q.2.2, rfl, rfl⟩, h, ex_rf, kp_rf⟩) (Nat.le_refl _) (Nat.le_refl _) d_HR_code_23

set_option maxHeartbeats 4000000 in
set_option maxRecDepth 100000 in
/-- ends -/
theorem c_HR_ends (l : Launch) (G : ev_G) (w : wd_M) (sz : Nat) (tg : Nat → Nat) (r : Nat) (Ls : List hy_L) (Ps : List hy_P) (Ts : List hy_T) (ml md wd : List Int32) (pl : List Nat) (x a0 b0 k : Int32) (h : hr_ G w tg r Ls Ps Ts ml md wd pl) (hwf : hy_wf Ls Ps Ts ml md wd pl) (hk01 : k = 0 ∨ k = 1) : ct_i l y_HR_ends b_HR_ends 6 (some FieldType.int) (rm_ 3 0 0) G w sz [.ref r, .int x, .int a0, .int b0, .int k] (hq_ G w tg r (sp_ends x a0 b0 k (Ls, Ps, Ts, ml, md, wd, pl))) := by
  refine ct_enter (by decide +kernel) (Nat.le_of_ble_eq_true rfl) ?_
  intro p_ e_ s m below meth c_ hsz S hr hlocks hname hE hW ls hl
  have S : CallFix p_ m c_ b_HR_ends 6 s _ lw_good "HyphenRows" := S
  have hx := S.1
  have hb := S.2.1
  have hK := hE.1
  have hl : lv_has ls 6 [(0, .ref r), (1, .int x), (2, .int a0), (3, .int b0), (4, .int k)] := hl
  obtain ⟨B, E, F, la, pa, ta, hc, hg, hal, hla, hpa, hta, hml, hmd, hwd, hpl⟩ := id h
  have hs : hs_ G w tg B E la pa ta Ls Ps Ts := ⟨hal, hla, hpa, hta⟩
  obtain ⟨hr0, a3, a4, a5, a6, a7, a8⟩ := id hc
  obtain ⟨wL, wP, wT, wm, wml, wwd, wpl, wtot, wmx, wdx, wws, wplx, wlg, wps, wts⟩ := id hwf
  have hB3 : ∀ i, i < 3 → tg (B i) = 2 + i := fun i hi => hg.2 i (by omega)
  have hkp : kp_ w w tg (fun t => 500 ≤ t ∧ t < 600) := kp_rf
  obtain ⟨mo0, haL, he0⟩ := id hs.1.1
  refine lv_aload_n hx hb d_HR_ends_0 rfl (lv_at hl 0 rfl) ?_
  refine lv_iload_n hx hb d_HR_ends_1 rfl (lv_at hl 1 rfl) ?_
  refine ct_goi hW (ct_runV (As := [.int x]) (rest := []) (q := (R_HR, F_HR, 13)) S hE hW (c_HR_isLanguage l G _ _ r B E F (nI (hy_tot Ps)) (nI ml.length) (nI wd.length) (nI pl.length) la x hc hal.1) hr0 rfl kc_HR_isLanguage kz_HR k_HR_65 ki_HR_isLanguage kv_HR_isLanguage kd_HR_isLanguage ⟨Nat.le_of_ble_eq_true rfl, Nat.le_of_ble_eq_true rfl⟩ hl.1 (Nat.le_of_ble_eq_true rfl) d_HR_ends_2 ⟨Nat.le_of_ble_eq_true rfl, Nat.le_of_ble_eq_true rfl⟩) (fun v_3 u_1 H locs hp_2 hW => ?_)
  obtain ⟨hv, hu_4⟩ := hp_2
  rw [hu_4] at hW
  rw [hla.1] at hv
  refine lv_if_eq (tgt := 22) hx hb d_HR_ends_5 (by decide) (fun hb0 => ?_) (fun hb0 => ?_)
  · refine lv_iconst (v := -1) hx hb d_HR_ends_22 (by decide) ?_
    exact ct_iret S hr rfl hlocks hW (⟨_, tg, Or.inl ⟨fun q => bl_f hv hb0 q.1, rfl, rfl⟩, h, ex_rf, kp_rf⟩) (Nat.le_refl _) (Nat.le_refl _) d_HR_ends_23
  · refine lv_iload_n hx hb d_HR_ends_8 rfl (lv_at hl 2 rfl) ?_
    refine ct_goi hW (ct_runS (As := [.int a0]) (rest := []) S hE hW (c_HR_isLeast l G _ _ a0) kc_HR_isLeast kz_HR k_HR_86 ks_HR_isLeast kd_HR_isLeast ⟨Nat.le_of_ble_eq_true rfl, Nat.le_of_ble_eq_true rfl⟩ hl.1 (Nat.le_of_ble_eq_true rfl) d_HR_ends_9 ⟨Nat.le_of_ble_eq_true rfl, Nat.le_of_ble_eq_true rfl⟩) (fun v_7 u_5 H locs hp_6 hW => ?_)
    obtain ⟨hv1, hu_8⟩ := hp_6
    rw [hu_8] at hW
    refine lv_if_eq (tgt := 22) hx hb d_HR_ends_12 (by decide) (fun hb1 => ?_) (fun hb1 => ?_)
    · refine lv_iconst (v := -1) hx hb d_HR_ends_22 (by decide) ?_
      exact ct_iret S hr rfl hlocks hW (⟨_, tg, Or.inl ⟨fun q => bl_f hv1 hb1 q.2.1, rfl, rfl⟩, h, ex_rf, kp_rf⟩) (Nat.le_refl _) (Nat.le_refl _) d_HR_ends_23
    · refine lv_iload_n hx hb d_HR_ends_15 rfl (lv_at hl 3 rfl) ?_
      refine ct_goi hW (ct_runS (As := [.int b0]) (rest := []) S hE hW (c_HR_isLeast l G _ _ b0) kc_HR_isLeast kz_HR k_HR_86 ks_HR_isLeast kd_HR_isLeast ⟨Nat.le_of_ble_eq_true rfl, Nat.le_of_ble_eq_true rfl⟩ hl.1 (Nat.le_of_ble_eq_true rfl) d_HR_ends_16 ⟨Nat.le_of_ble_eq_true rfl, Nat.le_of_ble_eq_true rfl⟩) (fun v_11 u_9 H locs hp_10 hW => ?_)
      obtain ⟨hv2, hu_12⟩ := hp_10
      rw [hu_12] at hW
      refine lv_if_ne (tgt := 24) hx hb d_HR_ends_19 (by decide) (fun hb2 => ?_) (fun hb2 => ?_)
      · have hnm0 := bl_t hv hb0
        have hnm : nm_ x la.length := by rw [hla.1]; exact hnm0
        have hok : nm_ x Ls.length ∧ ok_e a0 ∧ ok_e b0 := ⟨hnm0, bl_t hv1 hb1, bl_t hv2 hb2⟩
        obtain ⟨an, han, rfl⟩ := ok_nat (n := 20) hok.2.1 (by decide)
        obtain ⟨bn, hbn, rfl⟩ := ok_nat (n := 20) hok.2.2 (by decide)
        obtain ⟨i, hil, rfl⟩ := nm_of hnm (by rw [hla.1]; omega)
        have hil2 : i < Ls.length := by rw [← hla.1]; exact hil
        have hlgi : Ls[i]? = some Ls[i] := List.getElem?_eq_getElem hil2
        generalize Ls[i] = lg at hlgi
        obtain ⟨a, b, z, e1, hla1, tga, tgb, tgz⟩ := hs.2.1.2 i lg hlgi
        have hlgm := wlg lg (List.mem_of_getElem? hlgi)
        obtain ⟨mo0, haL, he0⟩ := id hs.1.1
        refine lv_aload_n hx hb d_HR_ends_24 rfl (lv_at hl 0 rfl) ?_
        refine wd_get S i_HR hK hW hr0 rfl 0 (by decide) k_HR_10 rfl rfl d_HR_ends_25 ?_
        refine lv_iload_n hx hb d_HR_ends_28 rfl (lv_at hl 1 rfl) ?_
        refine ct_goq hW (ct_runV (As := [.int (nI i)]) (rest := []) (q := (R_AL, F_AL, 3)) S hE hW (c_AL_get l G _ _ (B 0) (E 0) la i hs.1.1 hil) haL rfl kc_AL_get kz_AL k_HR_75 ki_AL_get kv_AL_get kd_AL_get ⟨Nat.le_of_ble_eq_true rfl, Nat.le_of_ble_eq_true rfl⟩ hl.1 (Nat.le_of_ble_eq_true rfl) d_HR_ends_29 ⟨Nat.le_of_ble_eq_true rfl, Nat.le_of_ble_eq_true rfl⟩) (fun v_15 u_13 H locs hp_14 hW => ?_)
        obtain ⟨hvg, hu_16⟩ := hp_14
        rw [hu_16] at hW
        rw [hvg, e1]
        refine W.eq (g2 := F0 m 32 ls [.ref a]) rfl ?_
        refine wd_cast S (T := F_La) (N := 5) k_HR_58 hK hW hla1.1 rfl d_HR_ends_32 ?_
        obtain ⟨q1, q2, q3⟩ := id hla1
        refine lv_astore (lv' := [(5, .ref a), (0, .ref r), (1, .int (nI i)), (2, .int (nI an)), (3, .int (nI bn)), (4, .int k)]) hx hb d_HR_ends_35 hl (by decide) rfl (fun ls hl => ?_)
        refine lv_aload hx hb d_HR_ends_37 (lv_at hl 0 rfl) ?_
        refine lv_iload_n hx hb d_HR_ends_39 rfl (lv_at hl 3 rfl) ?_
        refine wd_put S i_La t_La t_La_ok n_La hK hW q1 rfl 2 (by decide) k_HR_89 rfl rfl rfl rfl (Nat.le_of_ble_eq_true rfl) d_HR_ends_40 (fun H locs w_17 ew_17 hW => ?_)
        have q1 : w_17 a = some (.inr (1, [.ref b, .ref z, .int (nI an), .int (nI lg.2.2.2.1), .int lg.2.2.2.2])) := wd_here ew_17
        refine lv_aload hx hb d_HR_ends_43 (lv_at hl 0 rfl) ?_
        refine lv_iload_n hx hb d_HR_ends_45 rfl (lv_at hl 4 rfl) ?_
        refine wd_put S i_La t_La t_La_ok n_La hK hW q1 rfl 3 (by decide) k_HR_92 rfl rfl rfl rfl (Nat.le_of_ble_eq_true rfl) d_HR_ends_46 (fun H locs w_18 ew_18 hW => ?_)
        have q1 : w_18 a = some (.inr (1, [.ref b, .ref z, .int (nI an), .int (nI bn), .int lg.2.2.2.2])) := wd_here ew_18
        refine lv_aload hx hb d_HR_ends_49 (lv_at hl 0 rfl) ?_
        refine lv_iload hx hb d_HR_ends_51 (lv_at hl 5 rfl) ?_
        refine wd_put S i_La t_La t_La_ok n_La hK hW q1 rfl 4 (by decide) k_HR_95 rfl rfl (nar01 hk01) (fit01 hk01) (Nat.le_of_ble_eq_true rfl) d_HR_ends_53 (fun H locs w_19 ew_19 hW => ?_)
        have q1 : w_19 a = some (.inr (1, [.ref b, .ref z, .int (nI an), .int (nI bn), .int k])) := wd_here ew_19
        refine lv_iconst (v := 1) hx hb d_HR_ends_56 (by decide) ?_
        have hk : ∀ y, w y ≠ none → ¬ (1000 + 3 * i ≤ tg y ∧ tg y ≤ 1002 + 3 * i) → w_19 y = w y := fun y _ hq => by rw [ew_19, va_up_ne _ _ (tg_ne (tg := tg) (by omega)), ew_18, va_up_ne _ _ (tg_ne (tg := tg) (by omega)), ew_17, va_up_ne _ _ (tg_ne (tg := tg) (by omega))]
        have hd : ∀ y, w_19 y = none ↔ w y = none := fun y => by rw [ew_19, ew_18, ew_17, bx_uu, bx_uu]; exact up_dom hla1.1
        have hq2 : w_19 b = some (.inl (G.2.1 0, 256, .inl lg.1)) := by rw [ew_19, ew_18, ew_17, bx_uu, bx_uu, va_up_ne _ _ (wd_ne hla1.2.1 hla1.1 (by simp))]; exact hla1.2.1
        have hq3 : w_19 z = some (.inl (G.2.1 1, 256, .inl lg.2.1)) := by rw [ew_19, ew_18, ew_17, bx_uu, bx_uu, va_up_ne _ _ (wd_ne hla1.2.2 hla1.1 (by simp))]; exact hla1.2.2
        have hla2 := la_upd (lg2 := (lg.1, lg.2.1, an, bn, k)) hla e1 tga tgb tgz hk ⟨q1, hq2, hq3⟩
        have hs2 := hs_la hs wP hB3 (fun y hy hq => hk y hy (by omega)) hd hla2
        have hcF := hc_kp hc hg (fun y hy hq => hk y hy (by omega))
        exact ct_iret S hr rfl hlocks hW (⟨_, tg, Or.inr ⟨hok, rfl, i, an, bn, lg, rfl, rfl, han, rfl, hbn, hlgi, rfl⟩, ⟨B, E, _, la, pa, ta, hcF, hg, hs2.1, hs2.2.1, hs2.2.2.1, hs2.2.2.2, hml, hmd, hwd, hpl⟩, ex_rf, fun y hy hq => hk y hy (by have hq : 500 ≤ tg y ∧ tg y < 600 := hq; omega)⟩) (Nat.le_refl _) (Nat.le_refl _) d_HR_ends_57
      · refine lv_iconst (v := -1) hx hb d_HR_ends_22 (by decide) ?_
        exact ct_iret S hr rfl hlocks hW (⟨_, tg, Or.inl ⟨fun q => bl_f hv2 hb2 q.2.2, rfl, rfl⟩, h, ex_rf, kp_rf⟩) (Nat.le_refl _) (Nat.le_refl _) d_HR_ends_23
