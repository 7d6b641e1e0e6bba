/-! THE CLASS: exception, drop, the constructor. -/

theorem ta_upd {G : ev_G} {w u : wd_M} {tg : Nat → Nat} {ta : List Nat} {Ts : List hy_T} {i a b : Nat} {f : Nat → Int32} {t2 : hy_T} (h : ta_ G w tg ta Ts) (ha : ta[i]? = some a) (ta1 : tg a = 10000 + 2 * a) (tb : tg b = 10001 + 2 * a) (hk : ∀ x, w x ≠ none → x ≠ a → u x = w x) (h1 : ta_1 G u a b f t2) : ta_ G u tg ta (Ts.set i t2) := by
  refine ⟨by rw [List.length_set]; exact h.1, h.2.1, fun j t hj => ?_⟩
  by_cases hji : j = i
  · subst hji
    have hl : j < (Ts.set j t2).length := (List.getElem?_eq_some_iff.mp hj).1
    rw [List.length_set] at hl
    rw [List.getElem?_set_self hl] at hj
    cases hj
    exact ⟨a, b, f, ha, h1, ta1, tb⟩
  · rw [List.getElem?_set_ne (Ne.symm hji)] at hj
    obtain ⟨a2, b2, f2, q1, ⟨q2, q3, q4⟩, t1, t3⟩ := h.2.2 j t hj
    have n1 : a2 ≠ a := fun q => hji (h.2.1 j i a2 q1 (by rw [q]; exact ha))
    have n2 : b2 ≠ a := tg_ne (tg := tg) (by omega)
    exact ⟨a2, b2, f2, q1, ⟨by rw [hk a2 (wd_some q2) n1]; exact q2, by rw [hk b2 (wd_some q3) n2]; exact q3, q4⟩, t1, t3⟩
theorem hs_ta {G : ev_G} {w u : wd_M} {tg : Nat → Nat} {B E : Nat → Nat} {la pa ta : List Nat} {Ls : List hy_L} {Ps : List hy_P} {Ts Ts2 : List hy_T} (h : hs_ G w tg B E la pa ta Ls Ps Ts) (hLs : Ls.length ≤ 4) (hPs : Ps.length ≤ 150) (hB : ∀ i, i < 3 → tg (B i) = 2 + i) (hk : ∀ x, w x ≠ none → ¬ 10000 ≤ tg x → u x = w x) (hd : ∀ x, u x = none ↔ w x = none) (hl : ta_ G u tg ta Ts2) : hs_ G u tg B E la pa ta Ls Ps Ts2 := by
  obtain ⟨⟨h0, h1, h2, hE⟩, hla, hp, -⟩ := h
  have kB : ∀ i, i < 3 → (∃ y, w (B i) = some y) → u (B i) = w (B i) := fun i hi hy => by obtain ⟨y, hy⟩ := hy; exact hk _ (wd_some hy) (by rw [hB i hi]; omega)
  have kE : ∀ i, i < 3 → w (E i) ≠ none → u (E i) = w (E i) := fun i hi hn => hk _ hn (by rw [hE i hi hn]; omega)
  exact ⟨⟨al_keep h0 (kB 0 (by omega) ⟨_, h0.choose_spec.1⟩) (kE 0 (by omega)), al_keep h1 (kB 1 (by omega) ⟨_, h1.choose_spec.1⟩) (kE 1 (by omega)), al_keep h2 (kB 2 (by omega) ⟨_, h2.choose_spec.1⟩) (kE 2 (by omega)), fun i hi hn => hE i hi (fun q => hn ((hd _).mpr q))⟩, la_keep hla (fun x hx hq => hk x hx (by have hq : 1000 ≤ tg x ∧ tg x < 2000 := hq; omega)) ex_rf hLs, pa_keep hp (fun x hx hq => hk x hx (by have hq : 2000 ≤ tg x ∧ tg x < 10000 := hq; omega)) ex_rf hPs, hl⟩
theorem ta_erase {G : ev_G} {u : wd_M} {tg : Nat → Nat} {ta : List Nat} {Ts : List hy_T} {k : Nat} (h : ta_ G u tg ta Ts) (hk : k < Ts.length) : ta_ G u tg (ta.eraseIdx k) (Ts.eraseIdx k) := by
  have hl := h.1
  refine ⟨by rw [List.length_eraseIdx_of_lt (by omega), List.length_eraseIdx_of_lt hk, h.1], fun i j a hi hj => ?_, fun i t hi => ?_⟩
  · rw [List.getElem?_eraseIdx] at hi hj
    split at hi <;> split at hj
    · exact h.2.1 i j a hi hj
    · have := h.2.1 i (j + 1) a hi hj; omega
    · have := h.2.1 (i + 1) j a hi hj; omega
    · have := h.2.1 (i + 1) (j + 1) a hi hj; omega
  · rw [List.getElem?_eraseIdx] at hi
    split at hi
    · obtain ⟨a, b, f, q1, q2⟩ := h.2.2 i t hi
      exact ⟨a, b, f, by rw [List.getElem?_eraseIdx, if_pos (by assumption)]; exact q1, q2⟩
    · obtain ⟨a, b, f, q1, q2⟩ := h.2.2 (i + 1) t hi
      exact ⟨a, b, f, by rw [List.getElem?_eraseIdx, if_neg (by assumption)]; exact q1, q2⟩

theorem cat_rf (r : Option Nat) : (va_rf r).category = 1 := by cases r <;> rfl

set_option maxHeartbeats 4000000 in
set_option maxRecDepth 100000 in
/-- drop -/
theorem c_HR_drop (l : Launch) (G : ev_G) (w : wd_M) (sz : Nat) (tg : Nat → Nat) (r : Nat) (Ls : List hy_L) (Ps : List hy_P) (Ts : List hy_T) (ml md wd : List Int32) (pl : List Nat) (x : Int32) (h : hr_ G w tg r Ls Ps Ts ml md wd pl) (hwf : hy_wf Ls Ps Ts ml md wd pl) : ct_i l y_HR_drop b_HR_drop 2 (some FieldType.int) (rm_ 3 0 0) G w sz [.ref r, .int x] (hq_ G w tg r (sp_drop x (Ls, Ps, Ts, ml, md, wd, pl))) := by
  refine ct_enter (by decide +kernel) (Nat.le_of_ble_eq_true rfl) ?_
  intro p_ e_ s m below meth c_ hsz S hr hlocks hname hE hW ls hl
  have S : CallFix p_ m c_ b_HR_drop 2 s _ lw_good "HyphenRows" := S
  have hx := S.1
  have hb := S.2.1
  have hK := hE.1
  have hl : lv_has ls 2 [(0, .ref r), (1, .int x)] := hl
  obtain ⟨B, E, F, la, pa, ta, hc, hg, hal, hla, hpa, hta, hml, hmd, hwd, hpl⟩ := id h
  have hs : hs_ G w tg B E la pa ta Ls Ps Ts := ⟨hal, hla, hpa, hta⟩
  obtain ⟨hr0, a3, a4, a5, a6, a7, a8⟩ := id hc
  obtain ⟨wL, wP, wT, wm, wml, wwd, wpl, wtot, wmx, wdx, wws, wplx, wlg, wps, wts⟩ := id hwf
  have hB3 : ∀ i, i < 3 → tg (B i) = 2 + i := fun i hi => hg.2 i (by omega)
  have hkp : kp_ w w tg (fun t => 500 ≤ t ∧ t < 600) := kp_rf
  obtain ⟨mo2, haT, he2⟩ := id hal.2.2.1
  refine lv_iload_n hx hb d_HR_drop_0 rfl (lv_at hl 1 rfl) ?_
  refine lv_if_lt (tgt := 15) hx hb d_HR_drop_1 (by decide) (fun h1 => ?_) (fun h1 => ?_)
  · refine lv_iconst (v := -1) hx hb d_HR_drop_15 (by decide) ?_
    exact ct_iret S hr rfl hlocks hW (⟨_, tg, Or.inl ⟨fun q => q.1 h1, rfl, rfl⟩, h, ex_rf, kp_rf⟩) (Nat.le_of_ble_eq_true rfl) (Nat.le_of_ble_eq_true rfl) d_HR_drop_16
  · refine lv_iload_n hx hb d_HR_drop_4 rfl (lv_at hl 1 rfl) ?_
    refine lv_aload_n hx hb d_HR_drop_5 rfl (lv_at hl 0 rfl) ?_
    refine wd_get S i_HR hK hW hr0 rfl 2 (by decide) k_HR_19 rfl rfl d_HR_drop_6 ?_
    refine ct_goi hW (ct_runV (As := []) (rest := [.int x]) (q := (R_AL, F_AL, 3)) S hE hW (c_AL_size l G _ _ (B 2) (E 2) (nI ta.length) mo2 haT) haT rfl kc_AL_size kz_AL k_HR_54 ki_AL_size kv_AL_size kd_AL_size ⟨Nat.le_of_ble_eq_true rfl, Nat.le_of_ble_eq_true rfl⟩ hl.1 (Nat.le_of_ble_eq_true rfl) d_HR_drop_9 ⟨Nat.le_of_ble_eq_true rfl, Nat.le_of_ble_eq_true rfl⟩) (fun v_3 u_1 H locs hp_2 hW => ?_)
    obtain ⟨hv, hu_4⟩ := hp_2
    rw [hu_4] at hW
    rw [hv, hta.1]
    refine lv_icmp_lt (tgt := 17) hx hb d_HR_drop_12 (by decide) (fun h12 => ?_) (fun h12 => ?_)
    · have hnm : nm_ x Ts.length := ⟨h1, Int32.not_le.mpr h12⟩
      obtain ⟨k, hk, rfl⟩ := nm_of hnm (by omega)
      refine lv_aload_n hx hb d_HR_drop_17 rfl (lv_at hl 0 rfl) ?_
      refine wd_get S i_HR hK hW hr0 rfl 2 (by decide) k_HR_19 rfl rfl d_HR_drop_18 ?_
      refine lv_iload_n hx hb d_HR_drop_21 rfl (lv_at hl 1 rfl) ?_
      refine ct_goq hW (ct_runV (As := [.int (nI k)]) (rest := []) (q := (R_AL, F_AL, 3)) S hE hW (c_AL_remove l G _ _ (B 2) (E 2) k ta hal.2.2.1 (by rw [hta.1]; exact hk) (ta_obs hta)) haT rfl kc_AL_remove kz_AL k_HR_145 ki_AL_remove kv_AL_remove kd_AL_remove ⟨Nat.le_of_ble_eq_true rfl, Nat.le_of_ble_eq_true rfl⟩ hl.1 (Nat.le_of_ble_eq_true rfl) d_HR_drop_22 ⟨Nat.le_of_ble_eq_true rfl, Nat.le_of_ble_eq_true rfl⟩) (fun v_7 u_5 H locs hp_6 hW => ?_)
      obtain ⟨hal2, hku, hd⟩ := hp_6
      have hk9 : ∀ y, w y ≠ none → tg y ≠ 4 → tg y ≠ 13 → u_5 y = w y := fun y hy h1 h2 => hku y (fun q => h1 (by rw [q]; exact hg.2 2 (by omega))) (fun q => h2 (by rw [q]; exact hal.2.2.2 2 (by omega) (by rw [← q]; exact hy)))
      have kB : ∀ i, i < 2 → (∃ y, w (B i) = some y) → u_5 (B i) = w (B i) := fun i hi hy => by obtain ⟨y, hy⟩ := hy; exact hk9 _ (wd_some hy) (by rw [hg.2 i (by omega)]; omega) (by rw [hg.2 i (by omega)]; omega)
      have kE : ∀ i, i < 2 → w (E i) ≠ none → u_5 (E i) = w (E i) := fun i hi hn => hk9 _ hn (by rw [hal.2.2.2 i (by omega) hn]; omega) (by rw [hal.2.2.2 i (by omega) hn]; omega)
      have hta2 := ta_erase (k := k) (ta_keep (tg2 := tg) hta (fun x hx hq => hk9 x hx (by have hq : 10000 ≤ tg x := hq; omega) (by have hq : 10000 ≤ tg x := hq; omega)) ex_rf) hk
      have hsF : hs_ G u_5 tg B E la pa (ta.eraseIdx k) Ls Ps (Ts.eraseIdx k) := ⟨⟨al_keep hal.1 (kB 0 (by omega) ⟨_, hal.1.choose_spec.1⟩) (kE 0 (by omega)), al_keep hal.2.1 (kB 1 (by omega) ⟨_, hal.2.1.choose_spec.1⟩) (kE 1 (by omega)), hal2, fun i hi hn => hal.2.2.2 i hi (fun q => hn ((hd _).mpr q))⟩, la_keep hla (fun x hx hq => hk9 x hx (by have hq : 1000 ≤ tg x ∧ tg x < 2000 := hq; omega) (by have hq : 1000 ≤ tg x ∧ tg x < 2000 := hq; omega)) ex_rf wL, pa_keep hpa (fun x hx hq => hk9 x hx (by have hq : 2000 ≤ tg x ∧ tg x < 10000 := hq; omega) (by have hq : 2000 ≤ tg x ∧ tg x < 10000 := hq; omega)) ex_rf wP, hta2⟩
      have hcF : hr_c G u_5 r B F (nI (hy_tot Ps)) (nI ml.length) (nI wd.length) (nI pl.length) := ⟨(hk9 _ (wd_some hr0) (by rw [hg.1]; omega) (by rw [hg.1]; omega)).trans hr0, (hk9 _ (wd_some a3) (by rw [hg.2 3 (by omega)]; omega) (by rw [hg.2 3 (by omega)]; omega)).trans a3, (hk9 _ (wd_some a4) (by rw [hg.2 4 (by omega)]; omega) (by rw [hg.2 4 (by omega)]; omega)).trans a4, (hk9 _ (wd_some a5) (by rw [hg.2 5 (by omega)]; omega) (by rw [hg.2 5 (by omega)]; omega)).trans a5, (hk9 _ (wd_some a6) (by rw [hg.2 6 (by omega)]; omega) (by rw [hg.2 6 (by omega)]; omega)).trans a6, (hk9 _ (wd_some a7) (by rw [hg.2 7 (by omega)]; omega) (by rw [hg.2 7 (by omega)]; omega)).trans a7, (hk9 _ (wd_some a8) (by rw [hg.2 8 (by omega)]; omega) (by rw [hg.2 8 (by omega)]; omega)).trans a8⟩
      refine lv_pop hx hb d_HR_drop_25 (cat_rf v_7) ?_
      refine lv_iconst (v := 1) hx hb d_HR_drop_26 (by decide) ?_
      exact ct_iret S hr rfl hlocks hW (⟨(Ls, Ps, Ts.eraseIdx k, ml, md, wd, pl), tg, Or.inr ⟨hnm, rfl, k, rfl, hk, rfl⟩, ⟨B, E, F, la, pa, _, hcF, hg, hsF.1, hsF.2.1, hsF.2.2.1, hsF.2.2.2, hml, hmd, hwd, hpl⟩, ex_rf, fun y hy hq => hk9 y hy (by have hq : 500 ≤ tg y ∧ tg y < 600 := hq; omega) (by have hq : 500 ≤ tg y ∧ tg y < 600 := hq; omega)⟩) (Nat.le_of_ble_eq_true rfl) (Nat.le_of_ble_eq_true rfl) d_HR_drop_27
    · refine lv_iconst (v := -1) hx hb d_HR_drop_15 (by decide) ?_
      exact ct_iret S hr rfl hlocks hW (⟨_, tg, Or.inl ⟨fun q => q.2 (Int32.not_lt.mp h12), rfl, rfl⟩, h, ex_rf, kp_rf⟩) (Nat.le_of_ble_eq_true rfl) (Nat.le_of_ble_eq_true rfl) d_HR_drop_16

set_option maxHeartbeats 4000000 in
set_option maxRecDepth 100000 in
/-- exception -/
theorem c_HR_exception (l : Launch) (G : ev_G) (w : wd_M) (sz : Nat) (tg : Nat → Nat) (r : Nat) (Ls : List hy_L) (Ps : List hy_P) (Ts : List hy_T) (ml md wd : List Int32) (pl : List Nat) (x y : Int32) (h : hr_ G w tg r Ls Ps Ts ml md wd pl) (hwf : hy_wf Ls Ps Ts ml md wd pl) : ct_i l y_HR_exception b_HR_exception 4 (some FieldType.int) (rm_ 7 3 400) G w sz [.ref r, .int x, .int y] (hq_ G w tg r (sp_exception x y (Ls, Ps, Ts, ml, md, wd, pl))) := by
  refine ct_enter (by decide +kernel) (Nat.le_of_ble_eq_true rfl) ?_
  intro p_ e_ s m below meth c_ hsz S hr hlocks hname hE hW ls hl
  have S : CallFix p_ m c_ b_HR_exception 4 s _ lw_good "HyphenRows" := S
  have hx := S.1
  have hb := S.2.1
  have hK := hE.1
  have hl : lv_has ls 4 [(0, .ref r), (1, .int x), (2, .int y)] := hl
  obtain ⟨B, E, F, la, pa, ta, hc, hg, hal, hla, hpa, hta, hml, hmd, hwd, hpl⟩ := id h
  have hs : hs_ G w tg B E la pa ta Ls Ps Ts := ⟨hal, hla, hpa, hta⟩
  obtain ⟨hr0, a3, a4, a5, a6, a7, a8⟩ := id hc
  obtain ⟨wL, wP, wT, wm, wml, wwd, wpl, wtot, wmx, wdx, wws, wplx, wlg, wps, wts⟩ := id hwf
  have hB3 : ∀ i, i < 3 → tg (B i) = 2 + i := fun i hi => hg.2 i (by omega)
  have hkp : kp_ w w tg (fun t => 500 ≤ t ∧ t < 600) := kp_rf
  obtain ⟨mo0, haL, he0⟩ := id hs.1.1
  refine lv_aload_n hx hb d_HR_exception_0 rfl (lv_at hl 0 rfl) ?_
  refine lv_iload_n hx hb d_HR_exception_1 rfl (lv_at hl 1 rfl) ?_
  refine ct_goi hW (ct_runV (As := [.int x]) (rest := []) (q := (R_HR, F_HR, 13)) S hE hW (c_HR_isLanguage l G _ _ r B E F (nI (hy_tot Ps)) (nI ml.length) (nI wd.length) (nI pl.length) la x hc hal.1) hr0 rfl kc_HR_isLanguage kz_HR k_HR_65 ki_HR_isLanguage kv_HR_isLanguage kd_HR_isLanguage ⟨Nat.le_of_ble_eq_true rfl, Nat.le_of_ble_eq_true rfl⟩ hl.1 (Nat.le_of_ble_eq_true rfl) d_HR_exception_2 ⟨Nat.le_of_ble_eq_true rfl, Nat.le_of_ble_eq_true rfl⟩) (fun v_3 u_1 H locs hp_2 hW => ?_)
  obtain ⟨hv, hu_4⟩ := hp_2
  rw [hu_4] at hW
  rw [hla.1] at hv
  refine lv_if_ne (tgt := 10) hx hb d_HR_exception_5 (by decide) (fun h5 => ?_) (fun h5 => ?_)
  · have hnm0 := bl_t hv h5
    have hnm : nm_ x la.length := by rw [hla.1]; exact hnm0
    obtain ⟨i, hil, rfl⟩ := nm_of hnm (by rw [hla.1]; omega)
    have hil2 : i < Ls.length := by rw [← hla.1]; exact hil
    have hlgi : Ls[i]? = some Ls[i] := List.getElem?_eq_getElem hil2
    generalize Ls[i] = lg at hlgi
    obtain ⟨a, b, z, e1, hla1, tga, tgb, tgz⟩ := hs.2.1.2 i lg hlgi
    have hlgm := wlg lg (List.mem_of_getElem? hlgi)
    refine lv_aload_n hx hb d_HR_exception_10 rfl (lv_at hl 0 rfl) ?_
    refine wd_get S i_HR hK hW hr0 rfl 8 (by decide) k_HR_39 rfl rfl d_HR_exception_11 ?_
    refine lv_if_eq (tgt := 35) hx hb d_HR_exception_14 (by decide) (fun h14 => ?_) (fun h14 => ?_)
    · refine lv_bipush (v := -3) hx hb d_HR_exception_35 (by decide) ?_
      exact ct_iret S hr rfl hlocks hW (⟨_, tg, Or.inr ⟨hnm0, i, lg, rfl, hlgi, Or.inl ⟨fun q => absurd ((nI_eq (a := wd.length) (b := 0) (by omega) (by omega)).mp h14) (by have h9 : 0 < wd.length := q.1; omega), rfl, rfl⟩⟩, h, ex_rf, kp_rf⟩) (Nat.le_of_ble_eq_true rfl) (Nat.le_of_ble_eq_true rfl) d_HR_exception_37
    · have hpos : 0 < wd.length := Nat.pos_of_ne_zero (fun q => h14 (by rw [q]; rfl))
      obtain ⟨mo0, haL, he0⟩ := id hs.1.1
      refine lv_aload_n hx hb d_HR_exception_17 rfl (lv_at hl 0 rfl) ?_
      refine lv_aload_n hx hb d_HR_exception_18 rfl (lv_at hl 0 rfl) ?_
      refine wd_get S i_HR hK hW hr0 rfl 0 (by decide) k_HR_10 rfl rfl d_HR_exception_19 ?_
      refine lv_iload_n hx hb d_HR_exception_22 rfl (lv_at hl 1 rfl) ?_
      refine ct_goq hW (ct_runV (As := [.int (nI i)]) (rest := [.ref r]) (q := (R_AL, F_AL, 3)) S hE hW (c_AL_get l G _ _ (B 0) (E 0) la i hs.1.1 hil) haL rfl kc_AL_get kz_AL k_HR_75 ki_AL_get kv_AL_get kd_AL_get ⟨Nat.le_of_ble_eq_true rfl, Nat.le_of_ble_eq_true rfl⟩ hl.1 (Nat.le_of_ble_eq_true rfl) d_HR_exception_23 ⟨Nat.le_of_ble_eq_true rfl, Nat.le_of_ble_eq_true rfl⟩) (fun v_7 u_5 H locs hp_6 hW => ?_)
      obtain ⟨hvg, hu_8⟩ := hp_6
      rw [hu_8] at hW
      rw [hvg, e1]
      refine W.eq (g2 := F0 m 26 ls [.ref a, .ref r]) rfl ?_
      refine wd_cast S (T := F_La) (N := 5) k_HR_58 hK hW hla1.1 rfl d_HR_exception_26 ?_
      obtain ⟨q1, q2, q3⟩ := id hla1
      refine ct_goi hW (ct_runV (As := [.ref a]) (rest := []) (q := (R_HR, F_HR, 13)) S hE hW (c_HR_spellWord l G _ _ r B F (nI (hy_tot Ps)) (nI ml.length) (nI pl.length) a b z lg wd hc hla1 hwd wwd wws) hr0 rfl kc_HR_spellWord kz_HR k_HR_123 ki_HR_spellWord kv_HR_spellWord kd_HR_spellWord ⟨Nat.le_of_ble_eq_true rfl, Nat.le_of_ble_eq_true rfl⟩ hl.1 (Nat.le_of_ble_eq_true rfl) d_HR_exception_29 ⟨Nat.le_of_ble_eq_true rfl, Nat.le_of_ble_eq_true rfl⟩) (fun v_11 u_9 H locs hp_10 hW => ?_)
      obtain ⟨hv6, g6, eu, hrow⟩ := hp_10
      have hs := hs_up hs wL wP hB3 a6 eu (Or.inr (by rw [hg.2 6 (by omega)]; omega))
      have hkp := kp_tr hkp (up_kp eu (by rw [hg.2 6 (by omega)]; show ¬ (_ ∧ _); omega))
      have hc1 := hc_6 hc eu
      have hdom : ∀ y, u_9 y = none ↔ w y = none := fun y => by rw [eu]; exact up_dom a6
      refine lv_if_ne (tgt := 38) hx hb d_HR_exception_32 (by decide) (fun h32 => ?_) (fun h32 => ?_)
      · have hsp : 0 < wd.length ∧ hy_sp lg wd := ⟨hpos, bl_t hv6 h32⟩
        have hll : (hy_let lg wd).length = wd.length := List.length_map _
        have hcl : hr_c G u_9 r B (fun k => if k = 6 then g6 else F k) (nI (hy_tot Ps)) (nI ml.length) (nI (hy_let lg wd).length) (nI pl.length) := by rw [hll]; exact hc1
        have hr1 := hc1.1
        have hrt := row_tail (hrow hsp.2)
        refine lv_aload_n hx hb d_HR_exception_38 rfl (lv_at hl 0 rfl) ?_
        refine lv_iload_n hx hb d_HR_exception_39 rfl (lv_at hl 1 rfl) ?_
        refine ct_goi hW (ct_runV (As := [.int (nI i)]) (rest := []) (q := (R_HR, F_HR, 13)) S hE hW (c_HR_exceptionWithWordsLetters l G _ _ r B E (fun k => if k = 6 then g6 else F k) (nI (hy_tot Ps)) (nI ml.length) (nI pl.length) i tg ta Ts (hy_let lg wd) hcl hs.1.2.2.1 hs.2.2.2 wts wT hrt (by omega) (by omega)) hr1 rfl kc_HR_exceptionWithWordsLetters kz_HR k_HR_127 ki_HR_exceptionWithWordsLetters kv_HR_exceptionWithWordsLetters kd_HR_exceptionWithWordsLetters ⟨Nat.le_of_ble_eq_true rfl, Nat.le_of_ble_eq_true rfl⟩ hl.1 (Nat.le_of_ble_eq_true rfl) d_HR_exception_40 ⟨Nat.le_of_ble_eq_true rfl, Nat.le_of_ble_eq_true rfl⟩) (fun v_14 u_12 H locs hp_13 hW => ?_)
        obtain ⟨hfm, hu_15⟩ := hp_13
        rw [hu_15] at hW
        obtain ⟨mo2, haT, he2⟩ := id hs.1.2.2.1
        have htl := hs.2.2.2.1
        refine lv_istore_n (lv' := [(3, .int v_14), (0, .ref r), (1, .int (nI i)), (2, .int y)]) hx hb d_HR_exception_43 rfl hl (by decide) rfl (fun ls hl => ?_)
        refine lv_iload_n hx hb d_HR_exception_44 rfl (lv_at hl 0 rfl) ?_
        refine lv_iconst (v := -1) hx hb d_HR_exception_45 (by decide) ?_
        refine lv_icmp_eq (tgt := 66) hx hb d_HR_exception_46 (by decide) (fun h46 => ?_) (fun h46 => ?_)
        · have hfm1 : fm_ Ts (hy_tm i (hy_let lg wd)) (-1) := by rw [h46] at hfm; exact hfm
          refine lv_aload_n hx hb d_HR_exception_66 rfl (lv_at hl 1 rfl) ?_
          refine wd_get S i_HR hK hW hr1 rfl 2 (by decide) k_HR_19 rfl rfl d_HR_exception_67 ?_
          refine ct_goi hW (ct_runV (As := []) (rest := []) (q := (R_AL, F_AL, 3)) S hE hW (c_AL_size l G _ _ (B 2) (E 2) (nI ta.length) mo2 haT) haT rfl kc_AL_size kz_AL k_HR_54 ki_AL_size kv_AL_size kd_AL_size ⟨Nat.le_of_ble_eq_true rfl, Nat.le_of_ble_eq_true rfl⟩ hl.1 (Nat.le_of_ble_eq_true rfl) d_HR_exception_70 ⟨Nat.le_of_ble_eq_true rfl, Nat.le_of_ble_eq_true rfl⟩) (fun v_18 u_16 H locs hp_17 hW => ?_)
          obtain ⟨hv3, hu_19⟩ := hp_17
          rw [hu_19] at hW
          rw [hv3, htl]
          refine lv_bipush (v := 40) hx hb d_HR_exception_73 (by decide) ?_
          refine lv_icmp_lt (tgt := 81) hx hb d_HR_exception_75 (by decide) (fun h75 => ?_) (fun h75 => ?_)
          · have h40 : Ts.length < 40 := (nI_ltI (a := Ts.length) (b := 40) (by omega) (by omega)).mp h75
            have a6 := hc1.2.2.2.2.1
            refine lv_aload_n hx hb d_HR_exception_81 rfl (lv_at hl 1 rfl) ?_
            refine wd_get S i_HR hK hW hr1 rfl 2 (by decide) k_HR_19 rfl rfl d_HR_exception_82 ?_
            refine wd_new S i_To t_To t_To_ok k_HR_131 kt_To kz_To hK hW (ci := 3) rfl (fs := [.int 0, .null, .int 0]) (fun j hj => by rcases (show j = 0 ∨ j = 1 ∨ j = 2 by omega) with rfl | rfl | rfl <;> rfl) (Nat.le_of_ble_eq_true rfl) (Nat.le_of_ble_eq_true rfl) d_HR_exception_85 (fun q H hq w_20 ew_20 hW => ?_)
            have cq : w_20 q = some (.inr (3, [.int 0, .null, .int 0])) := wd_here ew_20
            have hr1 := wd_keep ew_20 (wd_neN hr1 hq) hr1
            have a6 := wd_keep ew_20 (wd_neN a6 hq) a6
            have hqo := hq
            refine lv_dup hx hb d_HR_exception_88 rfl ?_
            refine lv_iload_n hx hb d_HR_exception_89 rfl (lv_at hl 2 rfl) ?_
            refine lv_aload_n hx hb d_HR_exception_90 rfl (lv_at hl 1 rfl) ?_
            refine wd_get S i_HR hK hW hr1 rfl 9 (by decide) k_HR_42 rfl rfl d_HR_exception_91 ?_
            refine lv_iconst (v := 1) hx hb d_HR_exception_94 (by decide) ?_
            refine lv_aload_n hx hb d_HR_exception_95 rfl (lv_at hl 1 rfl) ?_
            refine wd_get S i_HR hK hW hr1 rfl 8 (by decide) k_HR_39 rfl rfl d_HR_exception_96 ?_
            refine lv_iconst (v := 1) hx hb d_HR_exception_99 (by decide) ?_
            refine lv_iadd hx hb d_HR_exception_100 ?_
            rw [nI_1]
            refine ct_goq hW (ct_runS (As := [.ref (B 6), .int 1, .int (nI (wd.length + 1))]) (rest := [.int (nI i), .ref q, .ref q, .ref (B 2)]) S hE hW (c_Ar_copyOfRange l G _ _ (B 6) 32 wd.length g6 a6 (by omega) (by omega)) kc_Ar_copyOfRange kz_Ar k_HR_136 ks_Ar_copyOfRange kd_Ar_copyOfRange ⟨Nat.le_of_ble_eq_true rfl, Nat.le_of_ble_eq_true rfl⟩ hl.1 (Nat.le_of_ble_eq_true rfl) d_HR_exception_101 ⟨Nat.le_of_ble_eq_true rfl, Nat.le_of_ble_eq_true rfl⟩) (fun v_23 u_21 H locs hp_22 hW => ?_)
            obtain ⟨b2, fb, hvb, hb0, eb, hfb⟩ := hp_22
            rw [hvb]
            refine W.eq (g2 := F0 m 104 ls [.ref b2, .int (nI i), .ref q, .ref q, .ref (B 2)]) rfl ?_
            have hqb : q ≠ b2 := wd_neN cq hb0
            rw [ew_20, va_up_ne _ _ hqb.symm] at hb0
            have cq := wd_keep eb hqb cq
            have cb := wd_here eb
            refine lv_iload_n hx hb d_HR_exception_104 rfl (lv_at hl 3 rfl) ?_
            refine ct_gov hW (ct_runI (As := [.int (nI i), .ref b2, .int y]) (rest := [.ref q, .ref (B 2)]) S hE hW (c_To_init l G _ _ q b2 0 (nI i) y cq) kc_To_init kz_To k_HR_142 ki_To_init rfl kd_To_init ⟨Nat.le_of_ble_eq_true rfl, Nat.le_of_ble_eq_true rfl⟩ hl.1 (Nat.le_of_ble_eq_true rfl) d_HR_exception_105 ⟨Nat.le_of_ble_eq_true rfl, Nat.le_of_ble_eq_true rfl⟩) (fun u_24 H locs hp_25 hW => ?_)
            have cq := wd_here hp_25
            have cb := wd_keep hp_25 hqb.symm cb
            have hk1 : ∀ y, u_9 y ≠ none → u_24 y = u_9 y := fun y hy => by rw [hp_25, va_up_ne _ _ (fun h => hy (by rw [h]; exact hq)), eb, va_up_ne _ _ (fun h => hy (by rw [h]; exact hb0)), ew_20, va_up_ne _ _ (fun h => hy (by rw [h]; exact hq))]
            have halj : al_ G u_24 (B 2) (E 2) ta := al_keep hs.1.2.2.1 (hk1 _ (wd_some hs.1.2.2.1.choose_spec.1)) (fun h => hk1 _ h)
            have hob : ∀ y ∈ ta, ob_ u_24 y := fun y hy => by obtain ⟨ci, fs, g1, g2⟩ := ta_obs hs.2.2.2 y hy; exact ⟨ci, fs, (hk1 _ (wd_some g1)).trans g1, g2⟩
            have haJ := halj.choose_spec.1
            refine ct_goi hW (ct_runV (As := [.ref q]) (rest := []) (q := (R_AL, F_AL, 3)) S hE hW (c_AL_add1 l G _ _ (B 2) (E 2) q ta halj (by omega) hob ⟨3, _, cq, by simp⟩) haJ rfl kc_AL_add1 kz_AL k_HR_61 ki_AL_add1 kv_AL_add1 kd_AL_add1 ⟨Nat.le_of_ble_eq_true rfl, Nat.le_of_ble_eq_true rfl⟩ hl.1 (Nat.le_of_ble_eq_true rfl) d_HR_exception_108 ⟨Nat.le_of_ble_eq_true rfl, Nat.le_of_ble_eq_true rfl⟩) (fun v_29 u_27 H locs hp_28 hW => ?_)
            obtain ⟨hv1, e2, he2, hal2, hne2, hk2⟩ := hp_28
            have heq : u_9 e2 ≠ none → e2 = E 2 := fun h => he2.elim id (fun h2 => absurd ((hk1 e2 h).symm.trans h2).symm (Ne.symm h))
            have hEt : u_9 (E 2) ≠ none → tg (E 2) = 11 + 2 := hs.1.2.2.2 2 (by omega)
            have hk : ∀ y, u_9 y ≠ none → tg y ≠ 2 + 2 → tg y ≠ 11 + 2 → u_27 y = u_9 y := fun y hy h1 h2 => by rw [hk2 y (fun h => h1 (by rw [h]; exact hg.2 2 (by omega))) (fun h => h2 (by rw [h, heq (by rw [← h]; exact hy)]; exact hEt (by rw [← heq (by rw [← h]; exact hy), ← h]; exact hy))), hk1 y hy]
            have hE0 : E 2 = G.2.2 0 ∨ u_9 (E 2) ≠ none := hs.1.2.2.1.choose_spec.2.elim (fun h => Or.inl h.1) (fun h => by obtain ⟨cap, f, h1, -⟩ := h; exact Or.inr (wd_some h1))
            have hz9 := wd_z0 hE hW
            have nn : ∀ y, u_9 y = none → u_24 y ≠ none → y ≠ e2 := fun y h1 h2 h3 => he2.elim (fun h => hE0.elim (fun k => hne2 (by rw [h, k]; exact hz9)) (fun k => k (by rw [← h, ← h3]; exact h1))) (fun h => h2 (by rw [h3]; exact h))
            have nq := nn q hq (wd_some cq)
            have nb2 := nn b2 hb0 (wd_some cb)
            obtain ⟨tg2, htg⟩ : ∃ f : Nat → Nat, f = va_up (va_up (va_up tg e2 13) q (10000 + 2 * q)) b2 (10001 + 2 * q) := ⟨_, rfl⟩
            have hx2 : ex_ u_9 tg tg2 := fun y hy => by rw [htg, va_up_ne _ _ (fun h => hy (by rw [h]; exact hb0)), va_up_ne _ _ (fun h => hy (by rw [h]; exact hq))]; exact tg_e hy (fun h9 => by rw [heq (by rw [← h9]; exact hy)]; exact hEt (by rw [← heq (by rw [← h9]; exact hy), ← h9]; exact hy))
            obtain ⟨hcF, hgF, k0, k1, k2, kE, kl, kp, kt⟩ := hs_gr 2 hs hc1 hg wL wP (by omega) hk hx2 hz9
            have te : tg2 e2 = 11 + 2 := by rw [htg, va_up_ne _ _ (Ne.symm nb2), va_up_ne _ _ (Ne.symm nq), va_up_self]
            have nB : ∀ y, u_9 y = none → y ≠ B 2 := fun y h1 h2 => by rw [h2] at h1; obtain ⟨mo, h9, -⟩ := hs.1.2.2.1; rw [h9] at h1; cases h1
            have c2q := (hk2 q (nB q hq) nq).trans cq
            have c2b2 := (hk2 b2 (nB b2 hb0) nb2).trans cb
            have tq : tg2 q = 10000 + 2 * q := by rw [htg, va_up_ne _ _ hqb, va_up_self]
            have tb : tg2 b2 = 10001 + 2 * q := by rw [htg, va_up_self]
            have hnq : q ∉ ta := fun h => by obtain ⟨ci, fs, g1, -⟩ := ta_obs hs.2.2.2 q h; rw [hq] at g1; cases g1
            have c2b3 : u_27 b2 = some (.inl (G.2.1 0, (hy_let lg wd).length, .inl fb)) := by rw [hll]; exact c2b2
            have hta2 := ta_push (t := (i, hy_let lg wd, y)) (f := fb) kt ⟨c2q, c2b3, li_take hrt (fun j hj => by show fb j = g6 (j + 1); rw [hfb j (by rw [← hll]; exact hj), Nat.add_comm])⟩ tq tb hnq
            have hr0 := hcF.1
            have haJ := hal2.choose_spec.1
            refine lv_pop hx hb d_HR_exception_111 rfl ?_
            refine lv_aload_n hx hb d_HR_exception_112 rfl (lv_at hl 1 rfl) ?_
            refine wd_get S i_HR hK hW hr0 rfl 2 (by decide) k_HR_19 rfl rfl d_HR_exception_113 ?_
            refine ct_goi hW (ct_runV (As := []) (rest := []) (q := (R_AL, F_AL, 3)) S hE hW (c_AL_size l G _ _ (B 2) e2 (nI (ta ++ [q]).length) _ haJ) haJ rfl kc_AL_size kz_AL k_HR_54 ki_AL_size kv_AL_size kd_AL_size ⟨Nat.le_of_ble_eq_true rfl, Nat.le_of_ble_eq_true rfl⟩ hl.1 (Nat.le_of_ble_eq_true rfl) d_HR_exception_116 ⟨Nat.le_of_ble_eq_true rfl, Nat.le_of_ble_eq_true rfl⟩) (fun v_32 u_30 H locs hp_31 hW => ?_)
            obtain ⟨hv7, hu_33⟩ := hp_31
            rw [hu_33] at hW
            rw [hv7, List.length_append, show nI (ta.length + [q].length) = nI (ta.length + 1) from rfl]
            refine lv_iconst (v := 1) hx hb d_HR_exception_119 (by decide) ?_
            refine lv_isub hx hb d_HR_exception_120 ?_
            rw [nI_pred, htl]
            exact ct_iret S hr rfl hlocks hW (⟨_, tg2, Or.inr ⟨hnm0, i, lg, rfl, hlgi, Or.inr (Or.inr (Or.inr ⟨hsp, hfm1, h40, rfl, rfl⟩))⟩, ⟨B, fun k => if k = 2 then e2 else E k, _, la, pa, ta ++ [q], hcF, hgF, ⟨k0 (by omega), k1 (by omega), hal2, fun i hi hn => tg_E hi hn te kE⟩, kl, kp, hta2, hml, hmd, hwd, hpl⟩, fun y hy => hx2 y (fun z => hy ((hdom y).mp z)), kp_tr hkp (fun y hy hq9 => hk y hy (by have hq9 : 500 ≤ tg y ∧ tg y < 600 := hq9; omega) (by have hq9 : 500 ≤ tg y ∧ tg y < 600 := hq9; omega))⟩) (Nat.le_of_ble_eq_true rfl) (Nat.le_of_ble_eq_true rfl) d_HR_exception_121
          · refine lv_bipush (v := -2) hx hb d_HR_exception_78 (by decide) ?_
            exact ct_iret S hr rfl hlocks hW (⟨_, tg, Or.inr ⟨hnm0, i, lg, rfl, hlgi, Or.inr (Or.inr (Or.inl ⟨hsp, hfm1, fun q => h75 (nI_lt (b := 40) q (by omega)), rfl, rfl⟩))⟩, ⟨B, E, _, la, pa, ta, hc1, hg, hs.1, hs.2.1, hs.2.2.1, hs.2.2.2, hml, hmd, hwd, hpl⟩, ex_rf, hkp⟩) (Nat.le_of_ble_eq_true rfl) (Nat.le_of_ble_eq_true rfl) d_HR_exception_80
        · obtain ⟨k, p, exv, hpk, hpm, hbef⟩ : ∃ (k : Nat) (p : hy_T), v_14 = nI k ∧ Ts[k]? = some p ∧ hy_tm i (hy_let lg wd) p ∧ ∀ (j : Nat) (y : hy_T), j < k → Ts[j]? = some y → ¬ hy_tm i (hy_let lg wd) y := hfm.elim (fun q => absurd q.1 h46) id
          have hkl : k < Ts.length := (List.getElem?_eq_some_iff.mp hpk).1
          obtain ⟨a2, b2, f2, e2, ⟨t1, t2, t3⟩, tg1, tg3⟩ := hs.2.2.2.2.2 k p hpk
          refine lv_aload_n hx hb d_HR_exception_49 rfl (lv_at hl 1 rfl) ?_
          refine wd_get S i_HR hK hW hr1 rfl 2 (by decide) k_HR_19 rfl rfl d_HR_exception_50 ?_
          refine lv_iload_n hx hb d_HR_exception_53 rfl (lv_at hl 0 rfl) ?_
          rw [exv]
          refine ct_goq hW (ct_runV (As := [.int (nI k)]) (rest := []) (q := (R_AL, F_AL, 3)) S hE hW (c_AL_get l G _ _ (B 2) (E 2) ta k hs.1.2.2.1 (by omega)) haT rfl kc_AL_get kz_AL k_HR_75 ki_AL_get kv_AL_get kd_AL_get ⟨Nat.le_of_ble_eq_true rfl, Nat.le_of_ble_eq_true rfl⟩ hl.1 (Nat.le_of_ble_eq_true rfl) d_HR_exception_54 ⟨Nat.le_of_ble_eq_true rfl, Nat.le_of_ble_eq_true rfl⟩) (fun v_36 u_34 H locs hp_35 hW => ?_)
          obtain ⟨hvg2, hu_37⟩ := hp_35
          rw [hu_37] at hW
          rw [hvg2, e2]
          refine W.eq (g2 := F0 m 57 ls [.ref a2]) rfl ?_
          refine wd_cast S (T := F_To) (N := 3) k_HR_131 hK hW t1 rfl d_HR_exception_57 ?_
          have t0 := t1
          refine lv_iload_n hx hb d_HR_exception_60 rfl (lv_at hl 3 rfl) ?_
          refine wd_put S i_To t_To t_To_ok n_To hK hW t1 rfl 2 (by decide) k_HR_133 rfl rfl rfl rfl (Nat.le_of_ble_eq_true rfl) d_HR_exception_61 (fun H locs w_38 ew_38 hW => ?_)
          have t1 : w_38 a2 = some (.inr (3, [.int (nI p.1), .ref b2, .int y])) := wd_here ew_38
          have hk9 : ∀ y, u_9 y ≠ none → y ≠ a2 → w_38 y = u_9 y := fun y _ hq => by rw [ew_38, va_up_ne _ _ hq]
          have hd9 : ∀ y, w_38 y = none ↔ u_9 y = none := fun y => by rw [ew_38]; exact up_dom t0
          have hta2 := ta_upd (t2 := (p.1, p.2.1, y)) hs.2.2.2 e2 tg1 tg3 hk9 ⟨t1, by rw [hk9 b2 (wd_some t2) (tg_ne (tg := tg) (by omega))]; exact t2, t3⟩
          have hs := hs_ta hs wL wP hB3 (fun y hy hq => hk9 y hy (fun z => hq (by rw [z]; omega))) hd9 hta2
          have hkp := kp_tr hkp (fun y hy hq => hk9 y hy (fun z => by have hq : 500 ≤ tg y ∧ tg y < 600 := hq; rw [z] at hq; omega))
          have hcF := hc_kp hc1 hg (fun y hy hq => hk9 y hy (fun z => by rw [z] at hq; omega))
          refine lv_iload_n hx hb d_HR_exception_64 rfl (lv_at hl 0 rfl) ?_
          rw [exv]
          exact ct_iret S hr rfl hlocks hW (⟨_, tg, Or.inr ⟨hnm0, i, lg, rfl, hlgi, Or.inr (Or.inl ⟨hsp, k, p, Or.inr ⟨k, p, rfl, hpk, hpm, hbef⟩, hkl, hpk, rfl, rfl⟩)⟩, ⟨B, E, _, la, pa, ta, hcF, hg, hs.1, hs.2.1, hs.2.2.1, hs.2.2.2, hml, hmd, hwd, hpl⟩, ex_rf, hkp⟩) (Nat.le_of_ble_eq_true rfl) (Nat.le_of_ble_eq_true rfl) d_HR_exception_65
      · refine lv_bipush (v := -3) hx hb d_HR_exception_35 (by decide) ?_
        exact ct_iret S hr rfl hlocks hW (⟨_, tg, Or.inr ⟨hnm0, i, lg, rfl, hlgi, Or.inl ⟨fun q => bl_f hv6 h32 q.2, rfl, rfl⟩⟩, ⟨B, E, _, la, pa, ta, hc1, hg, hs.1, hs.2.1, hs.2.2.1, hs.2.2.2, hml, hmd, hwd, hpl⟩, ex_rf, hkp⟩) (Nat.le_of_ble_eq_true rfl) (Nat.le_of_ble_eq_true rfl) d_HR_exception_37
  · refine lv_iconst (v := -1) hx hb d_HR_exception_8 (by decide) ?_
    exact ct_iret S hr rfl hlocks hW (⟨_, tg, Or.inl ⟨fun q => bl_f hv h5 q, rfl, rfl⟩, h, ex_rf, kp_rf⟩) (Nat.le_of_ble_eq_true rfl) (Nat.le_of_ble_eq_true rfl) d_HR_exception_9

set_option maxHeartbeats 4000000 in
set_option maxRecDepth 100000 in
/-- HyphenRows() -/
theorem c_HR_init (l : Launch) (G : ev_G) (w : wd_M) (sz : Nat) (tg : Nat → Nat) (r : Nat) (hr0 : w r = some (.inr (0, [.null, .null, .null, .int 0, .null, .null, .int 0, .null, .int 0, .null, .null, .null, .int 0]))) : ct_v l y_HR_init b_HR_init 1 none (rm_ 4 9 200) G w sz [.ref r] (fun u => ∃ tg2 : Nat → Nat, hr_ G u tg2 r [] [] [] [] [] [] [] ∧ (∀ x, w x ≠ none → x ≠ r → tg2 x = tg x) ∧ ∀ x, w x ≠ none → x ≠ r → u x = w x) := by
  refine ct_enter (by decide +kernel) (Nat.le_of_ble_eq_true rfl) ?_
  intro p_ e_ s m below meth c_ hsz S hr hlocks hname hE hW ls hl
  have S : CallFix p_ m c_ b_HR_init 1 s _ lw_good "HyphenRows" := S
  have hx := S.1
  have hb := S.2.1
  have hK := hE.1
  have hl : lv_has ls 1 [(0, .ref r)] := hl
  refine lv_aload_n hx hb d_HR_init_0 rfl (lv_at hl 0 rfl) ?_
  refine W.objInit hx hb S.2.2.2.1 (S.2.2.2.2 _ k_HR_1) (S.2.2.2.2 _ ki_Oj_init) (S.2.2.2.2 _ kc_Oj_init) rfl (by rw [S.2.2.1]; exact hl.1) rfl d_HR_init_1 (Nat.le_of_ble_eq_true rfl) (Nat.le_of_ble_eq_true rfl) ?_
  refine W.eq (g2 := F0 m 4 ls []) rfl ?_
  refine lv_aload_n hx hb d_HR_init_4 rfl (lv_at hl 0 rfl) ?_
  refine wd_new S i_AL t_AL t_AL_ok k_HR_7 kt_AL kz_AL hK hW (ci := 4) rfl (fs := [.null, .int 0, .int 0]) (fun j hj => by rcases (show j = 0 ∨ j = 1 ∨ j = 2 by omega) with rfl | rfl | rfl <;> rfl) (Nat.le_of_ble_eq_true rfl) (Nat.le_of_ble_eq_true rfl) d_HR_init_5 (fun q0 H hq0 w_1 ew_1 hW => ?_)
  have n_r_q0 : r ≠ q0 := wd_neN hr0 hq0
  have zq0 : w q0 = none := by have h9 := hq0; exact h9
  have hr0 := wd_keep ew_1 n_r_q0 hr0
  have cq0 : w_1 q0 = some (.inr (4, [.null, .int 0, .int 0])) := wd_here ew_1
  refine lv_dup hx hb d_HR_init_8 rfl ?_
  refine ct_gov hW (ct_runI (As := []) (rest := [.ref q0, .ref r]) S hE hW (c_AL_init l G _ _ q0 cq0) kc_AL_init kz_AL k_HR_9 ki_AL_init rfl kd_AL_init ⟨Nat.le_of_ble_eq_true rfl, Nat.le_of_ble_eq_true rfl⟩ hl.1 (Nat.le_of_ble_eq_true rfl) d_HR_init_9 ⟨Nat.le_of_ble_eq_true rfl, Nat.le_of_ble_eq_true rfl⟩) (fun u_2 H locs hp_3 hW => ?_)
  have hr0 := wd_keep hp_3 n_r_q0 hr0
  have cq0 := wd_here hp_3
  have eu_2 := hp_3
  refine wd_putF S i_HR t_HR t_HR_ok n_HR hK hW hr0 rfl 0 (by decide) k_HR_10 rfl rfl hname rfl rfl rfl (Nat.le_of_ble_eq_true rfl) d_HR_init_12 (fun H locs w_5 ew_5 hW => ?_)
  have cq0 := wd_keep ew_5 (Ne.symm n_r_q0) cq0
  have hr0 : w_5 r = some (.inr (0, [.ref q0, .null, .null, .int 0, .null, .null, .int 0, .null, .int 0, .null, .null, .null, .int 0])) := wd_here ew_5
  refine lv_aload_n hx hb d_HR_init_15 rfl (lv_at hl 0 rfl) ?_
  refine wd_new S i_AL t_AL t_AL_ok k_HR_7 kt_AL kz_AL hK hW (ci := 4) rfl (fs := [.null, .int 0, .int 0]) (fun j hj => by rcases (show j = 0 ∨ j = 1 ∨ j = 2 by omega) with rfl | rfl | rfl <;> rfl) (Nat.le_of_ble_eq_true rfl) (Nat.le_of_ble_eq_true rfl) d_HR_init_16 (fun q1 H hq1 w_6 ew_6 hW => ?_)
  have n_q0_q1 : q0 ≠ q1 := wd_neN cq0 hq1
  have n_r_q1 : r ≠ q1 := wd_neN hr0 hq1
  have zq1 : w q1 = none := by have h9 := hq1; rw [ew_5, va_up_ne _ _ n_r_q1.symm, eu_2, va_up_ne _ _ n_q0_q1.symm, ew_1, va_up_ne _ _ n_q0_q1.symm] at h9; exact h9
  have hr0 := wd_keep ew_6 n_r_q1 hr0
  have cq0 := wd_keep ew_6 n_q0_q1 cq0
  have cq1 : w_6 q1 = some (.inr (4, [.null, .int 0, .int 0])) := wd_here ew_6
  refine lv_dup hx hb d_HR_init_19 rfl ?_
  refine ct_gov hW (ct_runI (As := []) (rest := [.ref q1, .ref r]) S hE hW (c_AL_init l G _ _ q1 cq1) kc_AL_init kz_AL k_HR_9 ki_AL_init rfl kd_AL_init ⟨Nat.le_of_ble_eq_true rfl, Nat.le_of_ble_eq_true rfl⟩ hl.1 (Nat.le_of_ble_eq_true rfl) d_HR_init_20 ⟨Nat.le_of_ble_eq_true rfl, Nat.le_of_ble_eq_true rfl⟩) (fun u_7 H locs hp_8 hW => ?_)
  have hr0 := wd_keep hp_8 n_r_q1 hr0
  have cq0 := wd_keep hp_8 n_q0_q1 cq0
  have cq1 := wd_here hp_8
  have eu_7 := hp_8
  refine wd_putF S i_HR t_HR t_HR_ok n_HR hK hW hr0 rfl 1 (by decide) k_HR_16 rfl rfl hname rfl rfl rfl (Nat.le_of_ble_eq_true rfl) d_HR_init_23 (fun H locs w_10 ew_10 hW => ?_)
  have cq0 := wd_keep ew_10 (Ne.symm n_r_q0) cq0
  have cq1 := wd_keep ew_10 (Ne.symm n_r_q1) cq1
  have hr0 : w_10 r = some (.inr (0, [.ref q0, .ref q1, .null, .int 0, .null, .null, .int 0, .null, .int 0, .null, .null, .null, .int 0])) := wd_here ew_10
  refine lv_aload_n hx hb d_HR_init_26 rfl (lv_at hl 0 rfl) ?_
  refine wd_new S i_AL t_AL t_AL_ok k_HR_7 kt_AL kz_AL hK hW (ci := 4) rfl (fs := [.null, .int 0, .int 0]) (fun j hj => by rcases (show j = 0 ∨ j = 1 ∨ j = 2 by omega) with rfl | rfl | rfl <;> rfl) (Nat.le_of_ble_eq_true rfl) (Nat.le_of_ble_eq_true rfl) d_HR_init_27 (fun q2 H hq2 w_11 ew_11 hW => ?_)
  have n_q0_q2 : q0 ≠ q2 := wd_neN cq0 hq2
  have n_q1_q2 : q1 ≠ q2 := wd_neN cq1 hq2
  have n_r_q2 : r ≠ q2 := wd_neN hr0 hq2
  have zq2 : w q2 = none := by have h9 := hq2; rw [ew_10, va_up_ne _ _ n_r_q2.symm, eu_7, va_up_ne _ _ n_q1_q2.symm, ew_6, va_up_ne _ _ n_q1_q2.symm, ew_5, va_up_ne _ _ n_r_q2.symm, eu_2, va_up_ne _ _ n_q0_q2.symm, ew_1, va_up_ne _ _ n_q0_q2.symm] at h9; exact h9
  have hr0 := wd_keep ew_11 n_r_q2 hr0
  have cq0 := wd_keep ew_11 n_q0_q2 cq0
  have cq1 := wd_keep ew_11 n_q1_q2 cq1
  have cq2 : w_11 q2 = some (.inr (4, [.null, .int 0, .int 0])) := wd_here ew_11
  refine lv_dup hx hb d_HR_init_30 rfl ?_
  refine ct_gov hW (ct_runI (As := []) (rest := [.ref q2, .ref r]) S hE hW (c_AL_init l G _ _ q2 cq2) kc_AL_init kz_AL k_HR_9 ki_AL_init rfl kd_AL_init ⟨Nat.le_of_ble_eq_true rfl, Nat.le_of_ble_eq_true rfl⟩ hl.1 (Nat.le_of_ble_eq_true rfl) d_HR_init_31 ⟨Nat.le_of_ble_eq_true rfl, Nat.le_of_ble_eq_true rfl⟩) (fun u_12 H locs hp_13 hW => ?_)
  have hr0 := wd_keep hp_13 n_r_q2 hr0
  have cq0 := wd_keep hp_13 n_q0_q2 cq0
  have cq1 := wd_keep hp_13 n_q1_q2 cq1
  have cq2 := wd_here hp_13
  have eu_12 := hp_13
  refine wd_putF S i_HR t_HR t_HR_ok n_HR hK hW hr0 rfl 2 (by decide) k_HR_19 rfl rfl hname rfl rfl rfl (Nat.le_of_ble_eq_true rfl) d_HR_init_34 (fun H locs w_15 ew_15 hW => ?_)
  have cq0 := wd_keep ew_15 (Ne.symm n_r_q0) cq0
  have cq1 := wd_keep ew_15 (Ne.symm n_r_q1) cq1
  have cq2 := wd_keep ew_15 (Ne.symm n_r_q2) cq2
  have hr0 : w_15 r = some (.inr (0, [.ref q0, .ref q1, .ref q2, .int 0, .null, .null, .int 0, .null, .int 0, .null, .null, .null, .int 0])) := wd_here ew_15
  refine lv_aload_n hx hb d_HR_init_37 rfl (lv_at hl 0 rfl) ?_
  refine lv_iconst (v := 0) hx hb d_HR_init_38 (by decide) ?_
  refine wd_put S i_HR t_HR t_HR_ok n_HR hK hW hr0 rfl 3 (by decide) k_HR_22 rfl rfl rfl rfl (Nat.le_of_ble_eq_true rfl) d_HR_init_39 (fun H locs w_16 ew_16 hW => ?_)
  have cq0 := wd_keep ew_16 (Ne.symm n_r_q0) cq0
  have cq1 := wd_keep ew_16 (Ne.symm n_r_q1) cq1
  have cq2 := wd_keep ew_16 (Ne.symm n_r_q2) cq2
  have hr0 : w_16 r = some (.inr (0, [.ref q0, .ref q1, .ref q2, .int 0, .null, .null, .int 0, .null, .int 0, .null, .null, .null, .int 0])) := wd_here ew_16
  refine lv_aload_n hx hb d_HR_init_42 rfl (lv_at hl 0 rfl) ?_
  refine lv_bipush (v := 12) hx hb d_HR_init_43 (by decide) ?_
  refine wd_newa S (atype := .int) ka_int rfl hK hW 0 rfl (n := 12) (N' := 12) (a0 := (12, .inl (fun _ => 0))) (fun _ => rfl) (by decide) (by decide) (by decide) (Nat.le_of_ble_eq_true rfl) (Nat.le_of_ble_eq_true rfl) d_HR_init_45 (fun q3 H hq3 w_17 ew_17 hW => ?_)
  have n_q0_q3 : q0 ≠ q3 := wd_neN cq0 hq3
  have n_q1_q3 : q1 ≠ q3 := wd_neN cq1 hq3
  have n_q2_q3 : q2 ≠ q3 := wd_neN cq2 hq3
  have n_r_q3 : r ≠ q3 := wd_neN hr0 hq3
  have zq3 : w q3 = none := by have h9 := hq3; rw [ew_16, va_up_ne _ _ n_r_q3.symm, ew_15, va_up_ne _ _ n_r_q3.symm, eu_12, va_up_ne _ _ n_q2_q3.symm, ew_11, va_up_ne _ _ n_q2_q3.symm, ew_10, va_up_ne _ _ n_r_q3.symm, eu_7, va_up_ne _ _ n_q1_q3.symm, ew_6, va_up_ne _ _ n_q1_q3.symm, ew_5, va_up_ne _ _ n_r_q3.symm, eu_2, va_up_ne _ _ n_q0_q3.symm, ew_1, va_up_ne _ _ n_q0_q3.symm] at h9; exact h9
  have hr0 := wd_keep ew_17 n_r_q3 hr0
  have cq0 := wd_keep ew_17 n_q0_q3 cq0
  have cq1 := wd_keep ew_17 n_q1_q3 cq1
  have cq2 := wd_keep ew_17 n_q2_q3 cq2
  have cq3 : w_17 q3 = some (.inl (G.2.1 0, 12, .inl (fun _ => 0))) := wd_here ew_17
  refine wd_putF S i_HR t_HR t_HR_ok n_HR hK hW hr0 rfl 4 (by decide) k_HR_26 rfl rfl hname rfl rfl rfl (Nat.le_of_ble_eq_true rfl) d_HR_init_47 (fun H locs w_18 ew_18 hW => ?_)
  have cq0 := wd_keep ew_18 (Ne.symm n_r_q0) cq0
  have cq1 := wd_keep ew_18 (Ne.symm n_r_q1) cq1
  have cq2 := wd_keep ew_18 (Ne.symm n_r_q2) cq2
  have cq3 := wd_keep ew_18 (Ne.symm n_r_q3) cq3
  have hr0 : w_18 r = some (.inr (0, [.ref q0, .ref q1, .ref q2, .int 0, .ref q3, .null, .int 0, .null, .int 0, .null, .null, .null, .int 0])) := wd_here ew_18
  refine lv_aload_n hx hb d_HR_init_50 rfl (lv_at hl 0 rfl) ?_
  refine lv_bipush (v := 13) hx hb d_HR_init_51 (by decide) ?_
  refine wd_newa S (atype := .int) ka_int rfl hK hW 0 rfl (n := 13) (N' := 13) (a0 := (13, .inl (fun _ => 0))) (fun _ => rfl) (by decide) (by decide) (by decide) (Nat.le_of_ble_eq_true rfl) (Nat.le_of_ble_eq_true rfl) d_HR_init_53 (fun q4 H hq4 w_19 ew_19 hW => ?_)
  have n_q0_q4 : q0 ≠ q4 := wd_neN cq0 hq4
  have n_q1_q4 : q1 ≠ q4 := wd_neN cq1 hq4
  have n_q2_q4 : q2 ≠ q4 := wd_neN cq2 hq4
  have n_q3_q4 : q3 ≠ q4 := wd_neN cq3 hq4
  have n_r_q4 : r ≠ q4 := wd_neN hr0 hq4
  have zq4 : w q4 = none := by have h9 := hq4; rw [ew_18, va_up_ne _ _ n_r_q4.symm, ew_17, va_up_ne _ _ n_q3_q4.symm, ew_16, va_up_ne _ _ n_r_q4.symm, ew_15, va_up_ne _ _ n_r_q4.symm, eu_12, va_up_ne _ _ n_q2_q4.symm, ew_11, va_up_ne _ _ n_q2_q4.symm, ew_10, va_up_ne _ _ n_r_q4.symm, eu_7, va_up_ne _ _ n_q1_q4.symm, ew_6, va_up_ne _ _ n_q1_q4.symm, ew_5, va_up_ne _ _ n_r_q4.symm, eu_2, va_up_ne _ _ n_q0_q4.symm, ew_1, va_up_ne _ _ n_q0_q4.symm] at h9; exact h9
  have hr0 := wd_keep ew_19 n_r_q4 hr0
  have cq0 := wd_keep ew_19 n_q0_q4 cq0
  have cq1 := wd_keep ew_19 n_q1_q4 cq1
  have cq2 := wd_keep ew_19 n_q2_q4 cq2
  have cq3 := wd_keep ew_19 n_q3_q4 cq3
  have cq4 : w_19 q4 = some (.inl (G.2.1 0, 13, .inl (fun _ => 0))) := wd_here ew_19
  refine wd_putF S i_HR t_HR t_HR_ok n_HR hK hW hr0 rfl 5 (by decide) k_HR_30 rfl rfl hname rfl rfl rfl (Nat.le_of_ble_eq_true rfl) d_HR_init_55 (fun H locs w_20 ew_20 hW => ?_)
  have cq0 := wd_keep ew_20 (Ne.symm n_r_q0) cq0
  have cq1 := wd_keep ew_20 (Ne.symm n_r_q1) cq1
  have cq2 := wd_keep ew_20 (Ne.symm n_r_q2) cq2
  have cq3 := wd_keep ew_20 (Ne.symm n_r_q3) cq3
  have cq4 := wd_keep ew_20 (Ne.symm n_r_q4) cq4
  have hr0 : w_20 r = some (.inr (0, [.ref q0, .ref q1, .ref q2, .int 0, .ref q3, .ref q4, .int 0, .null, .int 0, .null, .null, .null, .int 0])) := wd_here ew_20
  refine lv_aload_n hx hb d_HR_init_58 rfl (lv_at hl 0 rfl) ?_
  refine lv_iconst (v := 0) hx hb d_HR_init_59 (by decide) ?_
  refine wd_put S i_HR t_HR t_HR_ok n_HR hK hW hr0 rfl 6 (by decide) k_HR_33 rfl rfl rfl rfl (Nat.le_of_ble_eq_true rfl) d_HR_init_60 (fun H locs w_21 ew_21 hW => ?_)
  have cq0 := wd_keep ew_21 (Ne.symm n_r_q0) cq0
  have cq1 := wd_keep ew_21 (Ne.symm n_r_q1) cq1
  have cq2 := wd_keep ew_21 (Ne.symm n_r_q2) cq2
  have cq3 := wd_keep ew_21 (Ne.symm n_r_q3) cq3
  have cq4 := wd_keep ew_21 (Ne.symm n_r_q4) cq4
  have hr0 : w_21 r = some (.inr (0, [.ref q0, .ref q1, .ref q2, .int 0, .ref q3, .ref q4, .int 0, .null, .int 0, .null, .null, .null, .int 0])) := wd_here ew_21
  refine lv_aload_n hx hb d_HR_init_63 rfl (lv_at hl 0 rfl) ?_
  refine lv_bipush (v := 30) hx hb d_HR_init_64 (by decide) ?_
  refine wd_newa S (atype := .int) ka_int rfl hK hW 0 rfl (n := 30) (N' := 30) (a0 := (30, .inl (fun _ => 0))) (fun _ => rfl) (by decide) (by decide) (by decide) (Nat.le_of_ble_eq_true rfl) (Nat.le_of_ble_eq_true rfl) d_HR_init_66 (fun q5 H hq5 w_22 ew_22 hW => ?_)
  have n_q0_q5 : q0 ≠ q5 := wd_neN cq0 hq5
  have n_q1_q5 : q1 ≠ q5 := wd_neN cq1 hq5
  have n_q2_q5 : q2 ≠ q5 := wd_neN cq2 hq5
  have n_q3_q5 : q3 ≠ q5 := wd_neN cq3 hq5
  have n_q4_q5 : q4 ≠ q5 := wd_neN cq4 hq5
  have n_r_q5 : r ≠ q5 := wd_neN hr0 hq5
  have zq5 : w q5 = none := by have h9 := hq5; rw [ew_21, va_up_ne _ _ n_r_q5.symm, ew_20, va_up_ne _ _ n_r_q5.symm, ew_19, va_up_ne _ _ n_q4_q5.symm, ew_18, va_up_ne _ _ n_r_q5.symm, ew_17, va_up_ne _ _ n_q3_q5.symm, ew_16, va_up_ne _ _ n_r_q5.symm, ew_15, va_up_ne _ _ n_r_q5.symm, eu_12, va_up_ne _ _ n_q2_q5.symm, ew_11, va_up_ne _ _ n_q2_q5.symm, ew_10, va_up_ne _ _ n_r_q5.symm, eu_7, va_up_ne _ _ n_q1_q5.symm, ew_6, va_up_ne _ _ n_q1_q5.symm, ew_5, va_up_ne _ _ n_r_q5.symm, eu_2, va_up_ne _ _ n_q0_q5.symm, ew_1, va_up_ne _ _ n_q0_q5.symm] at h9; exact h9
  have hr0 := wd_keep ew_22 n_r_q5 hr0
  have cq0 := wd_keep ew_22 n_q0_q5 cq0
  have cq1 := wd_keep ew_22 n_q1_q5 cq1
  have cq2 := wd_keep ew_22 n_q2_q5 cq2
  have cq3 := wd_keep ew_22 n_q3_q5 cq3
  have cq4 := wd_keep ew_22 n_q4_q5 cq4
  have cq5 : w_22 q5 = some (.inl (G.2.1 0, 30, .inl (fun _ => 0))) := wd_here ew_22
  refine wd_putF S i_HR t_HR t_HR_ok n_HR hK hW hr0 rfl 7 (by decide) k_HR_36 rfl rfl hname rfl rfl rfl (Nat.le_of_ble_eq_true rfl) d_HR_init_68 (fun H locs w_23 ew_23 hW => ?_)
  have cq0 := wd_keep ew_23 (Ne.symm n_r_q0) cq0
  have cq1 := wd_keep ew_23 (Ne.symm n_r_q1) cq1
  have cq2 := wd_keep ew_23 (Ne.symm n_r_q2) cq2
  have cq3 := wd_keep ew_23 (Ne.symm n_r_q3) cq3
  have cq4 := wd_keep ew_23 (Ne.symm n_r_q4) cq4
  have cq5 := wd_keep ew_23 (Ne.symm n_r_q5) cq5
  have hr0 : w_23 r = some (.inr (0, [.ref q0, .ref q1, .ref q2, .int 0, .ref q3, .ref q4, .int 0, .ref q5, .int 0, .null, .null, .null, .int 0])) := wd_here ew_23
  refine lv_aload_n hx hb d_HR_init_71 rfl (lv_at hl 0 rfl) ?_
  refine lv_iconst (v := 0) hx hb d_HR_init_72 (by decide) ?_
  refine wd_put S i_HR t_HR t_HR_ok n_HR hK hW hr0 rfl 8 (by decide) k_HR_39 rfl rfl rfl rfl (Nat.le_of_ble_eq_true rfl) d_HR_init_73 (fun H locs w_24 ew_24 hW => ?_)
  have cq0 := wd_keep ew_24 (Ne.symm n_r_q0) cq0
  have cq1 := wd_keep ew_24 (Ne.symm n_r_q1) cq1
  have cq2 := wd_keep ew_24 (Ne.symm n_r_q2) cq2
  have cq3 := wd_keep ew_24 (Ne.symm n_r_q3) cq3
  have cq4 := wd_keep ew_24 (Ne.symm n_r_q4) cq4
  have cq5 := wd_keep ew_24 (Ne.symm n_r_q5) cq5
  have hr0 : w_24 r = some (.inr (0, [.ref q0, .ref q1, .ref q2, .int 0, .ref q3, .ref q4, .int 0, .ref q5, .int 0, .null, .null, .null, .int 0])) := wd_here ew_24
  refine lv_aload_n hx hb d_HR_init_76 rfl (lv_at hl 0 rfl) ?_
  refine lv_bipush (v := 32) hx hb d_HR_init_77 (by decide) ?_
  refine wd_newa S (atype := .int) ka_int rfl hK hW 0 rfl (n := 32) (N' := 32) (a0 := (32, .inl (fun _ => 0))) (fun _ => rfl) (by decide) (by decide) (by decide) (Nat.le_of_ble_eq_true rfl) (Nat.le_of_ble_eq_true rfl) d_HR_init_79 (fun q6 H hq6 w_25 ew_25 hW => ?_)
  have n_q0_q6 : q0 ≠ q6 := wd_neN cq0 hq6
  have n_q1_q6 : q1 ≠ q6 := wd_neN cq1 hq6
  have n_q2_q6 : q2 ≠ q6 := wd_neN cq2 hq6
  have n_q3_q6 : q3 ≠ q6 := wd_neN cq3 hq6
  have n_q4_q6 : q4 ≠ q6 := wd_neN cq4 hq6
  have n_q5_q6 : q5 ≠ q6 := wd_neN cq5 hq6
  have n_r_q6 : r ≠ q6 := wd_neN hr0 hq6
  have zq6 : w q6 = none := by have h9 := hq6; rw [ew_24, va_up_ne _ _ n_r_q6.symm, ew_23, va_up_ne _ _ n_r_q6.symm, ew_22, va_up_ne _ _ n_q5_q6.symm, ew_21, va_up_ne _ _ n_r_q6.symm, ew_20, va_up_ne _ _ n_r_q6.symm, ew_19, va_up_ne _ _ n_q4_q6.symm, ew_18, va_up_ne _ _ n_r_q6.symm, ew_17, va_up_ne _ _ n_q3_q6.symm, ew_16, va_up_ne _ _ n_r_q6.symm, ew_15, va_up_ne _ _ n_r_q6.symm, eu_12, va_up_ne _ _ n_q2_q6.symm, ew_11, va_up_ne _ _ n_q2_q6.symm, ew_10, va_up_ne _ _ n_r_q6.symm, eu_7, va_up_ne _ _ n_q1_q6.symm, ew_6, va_up_ne _ _ n_q1_q6.symm, ew_5, va_up_ne _ _ n_r_q6.symm, eu_2, va_up_ne _ _ n_q0_q6.symm, ew_1, va_up_ne _ _ n_q0_q6.symm] at h9; exact h9
  have hr0 := wd_keep ew_25 n_r_q6 hr0
  have cq0 := wd_keep ew_25 n_q0_q6 cq0
  have cq1 := wd_keep ew_25 n_q1_q6 cq1
  have cq2 := wd_keep ew_25 n_q2_q6 cq2
  have cq3 := wd_keep ew_25 n_q3_q6 cq3
  have cq4 := wd_keep ew_25 n_q4_q6 cq4
  have cq5 := wd_keep ew_25 n_q5_q6 cq5
  have cq6 : w_25 q6 = some (.inl (G.2.1 0, 32, .inl (fun _ => 0))) := wd_here ew_25
  refine wd_putF S i_HR t_HR t_HR_ok n_HR hK hW hr0 rfl 9 (by decide) k_HR_42 rfl rfl hname rfl rfl rfl (Nat.le_of_ble_eq_true rfl) d_HR_init_81 (fun H locs w_26 ew_26 hW => ?_)
  have cq0 := wd_keep ew_26 (Ne.symm n_r_q0) cq0
  have cq1 := wd_keep ew_26 (Ne.symm n_r_q1) cq1
  have cq2 := wd_keep ew_26 (Ne.symm n_r_q2) cq2
  have cq3 := wd_keep ew_26 (Ne.symm n_r_q3) cq3
  have cq4 := wd_keep ew_26 (Ne.symm n_r_q4) cq4
  have cq5 := wd_keep ew_26 (Ne.symm n_r_q5) cq5
  have cq6 := wd_keep ew_26 (Ne.symm n_r_q6) cq6
  have hr0 : w_26 r = some (.inr (0, [.ref q0, .ref q1, .ref q2, .int 0, .ref q3, .ref q4, .int 0, .ref q5, .int 0, .ref q6, .null, .null, .int 0])) := wd_here ew_26
  refine lv_aload_n hx hb d_HR_init_84 rfl (lv_at hl 0 rfl) ?_
  refine lv_bipush (v := 33) hx hb d_HR_init_85 (by decide) ?_
  refine wd_newa S (atype := .int) ka_int rfl hK hW 0 rfl (n := 33) (N' := 33) (a0 := (33, .inl (fun _ => 0))) (fun _ => rfl) (by decide) (by decide) (by decide) (Nat.le_of_ble_eq_true rfl) (Nat.le_of_ble_eq_true rfl) d_HR_init_87 (fun q7 H hq7 w_27 ew_27 hW => ?_)
  have n_q0_q7 : q0 ≠ q7 := wd_neN cq0 hq7
  have n_q1_q7 : q1 ≠ q7 := wd_neN cq1 hq7
  have n_q2_q7 : q2 ≠ q7 := wd_neN cq2 hq7
  have n_q3_q7 : q3 ≠ q7 := wd_neN cq3 hq7
  have n_q4_q7 : q4 ≠ q7 := wd_neN cq4 hq7
  have n_q5_q7 : q5 ≠ q7 := wd_neN cq5 hq7
  have n_q6_q7 : q6 ≠ q7 := wd_neN cq6 hq7
  have n_r_q7 : r ≠ q7 := wd_neN hr0 hq7
  have zq7 : w q7 = none := by have h9 := hq7; rw [ew_26, va_up_ne _ _ n_r_q7.symm, ew_25, va_up_ne _ _ n_q6_q7.symm, ew_24, va_up_ne _ _ n_r_q7.symm, ew_23, va_up_ne _ _ n_r_q7.symm, ew_22, va_up_ne _ _ n_q5_q7.symm, ew_21, va_up_ne _ _ n_r_q7.symm, ew_20, va_up_ne _ _ n_r_q7.symm, ew_19, va_up_ne _ _ n_q4_q7.symm, ew_18, va_up_ne _ _ n_r_q7.symm, ew_17, va_up_ne _ _ n_q3_q7.symm, ew_16, va_up_ne _ _ n_r_q7.symm, ew_15, va_up_ne _ _ n_r_q7.symm, eu_12, va_up_ne _ _ n_q2_q7.symm, ew_11, va_up_ne _ _ n_q2_q7.symm, ew_10, va_up_ne _ _ n_r_q7.symm, eu_7, va_up_ne _ _ n_q1_q7.symm, ew_6, va_up_ne _ _ n_q1_q7.symm, ew_5, va_up_ne _ _ n_r_q7.symm, eu_2, va_up_ne _ _ n_q0_q7.symm, ew_1, va_up_ne _ _ n_q0_q7.symm] at h9; exact h9
  have hr0 := wd_keep ew_27 n_r_q7 hr0
  have cq0 := wd_keep ew_27 n_q0_q7 cq0
  have cq1 := wd_keep ew_27 n_q1_q7 cq1
  have cq2 := wd_keep ew_27 n_q2_q7 cq2
  have cq3 := wd_keep ew_27 n_q3_q7 cq3
  have cq4 := wd_keep ew_27 n_q4_q7 cq4
  have cq5 := wd_keep ew_27 n_q5_q7 cq5
  have cq6 := wd_keep ew_27 n_q6_q7 cq6
  have cq7 : w_27 q7 = some (.inl (G.2.1 0, 33, .inl (fun _ => 0))) := wd_here ew_27
  refine wd_putF S i_HR t_HR t_HR_ok n_HR hK hW hr0 rfl 10 (by decide) k_HR_45 rfl rfl hname rfl rfl rfl (Nat.le_of_ble_eq_true rfl) d_HR_init_89 (fun H locs w_28 ew_28 hW => ?_)
  have cq0 := wd_keep ew_28 (Ne.symm n_r_q0) cq0
  have cq1 := wd_keep ew_28 (Ne.symm n_r_q1) cq1
  have cq2 := wd_keep ew_28 (Ne.symm n_r_q2) cq2
  have cq3 := wd_keep ew_28 (Ne.symm n_r_q3) cq3
  have cq4 := wd_keep ew_28 (Ne.symm n_r_q4) cq4
  have cq5 := wd_keep ew_28 (Ne.symm n_r_q5) cq5
  have cq6 := wd_keep ew_28 (Ne.symm n_r_q6) cq6
  have cq7 := wd_keep ew_28 (Ne.symm n_r_q7) cq7
  have hr0 : w_28 r = some (.inr (0, [.ref q0, .ref q1, .ref q2, .int 0, .ref q3, .ref q4, .int 0, .ref q5, .int 0, .ref q6, .ref q7, .null, .int 0])) := wd_here ew_28
  refine lv_aload_n hx hb d_HR_init_92 rfl (lv_at hl 0 rfl) ?_
  refine lv_bipush (v := 30) hx hb d_HR_init_93 (by decide) ?_
  refine wd_newa S (atype := .int) ka_int rfl hK hW 0 rfl (n := 30) (N' := 30) (a0 := (30, .inl (fun _ => 0))) (fun _ => rfl) (by decide) (by decide) (by decide) (Nat.le_of_ble_eq_true rfl) (Nat.le_of_ble_eq_true rfl) d_HR_init_95 (fun q8 H hq8 w_29 ew_29 hW => ?_)
  have n_q0_q8 : q0 ≠ q8 := wd_neN cq0 hq8
  have n_q1_q8 : q1 ≠ q8 := wd_neN cq1 hq8
  have n_q2_q8 : q2 ≠ q8 := wd_neN cq2 hq8
  have n_q3_q8 : q3 ≠ q8 := wd_neN cq3 hq8
  have n_q4_q8 : q4 ≠ q8 := wd_neN cq4 hq8
  have n_q5_q8 : q5 ≠ q8 := wd_neN cq5 hq8
  have n_q6_q8 : q6 ≠ q8 := wd_neN cq6 hq8
  have n_q7_q8 : q7 ≠ q8 := wd_neN cq7 hq8
  have n_r_q8 : r ≠ q8 := wd_neN hr0 hq8
  have zq8 : w q8 = none := by have h9 := hq8; rw [ew_28, va_up_ne _ _ n_r_q8.symm, ew_27, va_up_ne _ _ n_q7_q8.symm, ew_26, va_up_ne _ _ n_r_q8.symm, ew_25, va_up_ne _ _ n_q6_q8.symm, ew_24, va_up_ne _ _ n_r_q8.symm, ew_23, va_up_ne _ _ n_r_q8.symm, ew_22, va_up_ne _ _ n_q5_q8.symm, ew_21, va_up_ne _ _ n_r_q8.symm, ew_20, va_up_ne _ _ n_r_q8.symm, ew_19, va_up_ne _ _ n_q4_q8.symm, ew_18, va_up_ne _ _ n_r_q8.symm, ew_17, va_up_ne _ _ n_q3_q8.symm, ew_16, va_up_ne _ _ n_r_q8.symm, ew_15, va_up_ne _ _ n_r_q8.symm, eu_12, va_up_ne _ _ n_q2_q8.symm, ew_11, va_up_ne _ _ n_q2_q8.symm, ew_10, va_up_ne _ _ n_r_q8.symm, eu_7, va_up_ne _ _ n_q1_q8.symm, ew_6, va_up_ne _ _ n_q1_q8.symm, ew_5, va_up_ne _ _ n_r_q8.symm, eu_2, va_up_ne _ _ n_q0_q8.symm, ew_1, va_up_ne _ _ n_q0_q8.symm] at h9; exact h9
  have hr0 := wd_keep ew_29 n_r_q8 hr0
  have cq0 := wd_keep ew_29 n_q0_q8 cq0
  have cq1 := wd_keep ew_29 n_q1_q8 cq1
  have cq2 := wd_keep ew_29 n_q2_q8 cq2
  have cq3 := wd_keep ew_29 n_q3_q8 cq3
  have cq4 := wd_keep ew_29 n_q4_q8 cq4
  have cq5 := wd_keep ew_29 n_q5_q8 cq5
  have cq6 := wd_keep ew_29 n_q6_q8 cq6
  have cq7 := wd_keep ew_29 n_q7_q8 cq7
  have cq8 : w_29 q8 = some (.inl (G.2.1 0, 30, .inl (fun _ => 0))) := wd_here ew_29
  refine wd_putF S i_HR t_HR t_HR_ok n_HR hK hW hr0 rfl 11 (by decide) k_HR_48 rfl rfl hname rfl rfl rfl (Nat.le_of_ble_eq_true rfl) d_HR_init_97 (fun H locs w_30 ew_30 hW => ?_)
  have cq0 := wd_keep ew_30 (Ne.symm n_r_q0) cq0
  have cq1 := wd_keep ew_30 (Ne.symm n_r_q1) cq1
  have cq2 := wd_keep ew_30 (Ne.symm n_r_q2) cq2
  have cq3 := wd_keep ew_30 (Ne.symm n_r_q3) cq3
  have cq4 := wd_keep ew_30 (Ne.symm n_r_q4) cq4
  have cq5 := wd_keep ew_30 (Ne.symm n_r_q5) cq5
  have cq6 := wd_keep ew_30 (Ne.symm n_r_q6) cq6
  have cq7 := wd_keep ew_30 (Ne.symm n_r_q7) cq7
  have cq8 := wd_keep ew_30 (Ne.symm n_r_q8) cq8
  have hr0 : w_30 r = some (.inr (0, [.ref q0, .ref q1, .ref q2, .int 0, .ref q3, .ref q4, .int 0, .ref q5, .int 0, .ref q6, .ref q7, .ref q8, .int 0])) := wd_here ew_30
  refine lv_aload_n hx hb d_HR_init_100 rfl (lv_at hl 0 rfl) ?_
  refine lv_iconst (v := 0) hx hb d_HR_init_101 (by decide) ?_
  refine wd_put S i_HR t_HR t_HR_ok n_HR hK hW hr0 rfl 12 (by decide) k_HR_51 rfl rfl rfl rfl (Nat.le_of_ble_eq_true rfl) d_HR_init_102 (fun H locs w_31 ew_31 hW => ?_)
  have cq0 := wd_keep ew_31 (Ne.symm n_r_q0) cq0
  have cq1 := wd_keep ew_31 (Ne.symm n_r_q1) cq1
  have cq2 := wd_keep ew_31 (Ne.symm n_r_q2) cq2
  have cq3 := wd_keep ew_31 (Ne.symm n_r_q3) cq3
  have cq4 := wd_keep ew_31 (Ne.symm n_r_q4) cq4
  have cq5 := wd_keep ew_31 (Ne.symm n_r_q5) cq5
  have cq6 := wd_keep ew_31 (Ne.symm n_r_q6) cq6
  have cq7 := wd_keep ew_31 (Ne.symm n_r_q7) cq7
  have cq8 := wd_keep ew_31 (Ne.symm n_r_q8) cq8
  have hr0 : w_31 r = some (.inr (0, [.ref q0, .ref q1, .ref q2, .int 0, .ref q3, .ref q4, .int 0, .ref q5, .int 0, .ref q6, .ref q7, .ref q8, .int 0])) := wd_here ew_31
  have hk : ∀ x, w x ≠ none → x ≠ r → w_31 x = w x := fun x hx hxr => by rw [ew_31, va_up_ne _ _ hxr, ew_30, va_up_ne _ _ hxr, ew_29, va_up_ne _ _ (fun h => hx (by rw [h]; exact zq8)), ew_28, va_up_ne _ _ hxr, ew_27, va_up_ne _ _ (fun h => hx (by rw [h]; exact zq7)), ew_26, va_up_ne _ _ hxr, ew_25, va_up_ne _ _ (fun h => hx (by rw [h]; exact zq6)), ew_24, va_up_ne _ _ hxr, ew_23, va_up_ne _ _ hxr, ew_22, va_up_ne _ _ (fun h => hx (by rw [h]; exact zq5)), ew_21, va_up_ne _ _ hxr, ew_20, va_up_ne _ _ hxr, ew_19, va_up_ne _ _ (fun h => hx (by rw [h]; exact zq4)), ew_18, va_up_ne _ _ hxr, ew_17, va_up_ne _ _ (fun h => hx (by rw [h]; exact zq3)), ew_16, va_up_ne _ _ hxr, ew_15, va_up_ne _ _ hxr, eu_12, va_up_ne _ _ (fun h => hx (by rw [h]; exact zq2)), ew_11, va_up_ne _ _ (fun h => hx (by rw [h]; exact zq2)), ew_10, va_up_ne _ _ hxr, eu_7, va_up_ne _ _ (fun h => hx (by rw [h]; exact zq1)), ew_6, va_up_ne _ _ (fun h => hx (by rw [h]; exact zq1)), ew_5, va_up_ne _ _ hxr, eu_2, va_up_ne _ _ (fun h => hx (by rw [h]; exact zq0)), ew_1, va_up_ne _ _ (fun h => hx (by rw [h]; exact zq0))]
  have hz9 := wd_z0 hE hW
  obtain ⟨tg2, htg⟩ : ∃ f : Nat → Nat, f = va_up (va_up (va_up (va_up (va_up (va_up (va_up (va_up (va_up (va_up tg r 1) q0 2) q1 3) q2 4) q3 5) q4 6) q5 7) q6 8) q7 9) q8 10 := ⟨_, rfl⟩
  have tr : tg2 r = 1 := by rw [htg, va_up_ne _ _ n_r_q8, va_up_ne _ _ n_r_q7, va_up_ne _ _ n_r_q6, va_up_ne _ _ n_r_q5, va_up_ne _ _ n_r_q4, va_up_ne _ _ n_r_q3, va_up_ne _ _ n_r_q2, va_up_ne _ _ n_r_q1, va_up_ne _ _ n_r_q0, va_up_self]
  have tq0 : tg2 q0 = 2 := by rw [htg, va_up_ne _ _ n_q0_q8, va_up_ne _ _ n_q0_q7, va_up_ne _ _ n_q0_q6, va_up_ne _ _ n_q0_q5, va_up_ne _ _ n_q0_q4, va_up_ne _ _ n_q0_q3, va_up_ne _ _ n_q0_q2, va_up_ne _ _ n_q0_q1, va_up_self]
  have tq1 : tg2 q1 = 3 := by rw [htg, va_up_ne _ _ n_q1_q8, va_up_ne _ _ n_q1_q7, va_up_ne _ _ n_q1_q6, va_up_ne _ _ n_q1_q5, va_up_ne _ _ n_q1_q4, va_up_ne _ _ n_q1_q3, va_up_ne _ _ n_q1_q2, va_up_self]
  have tq2 : tg2 q2 = 4 := by rw [htg, va_up_ne _ _ n_q2_q8, va_up_ne _ _ n_q2_q7, va_up_ne _ _ n_q2_q6, va_up_ne _ _ n_q2_q5, va_up_ne _ _ n_q2_q4, va_up_ne _ _ n_q2_q3, va_up_self]
  have tq3 : tg2 q3 = 5 := by rw [htg, va_up_ne _ _ n_q3_q8, va_up_ne _ _ n_q3_q7, va_up_ne _ _ n_q3_q6, va_up_ne _ _ n_q3_q5, va_up_ne _ _ n_q3_q4, va_up_self]
  have tq4 : tg2 q4 = 6 := by rw [htg, va_up_ne _ _ n_q4_q8, va_up_ne _ _ n_q4_q7, va_up_ne _ _ n_q4_q6, va_up_ne _ _ n_q4_q5, va_up_self]
  have tq5 : tg2 q5 = 7 := by rw [htg, va_up_ne _ _ n_q5_q8, va_up_ne _ _ n_q5_q7, va_up_ne _ _ n_q5_q6, va_up_self]
  have tq6 : tg2 q6 = 8 := by rw [htg, va_up_ne _ _ n_q6_q8, va_up_ne _ _ n_q6_q7, va_up_self]
  have tq7 : tg2 q7 = 9 := by rw [htg, va_up_ne _ _ n_q7_q8, va_up_self]
  have tq8 : tg2 q8 = 10 := by rw [htg, va_up_self]
  have hx2 : ∀ x, w x ≠ none → x ≠ r → tg2 x = tg x := fun x hx hxr => by rw [htg, va_up_ne _ _ (fun h => hx (by rw [h]; exact zq8)), va_up_ne _ _ (fun h => hx (by rw [h]; exact zq7)), va_up_ne _ _ (fun h => hx (by rw [h]; exact zq6)), va_up_ne _ _ (fun h => hx (by rw [h]; exact zq5)), va_up_ne _ _ (fun h => hx (by rw [h]; exact zq4)), va_up_ne _ _ (fun h => hx (by rw [h]; exact zq3)), va_up_ne _ _ (fun h => hx (by rw [h]; exact zq2)), va_up_ne _ _ (fun h => hx (by rw [h]; exact zq1)), va_up_ne _ _ (fun h => hx (by rw [h]; exact zq0)), va_up_ne _ _ hxr]
  have hgF : hr_g tg2 r (fun i => [q0, q1, q2, q3, q4, q5, q6, q7, q8].getD i 0) := ⟨tr, fun i hi => by match i, hi with
    | 0, _ => exact tq0
    | 1, _ => exact tq1
    | 2, _ => exact tq2
    | 3, _ => exact tq3
    | 4, _ => exact tq4
    | 5, _ => exact tq5
    | 6, _ => exact tq6
    | 7, _ => exact tq7
    | 8, _ => exact tq8
    | i + 9, h => exact absurd h (by omega)⟩
  have hcF : hr_c G w_31 r (fun i => [q0, q1, q2, q3, q4, q5, q6, q7, q8].getD i 0) (fun _ _ => 0) 0 0 0 0 := ⟨hr0, cq3, cq4, cq5, cq6, cq7, cq8⟩
  exact ct_vret S hr hlocks hW (⟨tg2, ⟨(fun i => [q0, q1, q2, q3, q4, q5, q6, q7, q8].getD i 0), fun _ => G.2.2 0, fun _ _ => 0, [], [], [], hcF, hgF, ⟨⟨0, cq0, Or.inl ⟨rfl, rfl⟩⟩, ⟨0, cq1, Or.inl ⟨rfl, rfl⟩⟩, ⟨0, cq2, Or.inl ⟨rfl, rfl⟩⟩, fun i hi hn => absurd hz9 hn⟩, ⟨rfl, fun i lg h => by simp at h⟩, ⟨rfl, fun i p h => by simp at h⟩, ⟨rfl, fun i j a h => by simp at h, fun i t h => by simp at h⟩, li_nil, li_nil, li_nil, li_nil⟩, hx2, hk⟩) (Nat.le_of_ble_eq_true rfl) (Nat.le_of_ble_eq_true rfl) d_HR_init_105
