/-! THE CLASS: addPattern, pattern. -/

/-- what stays, over two worlds with other tags -/
theorem kp_t2 {w w1 w2 : wd_M} {tg tg2 : Nat → Nat} {P : Nat → Prop} (h1 : kp_ w w1 tg P) (he : ex_ w tg tg2) (h2 : kp_ w1 w2 tg2 P) : kp_ w w2 tg P := fun x hx hp => by
  rw [h2 x (by rw [h1 x hx hp]; exact hx) (by rw [he x hx]; exact hp), h1 x hx hp]

set_option maxHeartbeats 4000000 in
set_option maxRecDepth 100000 in
/-- addPattern(lx, n) -/
theorem c_HR_addPattern (l : Launch) (G : ev_G) (w : wd_M) (sz : Nat) (tg : Nat → Nat) (r lx : Nat) (B E : Nat → Nat) (F : Nat → Nat → Int32) (mn wn pn : Int32) (la pa ta : List Nat) (Ls : List hy_L) (Ps : List hy_P) (Ts : List hy_T) (ml md : List Int32) (hc : hr_c G w r B F (nI (hy_tot Ps)) mn wn pn) (hg : hr_g tg r B) (hs : hs_ G w tg B E la pa ta Ls Ps Ts) (wL : Ls.length ≤ 4) (wP : Ps.length ≤ 150) (wtot : hy_tot Ps ≤ 900) (hml : li_ ml (F 3)) (hmd : li_ md (F 4)) (hmn : md.length = ml.length + 1) (wml : ml.length ≤ 12) (wm1 : 1 ≤ ml.length) : ct_i l y_HR_addPattern b_HR_addPattern 5 (some FieldType.int) (rm_ 7 4 400) G w sz [.ref r, .int (nI lx), .int (nI ml.length)] (fun v u => (v = -2 ∧ ¬ (Ps.length < 150 ∧ hy_tot Ps + ml.length ≤ 900) ∧ u = w) ∨ ((Ps.length < 150 ∧ hy_tot Ps + ml.length ≤ 900) ∧ v = nI Ps.length ∧ ∃ (tg2 E2 : Nat → Nat) (pa2 : List Nat), hr_c G u r B F (nI (hy_tot Ps + ml.length)) mn wn pn ∧ hr_g tg2 r B ∧ hs_ G u tg2 B E2 la pa2 ta Ls (Ps ++ [(lx, ml, md)]) Ts ∧ ex_ w tg tg2 ∧ kp_ w u tg (fun t => 500 ≤ t ∧ t < 600))) := by
  refine ct_enter (by decide +kernel) (Nat.le_of_ble_eq_true rfl) ?_
  intro p_ e_ s m below meth c_ hsz S hr hlocks hname hE hW ls hl
  have S : CallFix p_ m c_ b_HR_addPattern 5 s _ lw_good "HyphenRows" := S
  have hx := S.1
  have hb := S.2.1
  have hK := hE.1
  have hl : lv_has ls 5 [(0, .ref r), (1, .int (nI lx)), (2, .int (nI ml.length))] := hl
  obtain ⟨hr0, a3, a4, a5, a6, a7, a8⟩ := id hc
  have hB3 : ∀ i, i < 3 → tg (B i) = 2 + i := fun i hi => hg.2 i (by omega)
  have hpa := hs.2.2.1
  have hpl := hpa.1
  obtain ⟨mo1, haP, he1⟩ := id hs.1.2.1
  refine lv_aload_n hx hb d_HR_addPattern_0 rfl (lv_at hl 0 rfl) ?_
  refine wd_get S i_HR hK hW hr0 rfl 1 (by decide) k_HR_16 rfl rfl d_HR_addPattern_1 ?_
  refine ct_goi hW (ct_runV (As := []) (rest := []) (q := (R_AL, F_AL, 3)) S hE hW (c_AL_size l G _ _ (B 1) (E 1) (nI pa.length) mo1 haP) haP rfl kc_AL_size kz_AL k_HR_54 ki_AL_size kv_AL_size kd_AL_size ⟨Nat.le_of_ble_eq_true rfl, Nat.le_of_ble_eq_true rfl⟩ hl.1 (Nat.le_of_ble_eq_true rfl) d_HR_addPattern_4 ⟨Nat.le_of_ble_eq_true rfl, Nat.le_of_ble_eq_true rfl⟩) (fun v_3 u_1 H locs hp_2 hW => ?_)
  obtain ⟨hv, hu_4⟩ := hp_2
  rw [hu_4] at hW
  rw [hv]
  refine lv_sipush (v := 150) hx hb d_HR_addPattern_7 (by decide) ?_
  refine lv_icmp_ge (tgt := 25) hx hb d_HR_addPattern_10 (by decide) (fun h10 => ?_) (fun h10 => ?_)
  · refine lv_bipush (v := -2) hx hb d_HR_addPattern_25 (by decide) ?_
    exact ct_iret S hr rfl hlocks hW (Or.inl ⟨rfl, fun q => absurd q.1 (by have h9 := (nI_leI (a := 150) (b := pa.length) (by omega) (by omega)).mp h10; omega), rfl⟩) (Nat.le_of_ble_eq_true rfl) (Nat.le_of_ble_eq_true rfl) d_HR_addPattern_27
  · have hp150 : Ps.length < 150 := by have h9 : ¬ 150 ≤ pa.length := fun q => h10 (nI_le (a := 150) q (by omega)); omega
    refine lv_iload_n hx hb d_HR_addPattern_13 rfl (lv_at hl 2 rfl) ?_
    refine lv_sipush (v := 900) hx hb d_HR_addPattern_14 (by decide) ?_
    refine lv_aload_n hx hb d_HR_addPattern_17 rfl (lv_at hl 0 rfl) ?_
    refine wd_get S i_HR hK hW hr0 rfl 3 (by decide) k_HR_22 rfl rfl d_HR_addPattern_18 ?_
    refine lv_isub hx hb d_HR_addPattern_21 ?_
    rw [show (900 : Int32) - nI (hy_tot Ps) = nI (900 - hy_tot Ps) from pk_sub (a := 900) wtot]
    refine lv_icmp_le (tgt := 28) hx hb d_HR_addPattern_22 (by decide) (fun h22 => ?_) (fun h22 => ?_)
    · have h900 : hy_tot Ps + ml.length ≤ 900 := by have h9 := (nI_leI (a := ml.length) (b := 900 - hy_tot Ps) (by omega) (by omega)).mp h22; omega
      refine lv_aload_n hx hb d_HR_addPattern_28 rfl (lv_at hl 0 rfl) ?_
      refine wd_get S i_HR hK hW hr0 rfl 4 (by decide) k_HR_26 rfl rfl d_HR_addPattern_29 ?_
      refine lv_iload_n hx hb d_HR_addPattern_32 rfl (lv_at hl 2 rfl) ?_
      refine ct_goq hW (ct_runS (As := [.ref (B 3), .int (nI ml.length)]) (rest := []) S hE hW (c_Ar_copyOfI l G _ _ (B 3) 12 ml.length (F 3) a3 wml (by omega)) kc_Ar_copyOfI kz_Ar k_HR_165 ks_Ar_copyOfI kd_Ar_copyOfI ⟨Nat.le_of_ble_eq_true rfl, Nat.le_of_ble_eq_true rfl⟩ hl.1 (Nat.le_of_ble_eq_true rfl) d_HR_addPattern_33 ⟨Nat.le_of_ble_eq_true rfl, Nat.le_of_ble_eq_true rfl⟩) (fun v_7 u_5 H locs hp_6 hW => ?_)
      obtain ⟨b, fb, hvb, hb0, eb, hfb⟩ := hp_6
      rw [hvb]
      refine W.eq (g2 := F0 m 36 ls [.ref b]) rfl ?_
      have hr0 := wd_keep eb (wd_neN hr0 hb0) hr0
      have a4 := wd_keep eb (wd_neN a4 hb0) a4
      have cb := wd_here eb
      refine lv_astore_n (lv' := [(3, .ref b), (0, .ref r), (1, .int (nI lx)), (2, .int (nI ml.length))]) hx hb d_HR_addPattern_36 rfl hl (by decide) rfl (fun ls hl => ?_)
      refine lv_aload_n hx hb d_HR_addPattern_37 rfl (lv_at hl 1 rfl) ?_
      refine wd_get S i_HR hK hW hr0 rfl 5 (by decide) k_HR_30 rfl rfl d_HR_addPattern_38 ?_
      refine lv_iload_n hx hb d_HR_addPattern_41 rfl (lv_at hl 3 rfl) ?_
      refine lv_iconst (v := 1) hx hb d_HR_addPattern_42 (by decide) ?_
      refine lv_iadd hx hb d_HR_addPattern_43 ?_
      rw [nI_1]
      refine ct_goq hW (ct_runS (As := [.ref (B 4), .int (nI (ml.length + 1))]) (rest := []) S hE hW (c_Ar_copyOfI l G _ _ (B 4) 13 (ml.length + 1) (F 4) a4 (by omega) (by omega)) kc_Ar_copyOfI kz_Ar k_HR_165 ks_Ar_copyOfI kd_Ar_copyOfI ⟨Nat.le_of_ble_eq_true rfl, Nat.le_of_ble_eq_true rfl⟩ hl.1 (Nat.le_of_ble_eq_true rfl) d_HR_addPattern_44 ⟨Nat.le_of_ble_eq_true rfl, Nat.le_of_ble_eq_true rfl⟩) (fun v_10 u_8 H locs hp_9 hW => ?_)
      obtain ⟨d, fd, hvd, hd0, ed, hfd⟩ := hp_9
      rw [hvd]
      refine W.eq (g2 := F0 m 47 ls [.ref d]) rfl ?_
      have hbd : b ≠ d := wd_neN cb hd0
      rw [eb, va_up_ne _ _ hbd.symm] at hd0
      have hr0 := wd_keep ed (fun q => by rw [q] at hr0; rw [eb, va_up_ne _ _ hbd.symm, hd0] at hr0; cases hr0) hr0
      have cb := wd_keep ed hbd cb
      have cd := wd_here ed
      refine lv_astore (lv' := [(4, .ref d), (3, .ref b), (0, .ref r), (1, .int (nI lx)), (2, .int (nI ml.length))]) hx hb d_HR_addPattern_47 hl (by decide) rfl (fun ls hl => ?_)
      refine lv_aload_n hx hb d_HR_addPattern_49 rfl (lv_at hl 2 rfl) ?_
      refine wd_get S i_HR hK hW hr0 rfl 1 (by decide) k_HR_16 rfl rfl d_HR_addPattern_50 ?_
      refine wd_new S i_Pa t_Pa t_Pa_ok k_HR_109 kt_Pa kz_Pa hK hW (ci := 2) rfl (fs := [.int 0, .null, .null]) (fun j hj => by rcases (show j = 0 ∨ j = 1 ∨ j = 2 by omega) with rfl | rfl | rfl <;> rfl) (Nat.le_of_ble_eq_true rfl) (Nat.le_of_ble_eq_true rfl) d_HR_addPattern_53 (fun q H hq w_11 ew_11 hW => ?_)
      have cq : w_11 q = some (.inr (2, [.int 0, .null, .null])) := wd_here ew_11
      have hqb : b ≠ q := wd_neN cb hq
      have hqd : d ≠ q := wd_neN cd hq
      have cb := wd_keep ew_11 hqb cb
      have cd := wd_keep ew_11 hqd cd
      rw [ed, va_up_ne _ _ hqd.symm, eb, va_up_ne _ _ hqb.symm] at hq
      refine lv_dup hx hb d_HR_addPattern_56 rfl ?_
      refine lv_iload_n hx hb d_HR_addPattern_57 rfl (lv_at hl 3 rfl) ?_
      refine lv_aload_n hx hb d_HR_addPattern_58 rfl (lv_at hl 1 rfl) ?_
      refine lv_aload hx hb d_HR_addPattern_59 (lv_at hl 0 rfl) ?_
      refine ct_gov hW (ct_runI (As := [.int (nI lx), .ref b, .ref d]) (rest := [.ref q, .ref (B 1)]) S hE hW (c_Pa_init l G _ _ q b d (nI lx) 0 cq) kc_Pa_init kz_Pa k_HR_169 ki_Pa_init rfl kd_Pa_init ⟨Nat.le_of_ble_eq_true rfl, Nat.le_of_ble_eq_true rfl⟩ hl.1 (Nat.le_of_ble_eq_true rfl) d_HR_addPattern_61 ⟨Nat.le_of_ble_eq_true rfl, Nat.le_of_ble_eq_true rfl⟩) (fun u_12 H locs hp_13 hW => ?_)
      have cq := wd_here hp_13
      have cb := wd_keep hp_13 hqb cb
      have cd := wd_keep hp_13 hqd cd
      have hk1 : ∀ y, w y ≠ none → u_12 y = w y := fun y hy => by rw [hp_13, va_up_ne _ _ (fun h => hy (by rw [h]; exact hq)), ew_11, va_up_ne _ _ (fun h => hy (by rw [h]; exact hq)), ed, va_up_ne _ _ (fun h => hy (by rw [h]; exact hd0)), eb, va_up_ne _ _ (fun h => hy (by rw [h]; exact hb0))]
      have halj : al_ G u_12 (B 1) (E 1) pa := al_keep hs.1.2.1 (hk1 _ (wd_some hs.1.2.1.choose_spec.1)) (fun h => hk1 _ h)
      have hob : ∀ y ∈ pa, ob_ u_12 y := fun y hy => by obtain ⟨ci, fs, g1, g2⟩ := pa_obs hpa y hy; exact ⟨ci, fs, (hk1 _ (wd_some g1)).trans g1, g2⟩
      have haJ := halj.choose_spec.1
      refine ct_goi hW (ct_runV (As := [.ref q]) (rest := []) (q := (R_AL, F_AL, 3)) S hE hW (c_AL_add1 l G _ _ (B 1) (E 1) q pa halj (by omega) hob ⟨2, _, cq, by simp⟩) haJ rfl kc_AL_add1 kz_AL k_HR_61 ki_AL_add1 kv_AL_add1 kd_AL_add1 ⟨Nat.le_of_ble_eq_true rfl, Nat.le_of_ble_eq_true rfl⟩ hl.1 (Nat.le_of_ble_eq_true rfl) d_HR_addPattern_64 ⟨Nat.le_of_ble_eq_true rfl, Nat.le_of_ble_eq_true rfl⟩) (fun v_17 u_15 H locs hp_16 hW => ?_)
      obtain ⟨hv1, e2, he2, hal2, hne2, hk2⟩ := hp_16
      have heq : w e2 ≠ none → e2 = E 1 := fun h => he2.elim id (fun h2 => absurd ((hk1 e2 h).symm.trans h2).symm (Ne.symm h))
      have hEt : w (E 1) ≠ none → tg (E 1) = 11 + 1 := hs.1.2.2.2 1 (by omega)
      have hk : ∀ y, w y ≠ none → tg y ≠ 2 + 1 → tg y ≠ 11 + 1 → u_15 y = w y := fun y hy h1 h2 => by rw [hk2 y (fun h => h1 (by rw [h]; exact hg.2 1 (by omega))) (fun h => h2 (by rw [h, heq (by rw [← h]; exact hy)]; exact hEt (by rw [← heq (by rw [← h]; exact hy), ← h]; exact hy))), hk1 y hy]
      have hE0 : E 1 = G.2.2 0 ∨ w (E 1) ≠ none := hs.1.2.1.choose_spec.2.elim (fun h => Or.inl h.1) (fun h => by obtain ⟨cap, f, h1, -⟩ := h; exact Or.inr (wd_some h1))
      have hz9 := wd_z0 hE hW
      have nn : ∀ y, w y = none → u_12 y ≠ none → y ≠ e2 := fun y h1 h2 h3 => he2.elim (fun h => hE0.elim (fun k => hne2 (by rw [h, k]; exact hz9)) (fun k => k (by rw [← h, ← h3]; exact h1))) (fun h => h2 (by rw [h3]; exact h))
      have nq := nn q hq (wd_some cq)
      have nb := nn b hb0 (wd_some cb)
      have nd := nn d hd0 (wd_some cd)
      obtain ⟨tg2, htg⟩ : ∃ f : Nat → Nat, f = va_up (va_up (va_up (va_up tg e2 12) q (2000 + 3 * Ps.length)) b (2001 + 3 * Ps.length)) d (2002 + 3 * Ps.length) := ⟨_, rfl⟩
      have hx2 : ex_ w tg tg2 := fun y hy => by rw [htg, va_up_ne _ _ (fun h => hy (by rw [h]; exact hd0)), va_up_ne _ _ (fun h => hy (by rw [h]; exact hb0)), va_up_ne _ _ (fun h => hy (by rw [h]; exact hq))]; exact tg_e hy (fun h9 => by rw [heq (by rw [← h9]; exact hy)]; exact hEt (by rw [← heq (by rw [← h9]; exact hy), ← h9]; exact hy))
      obtain ⟨hcF, hgF, k0, k1, k2, kE, kl, kp, kt⟩ := hs_gr 1 hs hc hg wL wP (by omega) hk hx2 hz9
      have te : tg2 e2 = 11 + 1 := by rw [htg, va_up_ne _ _ (Ne.symm nd), va_up_ne _ _ (Ne.symm nb), va_up_ne _ _ (Ne.symm nq), va_up_self]
      have nB : ∀ y, w y = none → y ≠ B 1 := fun y h1 h2 => by rw [h2] at h1; obtain ⟨mo, h9, -⟩ := hs.1.2.1; rw [h9] at h1; cases h1
      have c2q := (hk2 q (nB q hq) nq).trans cq
      have c2b := (hk2 b (nB b hb0) nb).trans cb
      have c2d := (hk2 d (nB d hd0) nd).trans cd
      have tq : tg2 q = 2000 + 3 * Ps.length := by rw [htg, va_up_ne _ _ hqd.symm, va_up_ne _ _ hqb.symm, va_up_self]
      have tb : tg2 b = 2001 + 3 * Ps.length := by rw [htg, va_up_ne _ _ hbd, va_up_self]
      have td : tg2 d = 2002 + 3 * Ps.length := by rw [htg, va_up_self]
      have hpa2 := pa_push (p := (lx, ml, md)) (f := fb) (g := fd) kp ⟨c2q, c2b, c2d, li_take hml hfb, li_take hmd (fun i hi => hfd i (by have hi : i < md.length := hi; omega))⟩ tq tb td
      have hsF : hs_ G u_15 tg2 B (fun k => if k = 1 then e2 else E k) la (pa ++ [q]) ta Ls (Ps ++ [(lx, ml, md)]) Ts := ⟨⟨k0 (by omega), hal2, k2 (by omega), fun i hi hn => tg_E hi hn te kE⟩, kl, hpa2, kt⟩
      obtain ⟨hr0, a3, a4, a5, a6, a7, a8⟩ := id hcF
      refine lv_pop hx hb d_HR_addPattern_67 rfl ?_
      refine lv_aload_n hx hb d_HR_addPattern_68 rfl (lv_at hl 2 rfl) ?_
      refine lv_dup hx hb d_HR_addPattern_69 rfl ?_
      refine wd_get S i_HR hK hW hr0 rfl 3 (by decide) k_HR_22 rfl rfl d_HR_addPattern_70 ?_
      refine lv_iload_n hx hb d_HR_addPattern_73 rfl (lv_at hl 4 rfl) ?_
      refine lv_iadd hx hb d_HR_addPattern_74 ?_
      refine lv_topi (fun nt ent => ?_)
      rw [nI_add] at ent
      have hr9 := hr0
      refine wd_put S i_HR t_HR t_HR_ok n_HR hK hW hr0 rfl 3 (by decide) k_HR_22 rfl rfl rfl rfl (Nat.le_of_ble_eq_true rfl) d_HR_addPattern_75 (fun H locs w_18 ew_18 hW => ?_)
      have a3 := wd_keep ew_18 (wd_ne a3 hr0 (by simp)) a3
      have a4 := wd_keep ew_18 (wd_ne a4 hr0 (by simp)) a4
      have a5 := wd_keep ew_18 (wd_ne a5 hr0 (by simp)) a5
      have a6 := wd_keep ew_18 (wd_ne a6 hr0 (by simp)) a6
      have a7 := wd_keep ew_18 (wd_ne a7 hr0 (by simp)) a7
      have a8 := wd_keep ew_18 (wd_ne a8 hr0 (by simp)) a8
      have hr0 : w_18 r = some (.inr (0, [.ref (B 0), .ref (B 1), .ref (B 2), .int nt, .ref (B 3), .ref (B 4), .int mn, .ref (B 5), .int wn, .ref (B 6), .ref (B 7), .ref (B 8), .int pn])) := wd_here ew_18
      rw [ent] at hr0
      have hsF := hs_up hsF wL (by rw [List.length_append]; show Ps.length + 1 ≤ 150; omega) (fun i hi => hgF.2 i (by omega)) hr9 ew_18 (Or.inl hgF.1)
      have haJ := hsF.1.2.1.choose_spec.1
      refine lv_aload_n hx hb d_HR_addPattern_78 rfl (lv_at hl 2 rfl) ?_
      refine wd_get S i_HR hK hW hr0 rfl 1 (by decide) k_HR_16 rfl rfl d_HR_addPattern_79 ?_
      refine ct_goi hW (ct_runV (As := []) (rest := []) (q := (R_AL, F_AL, 3)) S hE hW (c_AL_size l G _ _ (B 1) e2 (nI (pa ++ [q]).length) _ haJ) haJ rfl kc_AL_size kz_AL k_HR_54 ki_AL_size kv_AL_size kd_AL_size ⟨Nat.le_of_ble_eq_true rfl, Nat.le_of_ble_eq_true rfl⟩ hl.1 (Nat.le_of_ble_eq_true rfl) d_HR_addPattern_82 ⟨Nat.le_of_ble_eq_true rfl, Nat.le_of_ble_eq_true rfl⟩) (fun v_21 u_19 H locs hp_20 hW => ?_)
      obtain ⟨hv3, hu_22⟩ := hp_20
      rw [hu_22] at hW
      rw [hv3, List.length_append, show nI (pa.length + [q].length) = nI (pa.length + 1) from rfl]
      refine lv_iconst (v := 1) hx hb d_HR_addPattern_85 (by decide) ?_
      refine lv_isub hx hb d_HR_addPattern_86 ?_
      rw [nI_pred, hpl]
      exact ct_iret S hr rfl hlocks hW (Or.inr ⟨⟨hp150, h900⟩, rfl, tg2, _, _, ⟨hr0, a3, a4, a5, a6, a7, a8⟩, hgF, hsF, hx2, kp_t2 (fun y hy hq9 => hk y hy (by have hq9 : 500 ≤ tg y ∧ tg y < 600 := hq9; omega) (by have hq9 : 500 ≤ tg y ∧ tg y < 600 := hq9; omega)) hx2 (up_kp ew_18 (by rw [hgF.1]; show ¬ (_ ∧ _); omega))⟩) (Nat.le_of_ble_eq_true rfl) (Nat.le_of_ble_eq_true rfl) d_HR_addPattern_87
    · refine lv_bipush (v := -2) hx hb d_HR_addPattern_25 (by decide) ?_
      exact ct_iret S hr rfl hlocks hW (Or.inl ⟨rfl, fun q => h22 (nI_le (by omega) (by omega)), rfl⟩) (Nat.le_of_ble_eq_true rfl) (Nat.le_of_ble_eq_true rfl) d_HR_addPattern_27

theorem pat_iff {ml : List Int32} {f : Nat → Int32} (h : li_ ml f) : ((∃ j, j < ml.length ∧ ¬ f j = 0) ∧ ∀ j, j < ml.length → f j = 0 → j = 0 ∨ j + 1 = ml.length) ↔ hy_pat ml := by
  have hg : ∀ j, (hj : j < ml.length) → ml[j]? = some (f j) := fun j hj => by rw [h j ml[j] (List.getElem?_eq_getElem hj)]; exact List.getElem?_eq_getElem hj
  constructor
  · rintro ⟨⟨j, hj, hz⟩, h2⟩
    refine ⟨⟨j, f j, hg j hj, hz⟩, fun i hi => ?_⟩
    have hl := (List.getElem?_eq_some_iff.mp hi).1
    exact h2 i hl (h i 0 hi)
  · rintro ⟨⟨j, x, hj, hz⟩, h2⟩
    have hl := (List.getElem?_eq_some_iff.mp hj).1
    refine ⟨⟨j, hl, by rw [h j x hj]; exact hz⟩, fun i hi h0 => h2 i ?_⟩
    rw [hg i hi, h0]
/-- one pattern has other digits now -/
theorem pa_upd {G : ev_G} {w u : wd_M} {tg : Nat → Nat} {pa : List Nat} {Ps : List hy_P} {i a b d : Nat} {f g : Nat → Int32} {p2 : hy_P} (h : pa_ G w tg pa Ps) (ha : pa[i]? = some a) (ta1 : tg a = 2000 + 3 * i) (tb : tg b = 2001 + 3 * i) (td : tg d = 2002 + 3 * i) (hk : ∀ x, w x ≠ none → tg x ≠ 2002 + 3 * i → u x = w x) (h1 : pa_1 G u a b d f g p2) : pa_ G u tg pa (Ps.set i p2) := by
  refine ⟨by rw [List.length_set]; exact h.1, fun j p hj => ?_⟩
  by_cases hji : j = i
  · subst hji
    have hl : j < (Ps.set j p2).length := (List.getElem?_eq_some_iff.mp hj).1
    rw [List.length_set] at hl
    rw [List.getElem?_set_self hl] at hj
    cases hj
    exact ⟨a, b, d, f, g, ha, h1, ta1, tb, td⟩
  · rw [List.getElem?_set_ne (Ne.symm hji)] at hj
    obtain ⟨a2, b2, d2, f2, g2, q1, ⟨q2, q3, q4, q5⟩, t1, t2, t3⟩ := h.2 j p hj
    exact ⟨a2, b2, d2, f2, g2, q1, ⟨by rw [hk a2 (wd_some q2) (by omega)]; exact q2, by rw [hk b2 (wd_some q3) (by omega)]; exact q3, by rw [hk d2 (wd_some q4) (by omega)]; exact q4, q5⟩, t1, t2, t3⟩
theorem hs_pa {G : ev_G} {w u : wd_M} {tg : Nat → Nat} {B E : Nat → Nat} {la pa ta : List Nat} {Ls : List hy_L} {Ps Ps2 : List hy_P} {Ts : List hy_T} (h : hs_ G w tg B E la pa ta Ls Ps Ts) (hLs : Ls.length ≤ 4) (hB : ∀ i, i < 3 → tg (B i) = 2 + i) (hk : ∀ x, w x ≠ none → ¬ (2000 ≤ tg x ∧ tg x < 10000) → u x = w x) (hd : ∀ x, u x = none ↔ w x = none) (hl : pa_ G u tg pa Ps2) : hs_ G u tg B E la pa ta Ls Ps2 Ts := by
  obtain ⟨⟨h0, h1, h2, hE⟩, hla, -, h3⟩ := h
  have kB : ∀ i, i < 3 → (∃ y, w (B i) = some y) → u (B i) = w (B i) := fun i hi hy => by obtain ⟨y, hy⟩ := hy; exact hk _ (wd_some hy) (by rw [hB i hi]; omega)
  have kE : ∀ i, i < 3 → w (E i) ≠ none → u (E i) = w (E i) := fun i hi hn => hk _ hn (by rw [hE i hi hn]; omega)
  exact ⟨⟨al_keep h0 (kB 0 (by omega) ⟨_, h0.choose_spec.1⟩) (kE 0 (by omega)), al_keep h1 (kB 1 (by omega) ⟨_, h1.choose_spec.1⟩) (kE 1 (by omega)), al_keep h2 (kB 2 (by omega) ⟨_, h2.choose_spec.1⟩) (kE 2 (by omega)), fun i hi hn => hE i hi (fun q => hn ((hd _).mpr q))⟩, la_keep hla (fun x hx hq => hk x hx (fun z => by have hq : 1000 ≤ tg x ∧ tg x < 2000 := hq; omega)) ex_rf hLs, hl, ta_keep h3 (fun x hx hq => hk x hx (fun z => by have hq : 10000 ≤ tg x := hq; omega)) ex_rf⟩
theorem tot_set {Ps : List hy_P} {k : Nat} {p p2 : hy_P} (h : Ps[k]? = some p) (he : p2.2.1.length = p.2.1.length) : hy_tot (Ps.set k p2) = hy_tot Ps := by
  unfold hy_tot
  rw [List.map_set]
  have h1 : (Ps.map (fun p => p.2.1.length)).set k p2.2.1.length = Ps.map (fun p => p.2.1.length) := by
    refine List.ext_getElem? (fun j => ?_)
    by_cases hj : j = k
    · subst hj
      have hl := (List.getElem?_eq_some_iff.mp h).1
      rw [List.getElem?_set_self (by rw [List.length_map]; exact hl), List.getElem?_map, h, he]
      rfl
    · rw [List.getElem?_set_ne (Ne.symm hj)]
  rw [h1]
theorem tot_app {Ps : List hy_P} {p : hy_P} : hy_tot (Ps ++ [p]) = hy_tot Ps + p.2.1.length := by
  unfold hy_tot
  rw [List.map_append, List.sum_append]
  simp

set_option maxHeartbeats 4000000 in
set_option maxRecDepth 100000 in
/-- pattern -/
theorem c_HR_pattern (l : Launch) (G : ev_G) (w : wd_M) (sz : Nat) (tg : Nat → Nat) (r : Nat) (Ls : List hy_L) (Ps : List hy_P) (Ts : List hy_T) (ml md wd : List Int32) (pl : List Nat) (x d : Int32) (h : hr_ G w tg r Ls Ps Ts ml md wd pl) (hwf : hy_wf Ls Ps Ts ml md wd pl) : ct_i l y_HR_pattern b_HR_pattern 5 (some FieldType.int) (rm_ 8 4 400) G w sz [.ref r, .int x, .int d] (hq_ G w tg r (sp_pattern x d (Ls, Ps, Ts, ml, md, wd, pl))) := by
  refine ct_enter (by decide +kernel) (Nat.le_of_ble_eq_true rfl) ?_
  intro p_ e_ s m below meth c_ hsz S hr hlocks hname hE hW ls hl
  have S : CallFix p_ m c_ b_HR_pattern 5 s _ lw_good "HyphenRows" := S
  have hx := S.1
  have hb := S.2.1
  have hK := hE.1
  have hl : lv_has ls 5 [(0, .ref r), (1, .int x), (2, .int d)] := hl
  obtain ⟨B, E, F, la, pa, ta, hc, hg, hal, hla, hpa, hta, hml, hmd, hwd, hpl⟩ := id h
  have hs : hs_ G w tg B E la pa ta Ls Ps Ts := ⟨hal, hla, hpa, hta⟩
  obtain ⟨hr0, a3, a4, a5, a6, a7, a8⟩ := id hc
  obtain ⟨wL, wP, wT, wm, wml, wwd, wpl, wtot, wmx, wdx, wws, wplx, wlg, wps, wts⟩ := id hwf
  have hB3 : ∀ i, i < 3 → tg (B i) = 2 + i := fun i hi => hg.2 i (by omega)
  have hkp : kp_ w w tg (fun t => 500 ≤ t ∧ t < 600) := kp_rf
  obtain ⟨mo0, haL, he0⟩ := id hs.1.1
  refine lv_aload_n hx hb d_HR_pattern_0 rfl (lv_at hl 0 rfl) ?_
  refine lv_iload_n hx hb d_HR_pattern_1 rfl (lv_at hl 1 rfl) ?_
  refine ct_goi hW (ct_runV (As := [.int x]) (rest := []) (q := (R_HR, F_HR, 13)) S hE hW (c_HR_isLanguage l G _ _ r B E F (nI (hy_tot Ps)) (nI ml.length) (nI wd.length) (nI pl.length) la x hc hal.1) hr0 rfl kc_HR_isLanguage kz_HR k_HR_65 ki_HR_isLanguage kv_HR_isLanguage kd_HR_isLanguage ⟨Nat.le_of_ble_eq_true rfl, Nat.le_of_ble_eq_true rfl⟩ hl.1 (Nat.le_of_ble_eq_true rfl) d_HR_pattern_2 ⟨Nat.le_of_ble_eq_true rfl, Nat.le_of_ble_eq_true rfl⟩) (fun v_3 u_1 H locs hp_2 hW => ?_)
  obtain ⟨hv, hu_4⟩ := hp_2
  rw [hu_4] at hW
  rw [hla.1] at hv
  refine lv_if_eq (tgt := 15) hx hb d_HR_pattern_5 (by decide) (fun h5 => ?_) (fun h5 => ?_)
  · refine lv_iconst (v := -1) hx hb d_HR_pattern_15 (by decide) ?_
    exact ct_iret S hr rfl hlocks hW (⟨_, tg, Or.inl ⟨fun q => bl_f hv h5 q.1, rfl, rfl⟩, h, ex_rf, kp_rf⟩) (Nat.le_of_ble_eq_true rfl) (Nat.le_of_ble_eq_true rfl) d_HR_pattern_16
  · refine lv_iload_n hx hb d_HR_pattern_8 rfl (lv_at hl 2 rfl) ?_
    refine ct_goi hW (ct_runS (As := [.int d]) (rest := []) S hE hW (c_HR_isDigit l G _ _ d) kc_HR_isDigit kz_HR k_HR_99 ks_HR_isDigit kd_HR_isDigit ⟨Nat.le_of_ble_eq_true rfl, Nat.le_of_ble_eq_true rfl⟩ hl.1 (Nat.le_of_ble_eq_true rfl) d_HR_pattern_9 ⟨Nat.le_of_ble_eq_true rfl, Nat.le_of_ble_eq_true rfl⟩) (fun v_7 u_5 H locs hp_6 hW => ?_)
    obtain ⟨hv2, hu_8⟩ := hp_6
    rw [hu_8] at hW
    refine lv_if_ne (tgt := 17) hx hb d_HR_pattern_12 (by decide) (fun h12 => ?_) (fun h12 => ?_)
    · have hnm0 := bl_t hv h5
      have hok : nm_ x Ls.length ∧ ok_d d := ⟨hnm0, bl_t hv2 h12⟩
      obtain ⟨i, hil2, rfl⟩ := nm_of hnm0 (by omega)
      refine lv_aload_n hx hb d_HR_pattern_17 rfl (lv_at hl 0 rfl) ?_
      refine wd_get S i_HR hK hW hr0 rfl 6 (by decide) k_HR_33 rfl rfl d_HR_pattern_18 ?_
      refine lv_topi (fun cn ecn => ?_)
      refine lv_istore_n (lv' := [(3, .int cn), (0, .ref r), (1, .int (nI i)), (2, .int d)]) hx hb d_HR_pattern_21 rfl hl (by decide) rfl (fun ls hl => ?_)
      rw [ecn] at hl
      refine lv_aload_n hx hb d_HR_pattern_22 rfl (lv_at hl 1 rfl) ?_
      refine lv_iconst (v := 0) hx hb d_HR_pattern_23 (by decide) ?_
      refine wd_put S i_HR t_HR t_HR_ok n_HR hK hW hr0 rfl 6 (by decide) k_HR_33 rfl rfl rfl rfl (Nat.le_of_ble_eq_true rfl) d_HR_pattern_24 (fun H locs w_9 ew_9 hW => ?_)
      have hs := hs_up hs wL wP hB3 hr0 ew_9 (Or.inl hg.1)
      have hkp := kp_tr hkp (up_kp ew_9 (by rw [hg.1]; show ¬ (_ ∧ _); omega))
      have a3 := wd_keep ew_9 (wd_ne a3 hr0 (by simp)) a3
      have a4 := wd_keep ew_9 (wd_ne a4 hr0 (by simp)) a4
      have a5 := wd_keep ew_9 (wd_ne a5 hr0 (by simp)) a5
      have a6 := wd_keep ew_9 (wd_ne a6 hr0 (by simp)) a6
      have a7 := wd_keep ew_9 (wd_ne a7 hr0 (by simp)) a7
      have a8 := wd_keep ew_9 (wd_ne a8 hr0 (by simp)) a8
      have haL := wd_keep ew_9 (wd_ne haL hr0 (by simp)) haL
      have hr0 : w_9 r = some (.inr (0, [.ref (B 0), .ref (B 1), .ref (B 2), .int (nI (hy_tot Ps)), .ref (B 3), .ref (B 4), .int 0, .ref (B 5), .int (nI wd.length), .ref (B 6), .ref (B 7), .ref (B 8), .int (nI pl.length)])) := wd_here ew_9
      have hc1 : hr_c G w_9 r B F (nI (hy_tot Ps)) 0 (nI wd.length) (nI pl.length) := ⟨hr0, a3, a4, a5, a6, a7, a8⟩
      refine lv_aload_n hx hb d_HR_pattern_27 rfl (lv_at hl 1 rfl) ?_
      refine lv_iload_n hx hb d_HR_pattern_28 rfl (lv_at hl 0 rfl) ?_
      refine ct_goi hW (ct_runV (As := [.int (nI ml.length)]) (rest := []) (q := (R_HR, F_HR, 13)) S hE hW (c_HR_isPatternRow l G _ _ r B E F (nI (hy_tot Ps)) 0 (nI wd.length) (nI pl.length) ml.length hc1 wml) hr0 rfl kc_HR_isPatternRow kz_HR k_HR_102 ki_HR_isPatternRow kv_HR_isPatternRow kd_HR_isPatternRow ⟨Nat.le_of_ble_eq_true rfl, Nat.le_of_ble_eq_true rfl⟩ hl.1 (Nat.le_of_ble_eq_true rfl) d_HR_pattern_29 ⟨Nat.le_of_ble_eq_true rfl, Nat.le_of_ble_eq_true rfl⟩) (fun v_12 u_10 H locs hp_11 hW => ?_)
      obtain ⟨hvp, hu_13⟩ := hp_11
      rw [hu_13] at hW
      have hvp := bl_i hvp (pat_iff hml)
      refine lv_if_ne (tgt := 38) hx hb d_HR_pattern_32 (by decide) (fun h32 => ?_) (fun h32 => ?_)
      · have hpat := bl_t hvp h32
        have hm1 : 1 ≤ ml.length := by obtain ⟨⟨j, y9, hj, -⟩, -⟩ := hpat; have := (List.getElem?_eq_some_iff.mp hj).1; omega
        refine lv_aload_n hx hb d_HR_pattern_38 rfl (lv_at hl 1 rfl) ?_
        refine wd_get S i_HR hK hW hr0 rfl 5 (by decide) k_HR_30 rfl rfl d_HR_pattern_39 ?_
        refine lv_iload_n hx hb d_HR_pattern_42 rfl (lv_at hl 0 rfl) ?_
        refine lv_iload_n hx hb d_HR_pattern_43 rfl (lv_at hl 3 rfl) ?_
        refine wd_iast S hK hW 0 a4 rfl (vp_in_nI (by omega) (by omega)) d_HR_pattern_44 (fun H locs w_14 ew_14 hW => ?_)
        have hs := hs_up hs wL wP hB3 a4 ew_14 (Or.inr (by rw [hg.2 4 (by omega)]; omega))
        have hkp := kp_tr hkp (up_kp ew_14 (by rw [hg.2 4 (by omega)]; show ¬ (_ ∧ _); omega))
        have hr0 := wd_keep ew_14 (wd_ne hr0 a4 (by simp)) hr0
        have a3 := wd_keep ew_14 (wd_ne a3 a4 (by simp)) a3
        have a5 := wd_keep ew_14 (wd_ne a5 a4 (by simp)) a5
        have a6 := wd_keep ew_14 (wd_ne a6 a4 (by simp)) a6
        have a7 := wd_keep ew_14 (wd_ne a7 a4 (by simp)) a7
        have a8 := wd_keep ew_14 (wd_ne a8 a4 (by simp)) a8
        have haL := wd_keep ew_14 (wd_ne haL a4 (by simp)) haL
        have a4 : w_14 (B 4) = some (.inl (G.2.1 0, 13, .inl (upd (F 4) ((nI ml.length) : Int32).toNatClampNeg d))) := wd_here ew_14
        rw [nI_clamp (by omega)] at a4
        have hmd2 : li_ (md ++ [d]) (upd (F 4) ml.length d) := by rw [wm]; exact li_put hmd
        have hc2 : hr_c G w_14 r B (fun k => if k = 4 then upd (F 4) ml.length d else F k) (nI (hy_tot Ps)) 0 (nI wd.length) (nI pl.length) := ⟨hr0, a3, a4, a5, a6, a7, a8⟩
        refine lv_aload_n hx hb d_HR_pattern_45 rfl (lv_at hl 1 rfl) ?_
        refine lv_iload_n hx hb d_HR_pattern_46 rfl (lv_at hl 2 rfl) ?_
        refine lv_iload_n hx hb d_HR_pattern_47 rfl (lv_at hl 0 rfl) ?_
        refine ct_goi hW (ct_runV (As := [.int (nI i), .int (nI ml.length)]) (rest := []) (q := (R_HR, F_HR, 13)) S hE hW (c_HR_patternWithMadeRow l G _ _ r B E (fun k => if k = 4 then upd (F 4) ml.length d else F k) (nI (hy_tot Ps)) 0 (nI wd.length) (nI pl.length) ml.length i tg pa Ps ml hc2 hs.1.2.1 hs.2.2.1 (fun p hp => ⟨(wps p hp).1, (wps p hp).2.2.1, (wps p hp).2.2.2.1⟩) wP hml rfl wml (by omega)) hr0 rfl kc_HR_patternWithMadeRow kz_HR k_HR_105 ki_HR_patternWithMadeRow kv_HR_patternWithMadeRow kd_HR_patternWithMadeRow ⟨Nat.le_of_ble_eq_true rfl, Nat.le_of_ble_eq_true rfl⟩ hl.1 (Nat.le_of_ble_eq_true rfl) d_HR_pattern_48 ⟨Nat.le_of_ble_eq_true rfl, Nat.le_of_ble_eq_true rfl⟩) (fun v_17 u_15 H locs hp_16 hW => ?_)
        obtain ⟨hfm, hu_18⟩ := hp_16
        rw [hu_18] at hW
        refine lv_istore (lv' := [(4, .int v_17), (3, .int (nI ml.length)), (0, .ref r), (1, .int (nI i)), (2, .int d)]) hx hb d_HR_pattern_51 hl (by decide) rfl (fun ls hl => ?_)
        refine lv_iload hx hb d_HR_pattern_53 (lv_at hl 0 rfl) ?_
        refine lv_iconst (v := -1) hx hb d_HR_pattern_55 (by decide) ?_
        refine lv_icmp_eq (tgt := 89) hx hb d_HR_pattern_56 (by decide) (fun h56 => ?_) (fun h56 => ?_)
        have hdom : ∀ y, w_14 y = none ↔ w y = none := fun y => by rw [ew_14, ew_9]; exact up_dom2 hc.1 hc.2.2.1
        · have hfm1 : fm_ Ps (fun p => p.1 = i ∧ p.2.1 = ml) (-1) := by rw [h56] at hfm; exact hfm
          refine lv_aload_n hx hb d_HR_pattern_89 rfl (lv_at hl 2 rfl) ?_
          refine lv_iload_n hx hb d_HR_pattern_90 rfl (lv_at hl 3 rfl) ?_
          refine lv_iload_n hx hb d_HR_pattern_91 rfl (lv_at hl 1 rfl) ?_
          refine ct_goi hW (ct_runV (As := [.int (nI i), .int (nI ml.length)]) (rest := []) (q := (R_HR, F_HR, 13)) S hE hW (c_HR_addPattern l G _ _ tg r i B E (fun k => if k = 4 then upd (F 4) ml.length d else F k) 0 (nI wd.length) (nI pl.length) la pa ta Ls Ps Ts ml (md ++ [d]) hc2 hg hs wL wP wtot hml hmd2 (by rw [List.length_append, wm]; rfl) wml hm1) hr0 rfl kc_HR_addPattern kz_HR k_HR_120 ki_HR_addPattern kv_HR_addPattern kd_HR_addPattern ⟨Nat.le_of_ble_eq_true rfl, Nat.le_of_ble_eq_true rfl⟩ hl.1 (Nat.le_of_ble_eq_true rfl) d_HR_pattern_92 ⟨Nat.le_of_ble_eq_true rfl, Nat.le_of_ble_eq_true rfl⟩) (fun v_21 u_19 H locs hp_20 hW => ?_)
          have hpost : hq_ G w tg r (sp_pattern (nI i) d (Ls, Ps, Ts, ml, md, wd, pl)) v_21 u_19 := by
            rcases hp_20 with ⟨q1, q2, q3⟩ | ⟨q1, q2, tg2, E2, pa2, q3, q4, q5, q6, q7⟩
            · rw [q3]
              exact ⟨(Ls, Ps, Ts, [], [], wd, pl), tg, Or.inr ⟨hok, i, rfl, hil2, Or.inr (Or.inr (Or.inl ⟨hpat, hfm1, q2, q1, rfl⟩))⟩, ⟨B, E, _, la, pa, ta, hc2, hg, hs.1, hs.2.1, hs.2.2.1, hs.2.2.2, li_nil, li_nil, hwd, hpl⟩, ex_rf, hkp⟩
            · refine ⟨(Ls, Ps ++ [(i, ml, md ++ [d])], Ts, [], [], wd, pl), tg2, Or.inr ⟨hok, i, rfl, hil2, Or.inr (Or.inr (Or.inr ⟨hpat, hfm1, q1, q2, rfl⟩))⟩, ⟨B, E2, (fun k => if k = 4 then upd (F 4) ml.length d else F k), la, pa2, ta, ?_, q4, q5.1, q5.2.1, q5.2.2.1, q5.2.2.2, li_nil, li_nil, hwd, hpl⟩, fun y hy => q6 y (fun z => hy ((hdom y).mp z)), kp_tr hkp q7⟩
              show hr_c G _ r B _ (nI (hy_tot (Ps ++ [(i, ml, md ++ [d])]))) _ _ _
              rw [tot_app]
              exact q3
          exact ct_iret S hr rfl hlocks hW (hpost) (Nat.le_of_ble_eq_true rfl) (Nat.le_of_ble_eq_true rfl) d_HR_pattern_95
        · obtain ⟨k, p, exv, hpk, ⟨hpl1, hpm⟩, hbef⟩ : ∃ (k : Nat) (p : hy_P), v_17 = nI k ∧ Ps[k]? = some p ∧ (p.1 = i ∧ p.2.1 = ml) ∧ ∀ (j : Nat) (y : hy_P), j < k → Ps[j]? = some y → ¬ (y.1 = i ∧ y.2.1 = ml) := hfm.elim (fun q => absurd q.1 h56) id
          have hkl : k < Ps.length := (List.getElem?_eq_some_iff.mp hpk).1
          obtain ⟨a, b, dd, f, g, e1, ⟨p1, p2, p3, p4, p5⟩, ta1, tb1, td1⟩ := hs.2.2.1.2 k p hpk
          have hpal := hs.2.2.1.1
          obtain ⟨mo1, haP, he1⟩ := id hs.1.2.1
          refine lv_aload_n hx hb d_HR_pattern_59 rfl (lv_at hl 2 rfl) ?_
          refine wd_get S i_HR hK hW hr0 rfl 5 (by decide) k_HR_30 rfl rfl d_HR_pattern_60 ?_
          refine lv_iconst (v := 0) hx hb d_HR_pattern_63 (by decide) ?_
          refine lv_aload_n hx hb d_HR_pattern_64 rfl (lv_at hl 2 rfl) ?_
          refine wd_get S i_HR hK hW hr0 rfl 1 (by decide) k_HR_16 rfl rfl d_HR_pattern_65 ?_
          refine lv_iload hx hb d_HR_pattern_68 (lv_at hl 0 rfl) ?_
          rw [exv]
          refine ct_goq hW (ct_runV (As := [.int (nI k)]) (rest := [.int 0, .ref (B 4)]) (q := (R_AL, F_AL, 3)) S hE hW (c_AL_get l G _ _ (B 1) (E 1) pa k hs.1.2.1 (by omega)) haP rfl kc_AL_get kz_AL k_HR_75 ki_AL_get kv_AL_get kd_AL_get ⟨Nat.le_of_ble_eq_true rfl, Nat.le_of_ble_eq_true rfl⟩ hl.1 (Nat.le_of_ble_eq_true rfl) d_HR_pattern_70 ⟨Nat.le_of_ble_eq_true rfl, Nat.le_of_ble_eq_true rfl⟩) (fun v_24 u_22 H locs hp_23 hW => ?_)
          obtain ⟨hvg, hu_25⟩ := hp_23
          rw [hu_25] at hW
          rw [hvg, e1]
          refine W.eq (g2 := F0 m 73 ls [.ref a, .int 0, .ref (B 4)]) rfl ?_
          refine wd_cast S (T := F_Pa) (N := 3) k_HR_109 hK hW p1 rfl d_HR_pattern_73 ?_
          refine wd_get S i_Pa hK hW p1 rfl 2 (by decide) k_HR_111 rfl rfl d_HR_pattern_76 ?_
          refine lv_iconst (v := 0) hx hb d_HR_pattern_79 (by decide) ?_
          refine lv_iload_n hx hb d_HR_pattern_80 rfl (lv_at hl 1 rfl) ?_
          refine lv_iconst (v := 1) hx hb d_HR_pattern_81 (by decide) ?_
          refine lv_iadd hx hb d_HR_pattern_82 ?_
          rw [nI_1]
          rw [hpm] at p3 p2
          refine wd_copyi S hl.1 k_HR_114 kn_Sy_arraycopy ks_Sy_arraycopy kz_Sy hK hW 0 a4 p3 rfl (by decide) (by decide) (nI_pos (by omega)) (by rw [nI_clamp (by omega)]; show 0 + (ml.length + 1) ≤ 13; omega) (by rw [nI_clamp (by omega)]; show 0 + (ml.length + 1) ≤ ml.length + 1; omega) (Nat.le_of_ble_eq_true rfl) (Nat.le_of_ble_eq_true rfl) d_HR_pattern_83 (fun H locs w_26 ew_26 hW => ?_)
          have hk : ∀ y, w_14 y ≠ none → tg y ≠ 2002 + 3 * k → w_26 y = w_14 y := fun y _ hq => by rw [ew_26, va_up_ne _ _ (fun h => hq (by rw [h]; exact td1))]
          have hd9 : ∀ y, w_26 y = none ↔ w_14 y = none := fun y => by rw [ew_26]; exact up_dom p3
          have hpa2 := pa_upd (p2 := (i, ml, md ++ [d])) hs.2.2.1 e1 ta1 tb1 td1 hk ⟨by rw [hk a (wd_some p1) (by omega), ← hpl1]; exact p1, by rw [hk b (wd_some p2) (by omega)]; exact p2, wd_here ew_26, by rw [← hpm]; exact p4, li_take hmd2 (fun j hj => by have hj : j < (md ++ [d]).length := hj; rw [List.length_append] at hj; have hj : j < md.length + 1 := hj; rw [nI_clamp (by omega)]; exact (pk_cpy_in (Nat.zero_le _) (by show j < 0 + (ml.length + 1); omega)).trans (by show upd (F 4) ml.length d (0 + (j - 0)) = _; rw [Nat.zero_add, Nat.sub_zero]))⟩
          have hs := hs_pa hs wL hB3 (fun y hy hq => hk y hy (by omega)) hd9 hpa2
          have hkp := kp_tr hkp (fun y hy hq => hk y hy (by have hq : 500 ≤ tg y ∧ tg y < 600 := hq; omega))
          have hcF := hc_kp hc2 hg (fun y hy hq => hk y hy (by omega))
          refine lv_iload hx hb d_HR_pattern_86 (lv_at hl 0 rfl) ?_
          rw [exv]
          have hcG : hr_c G w_26 r B (fun k => if k = 4 then upd (F 4) ml.length d else F k) (nI (hy_tot (Ps.set k (i, ml, md ++ [d])))) 0 (nI wd.length) (nI pl.length) := by rw [tot_set hpk (by rw [hpm])]; exact hcF
          exact ct_iret S hr rfl hlocks hW (⟨(Ls, Ps.set k (i, ml, md ++ [d]), Ts, [], [], wd, pl), tg, Or.inr ⟨hok, i, rfl, hil2, Or.inr (Or.inl ⟨hpat, k, Or.inr ⟨k, p, rfl, hpk, ⟨hpl1, hpm⟩, hbef⟩, hkl, rfl, rfl⟩)⟩, ⟨B, E, _, la, pa, ta, hcG, hg, hs.1, hs.2.1, hs.2.2.1, hs.2.2.2, li_nil, li_nil, hwd, hpl⟩, ex_rf, hkp⟩) (Nat.le_of_ble_eq_true rfl) (Nat.le_of_ble_eq_true rfl) d_HR_pattern_88
      · refine lv_bipush (v := -3) hx hb d_HR_pattern_35 (by decide) ?_
        have hcF : hr_c G w_9 r B (F) (nI (hy_tot Ps)) (nI ([] : List Int32).length) (nI wd.length) (nI pl.length) := ⟨hr0, a3, a4, a5, a6, a7, a8⟩
        exact ct_iret S hr rfl hlocks hW (⟨(Ls, Ps, Ts, [], [], wd, pl), tg, Or.inr ⟨hok, i, rfl, hil2, Or.inl ⟨bl_f hvp h32, rfl, rfl⟩⟩, ⟨B, E, _, la, pa, ta, hcF, hg, hs.1, hs.2.1, hs.2.2.1, hs.2.2.2, li_nil, li_nil, hwd, hpl⟩, ex_rf, hkp⟩) (Nat.le_of_ble_eq_true rfl) (Nat.le_of_ble_eq_true rfl) d_HR_pattern_37
    · refine lv_iconst (v := -1) hx hb d_HR_pattern_15 (by decide) ?_
      exact ct_iret S hr rfl hlocks hW (⟨_, tg, Or.inl ⟨fun q => bl_f hv2 h12 q.2, rfl, rfl⟩, h, ex_rf, kp_rf⟩) (Nat.le_of_ble_eq_true rfl) (Nat.le_of_ble_eq_true rfl) d_HR_pattern_16
