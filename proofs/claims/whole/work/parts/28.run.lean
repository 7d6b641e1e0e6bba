/-! THE CLASS: run. -/

set_option maxHeartbeats 4000000 in
set_option maxRecDepth 100000 in
/-- the loop of run -/
theorem lo_HR_run {p_ : Program} {l : Launch} {e_ : Env} {s : State} {m : MethodId} {args : Array Value} {below : List Frame} {meth : Method} {c_ : Code} {Q : State → Prop} {G : ev_G} {A : Nat → Prop} (S : CallFix p_ m c_ b_HR_run 5 s args lw_good "HyphenRows") (hE : ev_K G A s s.heap) {w : wd_M} {tg : Nat → Nat} {r i a : Nat} {B E : Nat → Nat} {Fz : Nat → Nat → Int32} {la pa ta : List Nat} {Ls : List hy_L} {Ps : List hy_P} {Ts : List hy_T} {ml md wd : List Int32} {lg : hy_L} (hg : hr_g tg r B) (wL : Ls.length ≤ 4) (wP : Ps.length ≤ 150) (wT : Ts.length ≤ 40) (wwd : wd.length ≤ 30) (hlgi : Ls[i]? = some lg) (hai : la[i]? = some a) (hlr : lg.2.2.1 ≤ 20 ∧ lg.2.2.2.1 ≤ 20) (hdig : ∀ k, k ≤ wd.length → hy_dig Ps Ts i (hy_let lg wd) k (Fz 7 (k + 1))) (kk : ∀ (k : Nat), 1 ≤ k → wd.length ≤ k → (k ≤ wd.length ∨ k = 1) → ∀ (F : Nat → Nat → Int32) (w1 : wd_M) (H : Heap) (locs : List Loc), (∀ k2, k2 ≠ 8 → F k2 = Fz k2) → li_ ((hy_pls Ps Ts i lg wd k).map nI) (F 8) → hr_c G w1 r B F (nI (hy_tot Ps)) (nI ml.length) (nI wd.length) (nI (hy_pls Ps Ts i lg wd k).length) → hs_ G w1 tg B E la pa ta Ls Ps Ts → kp_ w w1 tg (fun t => 500 ≤ t ∧ t < 600) → wd_W G.1 ev_cl A w1 s.heap H locs → ∀ ls : Array Slot, lv_has ls 5 [(0, .ref r)] → W p_ l e_ (rm_ 5 0 0) s m args below meth c_ H locs 0 0 Q (F0 m 133 ls [])) :
    ∀ (fu : Nat) (k : Nat) (xi : Int32) (F : Nat → Nat → Int32) (w1 : wd_M) (H : Heap) (locs : List Loc) (ls : Array Slot), wd.length + 1 < k + fu → 1 ≤ k → (k ≤ wd.length ∨ k = 1) → xi = nI k → (∀ k2, k2 ≠ 8 → F k2 = Fz k2) → li_ ((hy_pls Ps Ts i lg wd k).map nI) (F 8) → hr_c G w1 r B F (nI (hy_tot Ps)) (nI ml.length) (nI wd.length) (nI (hy_pls Ps Ts i lg wd k).length) → hs_ G w1 tg B E la pa ta Ls Ps Ts → kp_ w w1 tg (fun t => 500 ≤ t ∧ t < 600) → wd_W G.1 ev_cl A w1 s.heap H locs → lv_has ls 5 [(0, .ref r), (1, .int (nI i)), (2, .ref a), (3, .int xi)] → W p_ l e_ (rm_ 5 0 0) s m args below meth c_ H locs 0 0 Q (F0 m 52 ls []) := by
  have hx := S.1
  have hb := S.2.1
  have hK := hE.1
  intro fu
  induction fu with
  | zero =>
    intro k xi F w1 H locs ls hfu hk1 hku exi hF hpl hc0 hs hkp hW hl
    exact absurd hfu (by omega)
  | succ fu ih =>
    intro k xi F w1 H locs ls hfu hk1 hku exi hF hpl hc0 hs hkp hW hl
    obtain ⟨hr0, a3, a4, a5, a6, a7, a8⟩ := id hc0
    have hB3 : ∀ i, i < 3 → tg (B i) = 2 + i := fun i hi => hg.2 i (by omega)
    refine lv_iload_n hx hb d_HR_run_52 rfl (lv_at hl 3 rfl) ?_
    refine lv_aload_n hx hb d_HR_run_53 rfl (lv_at hl 0 rfl) ?_
    refine wd_get S i_HR hK hW hr0 rfl 8 (by decide) k_HR_39 rfl rfl d_HR_run_54 ?_
    refine lv_icmp_ge (tgt := 133) hx hb d_HR_run_57 (by decide) (fun h57 => ?_) (fun h57 => ?_)
    · exact kk k hk1 (by rw [exi] at h57; exact (nI_leI (by omega) (by omega)).mp h57) hku F w1 H locs hF hpl hc0 hs hkp hW ls (lv_sub hl [0] rfl)
    · have hlt : k < wd.length := by rw [exi] at h57; exact Nat.lt_of_not_le (fun q => h57 (nI_le q (by omega)))
      obtain ⟨a2, b, z, e1, ⟨q1, -⟩, -⟩ := hs.2.1.2 i lg hlgi
      have haa : a2 = a := Option.some.inj (e1.symm.trans hai)
      subst haa
      refine lv_iload_n hx hb d_HR_run_60 rfl (lv_at hl 3 rfl) ?_
      refine lv_aload_n hx hb d_HR_run_61 rfl (lv_at hl 2 rfl) ?_
      refine wd_get S i_La hK hW q1 rfl 2 (by decide) k_HR_89 rfl rfl d_HR_run_62 ?_
      refine lv_icmp_lt (tgt := 85) hx hb d_HR_run_65 (by decide) (fun h65 => ?_) (fun h65 => ?_)
      · refine lv_iconst (v := 0) hx hb d_HR_run_85 (by decide) ?_
        refine lv_istore (lv' := [(4, .int 0), (0, .ref r), (1, .int (nI i)), (2, .ref a2), (3, .int xi)]) hx hb d_HR_run_86 hl (by decide) rfl (fun ls hl => ?_)
        refine lv_iload hx hb d_HR_run_88 (lv_at hl 0 rfl) ?_
        refine lv_if_eq (tgt := 127) hx hb d_HR_run_90 (by decide) (fun hz => ?_) (fun hz => ?_)
        · obtain ⟨xi2, exi2⟩ : ∃ y : Int32, y = xi + 1 := ⟨_, rfl⟩
          refine lv_iinc (v := xi2) (lv' := [(3, .int xi2), (4, .int 0), (0, .ref r), (1, .int (nI i)), (2, .ref a2)]) hx hb d_HR_run_127 hl (k := 4) rfl (by rw [exi2]; rfl) (by decide) rfl (fun ls hl => ?_)
          have hno : ¬ hy_pk Ps Ts i lg wd k := fun q => by rw [exi] at h65; have h9 := (nI_ltI (by omega) (by omega)).mp h65; have := q.2.2.1; omega
          refine lv_goto (tgt := 52) hx hb d_HR_run_130 (by decide) ?_
          exact ih (k + 1) xi2 F w1 _ _ _ (by omega) (by omega) (by omega) (by rw [exi2, exi]; exact nI_1 k) hF (by rw [hy_pls_no hno]; exact hpl) (by rw [hy_pls_no hno]; exact hc0) hs hkp hW (lv_sub hl [2, 3, 4, 0] rfl)
        · exact absurd rfl hz
      · have hl1 : lg.2.2.1 ≤ k := by rw [exi] at h65; exact Nat.le_of_not_lt (fun q => h65 (nI_lt q (by omega)))
        refine lv_iload_n hx hb d_HR_run_68 rfl (lv_at hl 3 rfl) ?_
        refine lv_aload_n hx hb d_HR_run_69 rfl (lv_at hl 0 rfl) ?_
        refine wd_get S i_HR hK hW hr0 rfl 8 (by decide) k_HR_39 rfl rfl d_HR_run_70 ?_
        refine lv_aload_n hx hb d_HR_run_73 rfl (lv_at hl 2 rfl) ?_
        refine wd_get S i_La hK hW q1 rfl 3 (by decide) k_HR_92 rfl rfl d_HR_run_74 ?_
        refine lv_isub hx hb d_HR_run_77 ?_
        refine lv_icmp_gt (tgt := 85) hx hb d_HR_run_78 (by decide) (fun h78 => ?_) (fun h78 => ?_)
        · refine lv_iconst (v := 0) hx hb d_HR_run_85 (by decide) ?_
          refine lv_istore (lv' := [(4, .int 0), (0, .ref r), (1, .int (nI i)), (2, .ref a2), (3, .int xi)]) hx hb d_HR_run_86 hl (by decide) rfl (fun ls hl => ?_)
          refine lv_iload hx hb d_HR_run_88 (lv_at hl 0 rfl) ?_
          refine lv_if_eq (tgt := 127) hx hb d_HR_run_90 (by decide) (fun hz => ?_) (fun hz => ?_)
          · obtain ⟨xi2, exi2⟩ : ∃ y : Int32, y = xi + 1 := ⟨_, rfl⟩
            refine lv_iinc (v := xi2) (lv' := [(3, .int xi2), (4, .int 0), (0, .ref r), (1, .int (nI i)), (2, .ref a2)]) hx hb d_HR_run_127 hl (k := 4) rfl (by rw [exi2]; rfl) (by decide) rfl (fun ls hl => ?_)
            have hno : ¬ hy_pk Ps Ts i lg wd k := fun q => by rw [exi] at h78; have h9 := h78; rw [Int32.lt_iff_toInt_lt, nI_toInt (by omega), pk_sub_toInt (by omega) (by omega)] at h9; have := q.2.2.2.1; omega
            refine lv_goto (tgt := 52) hx hb d_HR_run_130 (by decide) ?_
            exact ih (k + 1) xi2 F w1 _ _ _ (by omega) (by omega) (by omega) (by rw [exi2, exi]; exact nI_1 k) hF (by rw [hy_pls_no hno]; exact hpl) (by rw [hy_pls_no hno]; exact hc0) hs hkp hW (lv_sub hl [2, 3, 4, 0] rfl)
          · exact absurd rfl hz
        · have hr1 : k + lg.2.2.2.1 ≤ wd.length := by rw [exi] at h78; have h9 := Int32.not_lt.mp h78; rw [Int32.le_iff_toInt_le, nI_toInt (by omega), pk_sub_toInt (by omega) (by omega)] at h9; omega
          refine lv_iconst (v := 1) hx hb d_HR_run_81 (by decide) ?_
          refine lv_goto (tgt := 86) hx hb d_HR_run_82 (by decide) ?_
          refine lv_istore (lv' := [(4, .int 1), (0, .ref r), (1, .int (nI i)), (2, .ref a2), (3, .int xi)]) hx hb d_HR_run_86 hl (by decide) rfl (fun ls hl => ?_)
          refine lv_iload hx hb d_HR_run_88 (lv_at hl 0 rfl) ?_
          refine lv_if_eq (tgt := 127) hx hb d_HR_run_90 (by decide) (fun hz2 => ?_) (fun hz2 => ?_)
          · exact absurd hz2 (by decide)
          · refine lv_aload_n hx hb d_HR_run_93 rfl (lv_at hl 1 rfl) ?_
            refine wd_get S i_HR hK hW hr0 rfl 10 (by decide) k_HR_45 rfl rfl d_HR_run_94 ?_
            refine lv_iload_n hx hb d_HR_run_97 rfl (lv_at hl 4 rfl) ?_
            refine lv_iconst (v := 1) hx hb d_HR_run_98 (by decide) ?_
            refine lv_iadd hx hb d_HR_run_99 ?_
            rw [show xi + 1 = nI (k + 1) from by rw [exi]; exact nI_1 k]
            refine wd_iald S hK hW 0 a7 rfl (vp_in_nI (by omega) (by omega)) d_HR_run_100 ?_
            rw [nI_clamp (by omega)]
            have hdk := hdig k (by omega)
            rw [← hF 7 (by omega)] at hdk
            refine lv_iconst (v := 2) hx hb d_HR_run_101 (by decide) ?_
            refine lv_irem hx hb d_HR_run_102 (by decide) ?_
            refine lv_iconst (v := 1) hx hb d_HR_run_103 (by decide) ?_
            refine lv_icmp_ne (tgt := 127) hx hb d_HR_run_104 (by decide) (fun h104 => ?_) (fun h104 => ?_)
            · obtain ⟨xi2, exi2⟩ : ∃ y : Int32, y = xi + 1 := ⟨_, rfl⟩
              refine lv_iinc (v := xi2) (lv' := [(3, .int xi2), (4, .int 1), (0, .ref r), (1, .int (nI i)), (2, .ref a2)]) hx hb d_HR_run_127 hl (k := 4) rfl (by rw [exi2]; rfl) (by decide) rfl (fun ls hl => ?_)
              have hno : ¬ hy_pk Ps Ts i lg wd k := fun q => by obtain ⟨-, -, -, -, d, hd, ho⟩ := q; rw [hy_dig_one (by omega) hd hdk] at ho; exact h104 ho
              refine lv_goto (tgt := 52) hx hb d_HR_run_130 (by decide) ?_
              exact ih (k + 1) xi2 F w1 _ _ _ (by omega) (by omega) (by omega) (by rw [exi2, exi]; exact nI_1 k) hF (by rw [hy_pls_no hno]; exact hpl) (by rw [hy_pls_no hno]; exact hc0) hs hkp hW (lv_sub hl [2, 3, 4, 0] rfl)
            · have hyes : hy_pk Ps Ts i lg wd k := ⟨hk1, hlt, hl1, hr1, F 7 (k + 1), hdk, h104⟩
              have hpn := hy_pls_le (P := Ps) (T := Ts) (lang := i) (lg := lg) (wd := wd) (n := k)
              refine lv_aload_n hx hb d_HR_run_107 rfl (lv_at hl 1 rfl) ?_
              refine wd_get S i_HR hK hW hr0 rfl 11 (by decide) k_HR_48 rfl rfl d_HR_run_108 ?_
              refine lv_aload_n hx hb d_HR_run_111 rfl (lv_at hl 1 rfl) ?_
              refine wd_get S i_HR hK hW hr0 rfl 12 (by decide) k_HR_51 rfl rfl d_HR_run_112 ?_
              refine lv_iload_n hx hb d_HR_run_115 rfl (lv_at hl 4 rfl) ?_
              refine wd_iast S hK hW 0 a8 rfl (vp_in_nI (by omega) (by omega)) d_HR_run_116 (fun H locs w_1 ew_1 hW => ?_)
              have hs := hs_up hs wL wP hB3 a8 ew_1 (Or.inr (by rw [hg.2 8 (by omega)]; omega))
              have hkp := kp_tr hkp (up_kp ew_1 (by rw [hg.2 8 (by omega)]; show ¬ (_ ∧ _); omega))
              have hr0 := wd_keep ew_1 (wd_ne hr0 a8 (by simp)) hr0
              have a3 := wd_keep ew_1 (wd_ne a3 a8 (by simp)) a3
              have a4 := wd_keep ew_1 (wd_ne a4 a8 (by simp)) a4
              have a5 := wd_keep ew_1 (tg_ne (tg := tg) (by rw [hg.2 5 (by omega), hg.2 8 (by omega)]; omega)) a5
              have a6 := wd_keep ew_1 (wd_ne a6 a8 (by simp)) a6
              have a7 := wd_keep ew_1 (wd_ne a7 a8 (by simp)) a7
              have q1 := wd_keep ew_1 (wd_ne q1 a8 (by simp)) q1
              have a8 : w_1 (B 8) = some (.inl (G.2.1 0, 30, .inl (upd (F 8) ((nI (hy_pls Ps Ts i lg wd k).length) : Int32).toNatClampNeg xi))) := wd_here ew_1
              rw [nI_clamp (by omega)] at a8
              refine lv_aload_n hx hb d_HR_run_117 rfl (lv_at hl 1 rfl) ?_
              refine lv_dup hx hb d_HR_run_118 rfl ?_
              refine wd_get S i_HR hK hW hr0 rfl 12 (by decide) k_HR_51 rfl rfl d_HR_run_119 ?_
              refine lv_iconst (v := 1) hx hb d_HR_run_122 (by decide) ?_
              refine lv_iadd hx hb d_HR_run_123 ?_
              refine lv_topi (fun nl enl => ?_)
              rw [nI_1] at enl
              refine wd_put S i_HR t_HR t_HR_ok n_HR hK hW hr0 rfl 12 (by decide) k_HR_51 rfl rfl rfl rfl (Nat.le_of_ble_eq_true rfl) d_HR_run_124 (fun H locs w_2 ew_2 hW => ?_)
              have hs := hs_up hs wL wP hB3 hr0 ew_2 (Or.inl hg.1)
              have hkp := kp_tr hkp (up_kp ew_2 (by rw [hg.1]; show ¬ (_ ∧ _); omega))
              have a3 := wd_keep ew_2 (wd_ne a3 hr0 (by simp)) a3
              have a4 := wd_keep ew_2 (wd_ne a4 hr0 (by simp)) a4
              have a5 := wd_keep ew_2 (wd_ne a5 hr0 (by simp)) a5
              have a6 := wd_keep ew_2 (wd_ne a6 hr0 (by simp)) a6
              have a7 := wd_keep ew_2 (wd_ne a7 hr0 (by simp)) a7
              have a8 := wd_keep ew_2 (wd_ne a8 hr0 (by simp)) a8
              have q1 := wd_keep ew_2 (wd_ne q1 hr0 (by simp)) q1
              have hr0 : w_2 r = some (.inr (0, [.ref (B 0), .ref (B 1), .ref (B 2), .int (nI (hy_tot Ps)), .ref (B 3), .ref (B 4), .int (nI ml.length), .ref (B 5), .int (nI wd.length), .ref (B 6), .ref (B 7), .ref (B 8), .int nl])) := wd_here ew_2
              obtain ⟨xi2, exi2⟩ : ∃ y : Int32, y = xi + 1 := ⟨_, rfl⟩
              refine lv_iinc (v := xi2) (lv' := [(3, .int xi2), (4, .int 1), (0, .ref r), (1, .int (nI i)), (2, .ref a2)]) hx hb d_HR_run_127 hl (k := 4) rfl (by rw [exi2]; rfl) (by decide) rfl (fun ls hl => ?_)
              rw [enl] at hr0
              have hcF : hr_c G w_2 r B (fun k2 => if k2 = 8 then upd (F 8) (hy_pls Ps Ts i lg wd k).length xi else F k2) (nI (hy_tot Ps)) (nI ml.length) (nI wd.length) (nI (hy_pls Ps Ts i lg wd (k + 1)).length) := by rw [hy_pls_yes hyes, List.length_append]; exact ⟨hr0, a3, a4, a5, a6, a7, a8⟩
              refine lv_goto (tgt := 52) hx hb d_HR_run_130 (by decide) ?_
              exact ih (k + 1) xi2 _ _ _ _ _ (by omega) (by omega) (by omega) (by rw [exi2, exi]; exact nI_1 k) (fun k2 hk2 => by show (if k2 = 8 then _ else F k2) = Fz k2; rw [if_neg hk2]; exact hF k2 hk2) (by rw [hy_pls_yes hyes, List.map_append, exi]; show li_ _ (if 8 = 8 then _ else _); rw [if_pos rfl]; have h9 := li_put (y := nI k) hpl; rw [List.length_map] at h9; exact h9) hcF hs hkp hW (lv_sub hl [2, 3, 4, 0] rfl)

set_option maxHeartbeats 4000000 in
set_option maxRecDepth 100000 in
/-- run -/
theorem c_HR_run (l : Launch) (G : ev_G) (w : wd_M) (sz : Nat) (tg : Nat → Nat) (r : Nat) (Ls : List hy_L) (Ps : List hy_P) (Ts : List hy_T) (ml md wd : List Int32) (pl : List Nat) (x : Int32) (h : hr_ G w tg r Ls Ps Ts ml md wd pl) (hwf : hy_wf Ls Ps Ts ml md wd pl) : ct_i l y_HR_run b_HR_run 5 (some FieldType.int) (rm_ 5 0 0) G w sz [.ref r, .int x] (hq_ G w tg r (sp_run x (Ls, Ps, Ts, ml, md, wd, pl))) := by
  refine ct_enter (by decide +kernel) (Nat.le_of_ble_eq_true rfl) ?_
  intro p_ e_ s m below meth c_ hsz S hr hlocks hname hE hW ls hl
  have S : CallFix p_ m c_ b_HR_run 5 s _ lw_good "HyphenRows" := S
  have hx := S.1
  have hb := S.2.1
  have hK := hE.1
  have hl : lv_has ls 5 [(0, .ref r), (1, .int x)] := hl
  obtain ⟨B, E, F, la, pa, ta, hc, hg, hal, hla, hpa, hta, hml, hmd, hwd, hpl⟩ := id h
  have hs : hs_ G w tg B E la pa ta Ls Ps Ts := ⟨hal, hla, hpa, hta⟩
  obtain ⟨hr0, a3, a4, a5, a6, a7, a8⟩ := id hc
  obtain ⟨wL, wP, wT, wm, wml, wwd, wpl, wtot, wmx, wdx, wws, wplx, wlg, wps, wts⟩ := id hwf
  have hB3 : ∀ i, i < 3 → tg (B i) = 2 + i := fun i hi => hg.2 i (by omega)
  have hkp : kp_ w w tg (fun t => 500 ≤ t ∧ t < 600) := kp_rf
  obtain ⟨mo0, haL, he0⟩ := id hs.1.1
  refine lv_aload_n hx hb d_HR_run_0 rfl (lv_at hl 0 rfl) ?_
  refine lv_iload_n hx hb d_HR_run_1 rfl (lv_at hl 1 rfl) ?_
  refine ct_goi hW (ct_runV (As := [.int x]) (rest := []) (q := (R_HR, F_HR, 13)) S hE hW (c_HR_isLanguage l G _ _ r B E F (nI (hy_tot Ps)) (nI ml.length) (nI wd.length) (nI pl.length) la x hc hal.1) hr0 rfl kc_HR_isLanguage kz_HR k_HR_65 ki_HR_isLanguage kv_HR_isLanguage kd_HR_isLanguage ⟨Nat.le_of_ble_eq_true rfl, Nat.le_of_ble_eq_true rfl⟩ hl.1 (Nat.le_of_ble_eq_true rfl) d_HR_run_2 ⟨Nat.le_of_ble_eq_true rfl, Nat.le_of_ble_eq_true rfl⟩) (fun v_3 u_1 H locs hp_2 hW => ?_)
  obtain ⟨hv, hu_4⟩ := hp_2
  rw [hu_4] at hW
  rw [hla.1] at hv
  refine lv_if_ne (tgt := 10) hx hb d_HR_run_5 (by decide) (fun h5 => ?_) (fun h5 => ?_)
  · have hnm0 := bl_t hv h5
    have hnm : nm_ x la.length := by rw [hla.1]; exact hnm0
    refine lv_aload_n hx hb d_HR_run_10 rfl (lv_at hl 0 rfl) ?_
    refine lv_iconst (v := 0) hx hb d_HR_run_11 (by decide) ?_
    refine wd_put S i_HR t_HR t_HR_ok n_HR hK hW hr0 rfl 12 (by decide) k_HR_51 rfl rfl rfl rfl (Nat.le_of_ble_eq_true rfl) d_HR_run_12 (fun H locs w_5 ew_5 hW => ?_)
    have hs := hs_up hs wL wP hB3 hr0 ew_5 (Or.inl hg.1)
    have hkp := kp_tr hkp (up_kp ew_5 (by rw [hg.1]; show ¬ (_ ∧ _); omega))
    have a3 := wd_keep ew_5 (wd_ne a3 hr0 (by simp)) a3
    have a4 := wd_keep ew_5 (wd_ne a4 hr0 (by simp)) a4
    have a5 := wd_keep ew_5 (wd_ne a5 hr0 (by simp)) a5
    have a6 := wd_keep ew_5 (wd_ne a6 hr0 (by simp)) a6
    have a7 := wd_keep ew_5 (wd_ne a7 hr0 (by simp)) a7
    have a8 := wd_keep ew_5 (wd_ne a8 hr0 (by simp)) a8
    have haL := wd_keep ew_5 (wd_ne haL hr0 (by simp)) haL
    have hr0 : w_5 r = some (.inr (0, [.ref (B 0), .ref (B 1), .ref (B 2), .int (nI (hy_tot Ps)), .ref (B 3), .ref (B 4), .int (nI ml.length), .ref (B 5), .int (nI wd.length), .ref (B 6), .ref (B 7), .ref (B 8), .int 0])) := wd_here ew_5
    have hc1 : hr_c G w_5 r B F (nI (hy_tot Ps)) (nI ml.length) (nI wd.length) 0 := ⟨hr0, a3, a4, a5, a6, a7, a8⟩
    obtain ⟨i, hil, rfl⟩ := nm_of hnm (by rw [hla.1]; omega)
    have hil2 : i < Ls.length := by rw [← hla.1]; exact hil
    have hlgi : Ls[i]? = some Ls[i] := List.getElem?_eq_getElem hil2
    generalize Ls[i] = lg at hlgi
    obtain ⟨a, b, z, e1, hla1, tga, tgb, tgz⟩ := hs.2.1.2 i lg hlgi
    have hlgm := wlg lg (List.mem_of_getElem? hlgi)
    obtain ⟨mo0, haL, he0⟩ := id hs.1.1
    refine lv_aload_n hx hb d_HR_run_15 rfl (lv_at hl 0 rfl) ?_
    refine wd_get S i_HR hK hW hr0 rfl 0 (by decide) k_HR_10 rfl rfl d_HR_run_16 ?_
    refine lv_iload_n hx hb d_HR_run_19 rfl (lv_at hl 1 rfl) ?_
    refine ct_goq hW (ct_runV (As := [.int (nI i)]) (rest := []) (q := (R_AL, F_AL, 3)) S hE hW (c_AL_get l G _ _ (B 0) (E 0) la i hs.1.1 hil) haL rfl kc_AL_get kz_AL k_HR_75 ki_AL_get kv_AL_get kd_AL_get ⟨Nat.le_of_ble_eq_true rfl, Nat.le_of_ble_eq_true rfl⟩ hl.1 (Nat.le_of_ble_eq_true rfl) d_HR_run_20 ⟨Nat.le_of_ble_eq_true rfl, Nat.le_of_ble_eq_true rfl⟩) (fun v_8 u_6 H locs hp_7 hW => ?_)
    obtain ⟨hvg, hu_9⟩ := hp_7
    rw [hu_9] at hW
    rw [hvg, e1]
    refine W.eq (g2 := F0 m 23 ls [.ref a]) rfl ?_
    refine wd_cast S (T := F_La) (N := 5) k_HR_58 hK hW hla1.1 rfl d_HR_run_23 ?_
    obtain ⟨q1, q2, q3⟩ := id hla1
    refine lv_astore_n (lv' := [(2, .ref a), (0, .ref r), (1, .int (nI i))]) hx hb d_HR_run_26 rfl hl (by decide) rfl (fun ls hl => ?_)
    refine lv_aload_n hx hb d_HR_run_27 rfl (lv_at hl 1 rfl) ?_
    refine lv_aload_n hx hb d_HR_run_28 rfl (lv_at hl 0 rfl) ?_
    refine ct_goi hW (ct_runV (As := [.ref a]) (rest := []) (q := (R_HR, F_HR, 13)) S hE hW (c_HR_staysWhole l G _ _ r B F (nI (hy_tot Ps)) (nI ml.length) 0 a b z lg wd hc1 hla1 hwd wwd wws) hr0 rfl kc_HR_staysWhole kz_HR k_HR_148 ki_HR_staysWhole kv_HR_staysWhole kd_HR_staysWhole ⟨Nat.le_of_ble_eq_true rfl, Nat.le_of_ble_eq_true rfl⟩ hl.1 (Nat.le_of_ble_eq_true rfl) d_HR_run_29 ⟨Nat.le_of_ble_eq_true rfl, Nat.le_of_ble_eq_true rfl⟩) (fun v_12 u_10 H locs hp_11 hW => ?_)
    obtain ⟨hvw, hu_13⟩ := hp_11
    rw [hu_13] at hW
    refine lv_if_ne (tgt := 43) hx hb d_HR_run_32 (by decide) (fun h32 => ?_) (fun h32 => ?_)
    · refine lv_iconst (v := 0) hx hb d_HR_run_43 (by decide) ?_
      exact ct_iret S hr rfl hlocks hW (⟨(Ls, Ps, Ts, ml, md, wd, []), tg, Or.inr ⟨hnm0, i, lg, rfl, hlgi, Or.inl ⟨Or.inl (bl_t hvw h32), rfl, rfl⟩⟩, ⟨B, E, _, la, pa, ta, hc1, hg, hs.1, hs.2.1, hs.2.2.1, hs.2.2.2, hml, hmd, hwd, li_nil⟩, ex_rf, hkp⟩) (Nat.le_refl _) (Nat.le_refl _) d_HR_run_44
    · have hnw := bl_f hvw h32
      refine lv_aload_n hx hb d_HR_run_35 rfl (lv_at hl 1 rfl) ?_
      refine lv_aload_n hx hb d_HR_run_36 rfl (lv_at hl 0 rfl) ?_
      refine ct_goi hW (ct_runV (As := [.ref a]) (rest := []) (q := (R_HR, F_HR, 13)) S hE hW (c_HR_spellWord l G _ _ r B F (nI (hy_tot Ps)) (nI ml.length) 0 a b z lg wd hc1 hla1 hwd wwd wws) hr0 rfl kc_HR_spellWord kz_HR k_HR_123 ki_HR_spellWord kv_HR_spellWord kd_HR_spellWord ⟨Nat.le_of_ble_eq_true rfl, Nat.le_of_ble_eq_true rfl⟩ hl.1 (Nat.le_of_ble_eq_true rfl) d_HR_run_37 ⟨Nat.le_of_ble_eq_true rfl, Nat.le_of_ble_eq_true rfl⟩) (fun v_16 u_14 H locs hp_15 hW => ?_)
      obtain ⟨hv6, g6, eu, hrow⟩ := hp_15
      have hs := hs_up hs wL wP hB3 a6 eu (Or.inr (by rw [hg.2 6 (by omega)]; omega))
      have hkp := kp_tr hkp (up_kp eu (by rw [hg.2 6 (by omega)]; show ¬ (_ ∧ _); omega))
      have hc2 := hc_6 hc1 eu
      refine lv_if_ne (tgt := 45) hx hb d_HR_run_40 (by decide) (fun h40 => ?_) (fun h40 => ?_)
      · have hsp := bl_t hv6 h40
        have hll : (hy_let lg wd).length = wd.length := List.length_map _
        have hcl : hr_c G u_14 r B (fun k => if k = 6 then g6 else F k) (nI (hy_tot Ps)) (nI ml.length) (nI (hy_let lg wd).length) 0 := by rw [hll]; exact hc2
        have hr1 := hc2.1
        refine lv_aload_n hx hb d_HR_run_45 rfl (lv_at hl 1 rfl) ?_
        refine lv_iload_n hx hb d_HR_run_46 rfl (lv_at hl 2 rfl) ?_
        refine ct_gov hW (ct_runV (As := [.int (nI i)]) (rest := []) (q := (R_HR, F_HR, 13)) S hE hW (c_HR_findRowDigits l G _ _ r i B E (fun k => if k = 6 then g6 else F k) (nI (hy_tot Ps)) (nI ml.length) 0 tg pa ta Ps Ts (hy_let lg wd) hcl hg hs.1.2.1 hs.2.2.1 wps wP (hrow hsp) (by omega) (by omega) hs.1.2.2.1 hs.2.2.2 wts wT) hr1 rfl kc_HR_findRowDigits kz_HR k_HR_151 ki_HR_findRowDigits kv_HR_findRowDigits kd_HR_findRowDigits ⟨Nat.le_of_ble_eq_true rfl, Nat.le_of_ble_eq_true rfl⟩ hl.1 (Nat.le_of_ble_eq_true rfl) d_HR_run_47 ⟨Nat.le_of_ble_eq_true rfl, Nat.le_of_ble_eq_true rfl⟩) (fun u_17 H locs hp_18 hW => ?_)
        obtain ⟨g7, eu2, hdig⟩ := hp_18
        have hs := hs_up hs wL wP hB3 hc2.2.2.2.2.2.1 eu2 (Or.inr (by rw [hg.2 7 (by omega)]; omega))
        have hkp := kp_tr hkp (up_kp eu2 (by rw [hg.2 7 (by omega)]; show ¬ (_ ∧ _); omega))
        have hc3 := hc_7 hc2 eu2
        refine lv_iconst (v := 1) hx hb d_HR_run_50 (by decide) ?_
        refine lv_istore_n (lv' := [(3, .int 1), (2, .ref a), (0, .ref r), (1, .int (nI i))]) hx hb d_HR_run_51 rfl hl (by decide) rfl (fun ls hl => ?_)
        have hp1 : hy_pls Ps Ts i lg wd 1 = [] := hy_pls_no (n := 0) (fun q => by have := q.1; omega)
        refine lo_HR_run (w := w) (Fz := fun k => if k = 7 then g7 else if k = 6 then g6 else F k) (ml := ml) (md := md) S hE hg wL wP wT wwd hlgi e1 hlgm.2 (fun k hk => hdig k (by rw [hll]; exact hk)) (fun k hk1 hk2 hk3 F2 w2 H locs hF2 hpl2 hc4 hs hkp hW ls hl => ?_) (wd.length + 1) 1 1 _ _ _ _ _ (by omega) (by omega) (Or.inr rfl) rfl (fun k2 _ => rfl) (by rw [hp1]; exact li_nil) (by rw [hp1]; exact hc3) hs hkp hW (lv_sub hl [2, 3, 1, 0] rfl)
        have hex : hy_pls Ps Ts i lg wd k = hy_pls Ps Ts i lg wd wd.length := (Nat.eq_zero_or_pos wd.length).elim (fun z0 => by rw [show k = 1 by omega, z0, hp1]; rfl) (fun z0 => by rw [show k = wd.length by omega])
        rw [hex] at hpl2 hc4
        have hr5 := hc4.1
        refine lv_aload_n hx hb d_HR_run_133 rfl (lv_at hl 0 rfl) ?_
        refine wd_get S i_HR hK hW hr5 rfl 12 (by decide) k_HR_51 rfl rfl d_HR_run_134 ?_
        exact ct_iret S hr rfl hlocks hW (⟨(Ls, Ps, Ts, ml, md, wd, hy_pls Ps Ts i lg wd wd.length), tg, Or.inr ⟨hnm0, i, lg, rfl, hlgi, Or.inr ⟨fun q => q.elim hnw (fun z => z hsp), rfl, rfl⟩⟩, ⟨B, E, F2, la, pa, ta, hc4, hg, hs.1, hs.2.1, hs.2.2.1, hs.2.2.2, by rw [hF2 3 (by omega)]; exact hml, by rw [hF2 4 (by omega)]; exact hmd, by rw [hF2 5 (by omega)]; exact hwd, hpl2⟩, ex_rf, hkp⟩) (Nat.le_refl _) (Nat.le_refl _) d_HR_run_137
      · refine lv_iconst (v := 0) hx hb d_HR_run_43 (by decide) ?_
        exact ct_iret S hr rfl hlocks hW (⟨(Ls, Ps, Ts, ml, md, wd, []), tg, Or.inr ⟨hnm0, i, lg, rfl, hlgi, Or.inl ⟨Or.inr (bl_f hv6 h40), rfl, rfl⟩⟩, ⟨B, E, _, la, pa, ta, hc2, hg, hs.1, hs.2.1, hs.2.2.1, hs.2.2.2, hml, hmd, hwd, li_nil⟩, ex_rf, hkp⟩) (Nat.le_refl _) (Nat.le_refl _) d_HR_run_44
  · refine lv_iconst (v := -1) hx hb d_HR_run_8 (by decide) ?_
    exact ct_iret S hr rfl hlocks hW (⟨_, tg, Or.inl ⟨fun q => bl_f hv h5 q, rfl, rfl⟩, h, ex_rf, kp_rf⟩) (Nat.le_refl _) (Nat.le_refl _) d_HR_run_9
