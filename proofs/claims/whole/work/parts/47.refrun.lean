/-! THE REFERENCE: digit, run. -/

set_option maxHeartbeats 4000000 in
set_option maxRecDepth 100000 in
/-- the reference: digit -/
theorem c_Mo_digit (l : Launch) (G : ev_G) (w : wd_M) (sz : Nat) (tg : Nat → Nat) (t : Nat) (Ls : List hy_L) (Ps : List hy_P) (Ts : List hy_T) (ml md wd : List Int32) (pl : List Nat) (x y : Int32) (h : mo_ G w tg t Ls Ps Ts ml md wd pl) (hwf : hy_wf Ls Ps Ts ml md wd pl) : ct_i l y_Mo_digit b_Mo_digit 3 (some FieldType.int) (rm_ 2 0 0) G w sz [.ref t, .int x, .int y] (mq_ G w tg t (sp_digit x y (Ls, Ps, Ts, ml, md, wd, pl))) := by
  refine ct_enter (by decide +kernel) (Nat.le_of_ble_eq_true rfl) ?_
  intro p_ e_ s m below meth c_ hsz S hr hlocks hname hE hW ls hl
  have S : CallFix p_ m c_ b_Mo_digit 3 s _ lw_good "HyphenRowsModel" := S
  have hx := S.1
  have hb := S.2.1
  have hK := hE.1
  have hl : lv_has ls 3 [(0, .ref t), (1, .int x), (2, .int y)] := hl
  obtain ⟨C, M, hc, hT, hl0, hp0, hq0, hml, hmd, hwd, hpl⟩ := id h
  obtain ⟨ht0, c0, c1, c2, c3, c4, c5, c6, c7, c8, c9, c10, c11, c12, c13, c14, c15, c16, c17⟩ := id hc
  obtain ⟨wL, wP, wT, wm, wml, wwd, wpl, wtot, wmx, wdx, wws, wplx, wlg, wps, wts⟩ := id hwf
  have hmk : mk_ w w tg := mk_rf
  refine lv_aload_n hx hb d_Mo_digit_0 rfl (lv_at hl 0 rfl) ?_
  refine lv_iload_n hx hb d_Mo_digit_1 rfl (lv_at hl 1 rfl) ?_
  refine ct_goi hW (ct_runV (As := [.int x]) (rest := []) (q := (R_Mo, F_Mo, 25)) S hE hW (c_Mo_isLanguage l G _ _ t C M (nI ml.length) (nI Ps.length) (nI (hy_tot Ps)) (nI Ts.length) (nI wd.length) (nI pl.length) Ls.length x hc) ht0 rfl kc_Mo_isLanguage kz_Mo k_Mo_69 ki_Mo_isLanguage kv_Mo_isLanguage kd_Mo_isLanguage ⟨Nat.le_of_ble_eq_true rfl, Nat.le_of_ble_eq_true rfl⟩ hl.1 (Nat.le_of_ble_eq_true rfl) d_Mo_digit_2 ⟨Nat.le_of_ble_eq_true rfl, Nat.le_of_ble_eq_true rfl⟩) (fun v_3 u_1 H locs hp_2 hW => ?_)
  obtain ⟨hv, hu_4⟩ := hp_2
  rw [hu_4] at hW
  refine lv_if_eq (tgt := 20) hx hb d_Mo_digit_5 (by decide) (fun h5 => ?_) (fun h5 => ?_)
  · refine lv_iconst (v := -1) hx hb d_Mo_digit_20 (by decide) ?_
    exact ct_iret S hr rfl hlocks hW (⟨_, ⟨rfl, Or.inl ⟨fun q => bl_f hv h5 q.1, rfl⟩⟩, h, mk_rf⟩) (Nat.le_of_ble_eq_true rfl) (Nat.le_of_ble_eq_true rfl) d_Mo_digit_21
  · have hnm0 := bl_t hv h5
    obtain ⟨i, hil, rfl⟩ := nm_of hnm0 (by omega)
    have hlgi : Ls[i]? = some Ls[i] := List.getElem?_eq_getElem hil
    generalize Ls[i] = lg at hlgi
    obtain ⟨m01, m2, m3, m4⟩ := hl0.1 i lg hlgi
    have hlgm := wlg lg (List.mem_of_getElem? hlgi)
    refine lv_iload_n hx hb d_Mo_digit_8 rfl (lv_at hl 2 rfl) ?_
    refine lv_if_lt (tgt := 20) hx hb d_Mo_digit_9 (by decide) (fun h9 => ?_) (fun h9 => ?_)
    · refine lv_iconst (v := -1) hx hb d_Mo_digit_20 (by decide) ?_
      exact ct_iret S hr rfl hlocks hW (⟨_, ⟨rfl, Or.inl ⟨fun q => q.2.1 h9, rfl⟩⟩, h, mk_rf⟩) (Nat.le_of_ble_eq_true rfl) (Nat.le_of_ble_eq_true rfl) d_Mo_digit_21
    · refine lv_iload_n hx hb d_Mo_digit_12 rfl (lv_at hl 2 rfl) ?_
      refine lv_aload_n hx hb d_Mo_digit_13 rfl (lv_at hl 0 rfl) ?_
      refine wd_get S i_Mo hK hW ht0 rfl 20 (by decide) k_Mo_94 rfl rfl d_Mo_digit_14 ?_
      refine lv_icmp_le (tgt := 22) hx hb d_Mo_digit_17 (by decide) (fun h17 => ?_) (fun h17 => ?_)
      · obtain ⟨k, hk, rfl⟩ := nI_of2 (n := wd.length) (nI_toInt (by omega)) h9 h17
        refine lv_aload_n hx hb d_Mo_digit_22 rfl (lv_at hl 0 rfl) ?_
        refine lv_iload_n hx hb d_Mo_digit_23 rfl (lv_at hl 1 rfl) ?_
        refine ct_goi hW (ct_runV (As := [.int (nI i)]) (rest := []) (q := (R_Mo, F_Mo, 25)) S hE hW (c_Mo_spell l G _ _ t C M (nI Ls.length) (nI ml.length) (nI Ps.length) (nI (hy_tot Ps)) (nI Ts.length) (nI pl.length) tg i lg wd hc hT (fun s hs => (m01 s hs).1) (by omega) hlgm.1 hwd wwd wws) ht0 rfl kc_Mo_spell kz_Mo k_Mo_100 ki_Mo_spell kv_Mo_spell kd_Mo_spell ⟨Nat.le_of_ble_eq_true rfl, Nat.le_of_ble_eq_true rfl⟩ hl.1 (Nat.le_of_ble_eq_true rfl) d_Mo_digit_24 ⟨Nat.le_of_ble_eq_true rfl, Nat.le_of_ble_eq_true rfl⟩) (fun v_7 u_5 H locs hp_6 hW => ?_)
        obtain ⟨hv6, g16, eu, hrow⟩ := hp_6
        have hmk := mk_up hmk c16 eu (by rw [hT.2 16 (by omega)]; omega)
        have c0 := wd_keep eu (tg_ne (tg := tg) (by rw [hT.2 0 (by omega), hT.2 16 (by omega)]; omega)) c0
        have c1 := wd_keep eu (tg_ne (tg := tg) (by rw [hT.2 1 (by omega), hT.2 16 (by omega)]; omega)) c1
        have c2 := wd_keep eu (tg_ne (tg := tg) (by rw [hT.2 2 (by omega), hT.2 16 (by omega)]; omega)) c2
        have c3 := wd_keep eu (tg_ne (tg := tg) (by rw [hT.2 3 (by omega), hT.2 16 (by omega)]; omega)) c3
        have c4 := wd_keep eu (tg_ne (tg := tg) (by rw [hT.2 4 (by omega), hT.2 16 (by omega)]; omega)) c4
        have c5 := wd_keep eu (tg_ne (tg := tg) (by rw [hT.2 5 (by omega), hT.2 16 (by omega)]; omega)) c5
        have c6 := wd_keep eu (tg_ne (tg := tg) (by rw [hT.2 6 (by omega), hT.2 16 (by omega)]; omega)) c6
        have c7 := wd_keep eu (tg_ne (tg := tg) (by rw [hT.2 7 (by omega), hT.2 16 (by omega)]; omega)) c7
        have c8 := wd_keep eu (tg_ne (tg := tg) (by rw [hT.2 8 (by omega), hT.2 16 (by omega)]; omega)) c8
        have c9 := wd_keep eu (tg_ne (tg := tg) (by rw [hT.2 9 (by omega), hT.2 16 (by omega)]; omega)) c9
        have c10 := wd_keep eu (tg_ne (tg := tg) (by rw [hT.2 10 (by omega), hT.2 16 (by omega)]; omega)) c10
        have c11 := wd_keep eu (tg_ne (tg := tg) (by rw [hT.2 11 (by omega), hT.2 16 (by omega)]; omega)) c11
        have c12 := wd_keep eu (tg_ne (tg := tg) (by rw [hT.2 12 (by omega), hT.2 16 (by omega)]; omega)) c12
        have c13 := wd_keep eu (tg_ne (tg := tg) (by rw [hT.2 13 (by omega), hT.2 16 (by omega)]; omega)) c13
        have c14 := wd_keep eu (tg_ne (tg := tg) (by rw [hT.2 14 (by omega), hT.2 16 (by omega)]; omega)) c14
        have c15 := wd_keep eu (tg_ne (tg := tg) (by rw [hT.2 15 (by omega), hT.2 16 (by omega)]; omega)) c15
        have c17 := wd_keep eu (tg_ne (tg := tg) (by rw [hT.2 17 (by omega), hT.2 16 (by omega)]; omega)) c17
        have ht0 := wd_keep eu (wd_ne ht0 c16 (by simp)) ht0
        have c16 := wd_here eu
        refine lv_if_eq (tgt := 39) hx hb d_Mo_digit_27 (by decide) (fun h27 => ?_) (fun h27 => ?_)
        · refine lv_iconst (v := 0) hx hb d_Mo_digit_39 (by decide) ?_
          have hcF : mo_c G u_5 t C (fun k9 => if k9 = 16 then g16 else M k9) (nI Ls.length) (nI ml.length) (nI Ps.length) (nI (hy_tot Ps)) (nI Ts.length) (nI wd.length) (nI pl.length) := ⟨ht0, c0, c1, c2, c3, c4, c5, c6, c7, c8, c9, c10, c11, c12, c13, c14, c15, c16, c17⟩
          exact ct_iret S hr rfl hlocks hW (⟨(Ls, Ps, Ts, ml, md, wd, pl), ⟨rfl, Or.inr ⟨⟨hnm0, h9, Int32.not_lt.mpr h17⟩, i, k, lg, rfl, rfl, hk, hlgi, Or.inl ⟨bl_f hv6 h27, rfl⟩⟩⟩, ⟨C, (fun k9 => if k9 = 16 then g16 else M k9), hcF, hT, (mo_lc hl0 (fun k9 h2 => by show (if k9 = 16 then g16 else M k9) = M k9; rw [if_neg (by omega)])), (mo_pc hp0 (fun k9 h1 h2 => by show (if k9 = 16 then g16 else M k9) = M k9; rw [if_neg (by omega)])), (mo_tc hq0 (fun k9 h1 h2 => by show (if k9 = 16 then g16 else M k9) = M k9; rw [if_neg (by omega)])), hml, hmd, hwd, hpl⟩, hmk⟩) (Nat.le_of_ble_eq_true rfl) (Nat.le_of_ble_eq_true rfl) d_Mo_digit_40
        · have hsp := bl_t hv6 h27
          have hll : (hy_let lg wd).length = wd.length := List.length_map _
          have hc1 : mo_c G u_5 t C (fun k9 => if k9 = 16 then g16 else M k9) (nI Ls.length) (nI ml.length) (nI Ps.length) (nI (hy_tot Ps)) (nI Ts.length) (nI (hy_let lg wd).length) (nI pl.length) := by rw [hll]; exact ⟨ht0, c0, c1, c2, c3, c4, c5, c6, c7, c8, c9, c10, c11, c12, c13, c14, c15, c16, c17⟩
          refine lv_aload_n hx hb d_Mo_digit_30 rfl (lv_at hl 0 rfl) ?_
          refine lv_iload_n hx hb d_Mo_digit_31 rfl (lv_at hl 1 rfl) ?_
          refine lv_iload_n hx hb d_Mo_digit_32 rfl (lv_at hl 2 rfl) ?_
          refine ct_goi hW (ct_runV (As := [.int (nI i), .int (nI k)]) (rest := []) (q := (R_Mo, F_Mo, 25)) S hE hW (c_Mo_digitOf l G _ _ t C (fun k9 => if k9 = 16 then g16 else M k9) (nI Ls.length) (nI ml.length) (nI (hy_tot Ps)) (nI pl.length) i k (hy_let lg wd) Ps Ts hc1 hp0 hq0 hrow (by omega) wT wts wP wps (by omega) (by omega)) ht0 rfl kc_Mo_digitOf kz_Mo k_Mo_113 ki_Mo_digitOf kv_Mo_digitOf kd_Mo_digitOf ⟨Nat.le_of_ble_eq_true rfl, Nat.le_of_ble_eq_true rfl⟩ hl.1 (Nat.le_of_ble_eq_true rfl) d_Mo_digit_33 ⟨Nat.le_of_ble_eq_true rfl, Nat.le_of_ble_eq_true rfl⟩) (fun v_10 u_8 H locs hp_9 hW => ?_)
          obtain ⟨hd9, hu_11⟩ := hp_9
          rw [hu_11] at hW
          refine lv_goto (tgt := 40) hx hb d_Mo_digit_36 (by decide) ?_
          have hcF : mo_c G u_5 t C (fun k9 => if k9 = 16 then g16 else M k9) (nI Ls.length) (nI ml.length) (nI Ps.length) (nI (hy_tot Ps)) (nI Ts.length) (nI wd.length) (nI pl.length) := ⟨ht0, c0, c1, c2, c3, c4, c5, c6, c7, c8, c9, c10, c11, c12, c13, c14, c15, c16, c17⟩
          exact ct_iret S hr rfl hlocks hW (⟨(Ls, Ps, Ts, ml, md, wd, pl), ⟨rfl, Or.inr ⟨⟨hnm0, h9, Int32.not_lt.mpr h17⟩, i, k, lg, rfl, rfl, hk, hlgi, Or.inr ⟨hsp, hd9⟩⟩⟩, ⟨C, (fun k9 => if k9 = 16 then g16 else M k9), hcF, hT, (mo_lc hl0 (fun k9 h2 => by show (if k9 = 16 then g16 else M k9) = M k9; rw [if_neg (by omega)])), (mo_pc hp0 (fun k9 h1 h2 => by show (if k9 = 16 then g16 else M k9) = M k9; rw [if_neg (by omega)])), (mo_tc hq0 (fun k9 h1 h2 => by show (if k9 = 16 then g16 else M k9) = M k9; rw [if_neg (by omega)])), hml, hmd, hwd, hpl⟩, hmk⟩) (Nat.le_of_ble_eq_true rfl) (Nat.le_of_ble_eq_true rfl) d_Mo_digit_40
      · refine lv_iconst (v := -1) hx hb d_Mo_digit_20 (by decide) ?_
        exact ct_iret S hr rfl hlocks hW (⟨_, ⟨rfl, Or.inl ⟨fun q => q.2.2 (Int32.not_le.mp h17), rfl⟩⟩, h, mk_rf⟩) (Nat.le_of_ble_eq_true rfl) (Nat.le_of_ble_eq_true rfl) d_Mo_digit_21

theorem hy_pls_same {P : List hy_P} {T : List hy_T} {lang : Nat} {lg : hy_L} {wd : List Int32} {a : Nat} (b : Nat) (h : ∀ k, a ≤ k → k < a + b → ¬ hy_pk P T lang lg wd k) : hy_pls P T lang lg wd (a + b) = hy_pls P T lang lg wd a := by
  induction b with
  | zero => rfl
  | succ b ih => rw [← Nat.add_assoc, hy_pls_no (h (a + b) (by omega) (by omega))]; exact ih (fun k h1 h2 => h k h1 (by omega))
theorem hy_pls_to {P : List hy_P} {T : List hy_T} {lang : Nat} {lg : hy_L} {wd : List Int32} {a b : Nat} (hab : a ≤ b) (h : ∀ k, a ≤ k → k < b → ¬ hy_pk P T lang lg wd k) : hy_pls P T lang lg wd b = hy_pls P T lang lg wd a := by
  have h9 := hy_pls_same (P := P) (T := T) (lang := lang) (lg := lg) (wd := wd) (a := a) (b - a) (fun k h1 h2 => h k h1 (by omega))
  rw [show a + (b - a) = b by omega] at h9
  exact h9

set_option maxHeartbeats 4000000 in
set_option maxRecDepth 100000 in
/-- the loop of run -/
theorem lo_Mo_run {p_ : Program} {l : Launch} {e_ : Env} {s : State} {m : MethodId} {args : Array Value} {below : List Frame} {meth : Method} {c_ : Code} {Q : State → Prop} {G : ev_G} {A : Nat → Prop} (S : CallFix p_ m c_ b_Mo_run 7 s args lw_good "HyphenRowsModel") (hE : ev_K G A s s.heap) {w : wd_M} {tg : Nat → Nat} {t i : Nat} {C : Nat → Nat} {M : Nat → Nat → Int32} {Ls : List hy_L} {Ps : List hy_P} {Ts : List hy_T} {ml wd : List Int32} {lg : hy_L} {sm wh : Int32} (hT : mo_g tg t C) (hp0 : mo_p Ps M) (hq0 : mo_t Ts M) (hrow : li_ (hy_row (hy_let lg wd)) (M 16)) (wwd : wd.length ≤ 30) (wT : Ts.length ≤ 40) (wts : ∀ t ∈ Ts, t.1 < 4 ∧ t.2.1.length ≤ 30) (wP : Ps.length ≤ 150) (wps : (∀ p ∈ Ps, p.1 < 4 ∧ p.2.2.length = p.2.1.length + 1 ∧ 1 ≤ p.2.1.length ∧ p.2.1.length ≤ 12 ∧ ∀ x ∈ p.2.2, 0 ≤ x)) (hi4 : i < 4) (hlr : lg.2.2.1 ≤ 20 ∧ lg.2.2.2.1 ≤ 20) (m2 : M 2 i = nI lg.2.2.1) (m3 : M 3 i = nI lg.2.2.2.1) {x5 : Int32} {rn : Nat} (hsm : ¬ sm = 0) (hwh : wh = 0) (ex5 : x5 = nI wd.length - nI rn) (hrn : 1 ≤ rn ∧ rn ≤ 20 ∧ lg.2.2.2.1 ≤ rn ∧ (rn = 1 ∨ rn = lg.2.2.2.1)) (kk : ∀ (M1 : Nat → Nat → Int32) (w1 : wd_M) (H : Heap) (locs : List Loc), (∀ k9, k9 ≠ 17 → M1 k9 = M k9) → li_ ((hy_pls Ps Ts i lg wd wd.length).map nI) (M1 17) → mo_c G w1 t C M1 (nI Ls.length) (nI ml.length) (nI Ps.length) (nI (hy_tot Ps)) (nI Ts.length) (nI wd.length) (nI (hy_pls Ps Ts i lg wd wd.length).length) → mk_ w w1 tg → wd_W G.1 ev_cl A w1 s.heap H locs → ∀ ls : Array Slot, lv_has ls 7 [(0, .ref t)] → W p_ l e_ (rm_ 2 0 0) s m args below meth c_ H locs 0 0 Q (F0 m 171 ls [])) :
    ∀ (fu : Nat) (k : Nat) (xi : Int32) (M1 : Nat → Nat → Int32) (w1 : wd_M) (H : Heap) (locs : List Loc) (ls : Array Slot), 41 < k + fu → 1 ≤ k ∧ lg.2.2.1 ≤ k → k ≤ 40 → xi = nI k → (∀ k9, k9 ≠ 17 → M1 k9 = M k9) → li_ ((hy_pls Ps Ts i lg wd k).map nI) (M1 17) → mo_c G w1 t C M1 (nI Ls.length) (nI ml.length) (nI Ps.length) (nI (hy_tot Ps)) (nI Ts.length) (nI wd.length) (nI (hy_pls Ps Ts i lg wd k).length) → mk_ w w1 tg → wd_W G.1 ev_cl A w1 s.heap H locs → lv_has ls 7 [(0, .ref t), (1, .int (nI i)), (2, .int sm), (3, .int wh), (5, .int x5), (6, .int xi)] → W p_ l e_ (rm_ 2 0 0) s m args below meth c_ H locs 0 0 Q (F0 m 116 ls []) := by
  have hx := S.1
  have hb := S.2.1
  have hK := hE.1
  intro fu
  induction fu with
  | zero =>
    intro k xi M1 w1 H locs ls hfu hk1 hk40 exi hM hpl hc0 hmk hW hl
    exact absurd hfu (by omega)
  | succ fu ih =>
    intro k xi M1 w1 H locs ls hfu hk1 hk40 exi hM hpl hc0 hmk hW hl
    obtain ⟨ht0, c0, c1, c2, c3, c4, c5, c6, c7, c8, c9, c10, c11, c12, c13, c14, c15, c16, c17⟩ := id hc0
    refine lv_iload hx hb d_Mo_run_116 (lv_at hl 5 rfl) ?_
    refine lv_iload hx hb d_Mo_run_118 (lv_at hl 4 rfl) ?_
    refine lv_icmp_gt (tgt := 171) hx hb d_Mo_run_120 (by decide) (fun h120 => ?_) (fun h120 => ?_)
    · have hkx : wd.length < k + rn := by have h9 := h120; rw [exi, ex5, Int32.lt_iff_toInt_lt, nI_toInt (by omega), pk_sub_toInt (by omega) (by omega)] at h9; omega
      have hex : hy_pls Ps Ts i lg wd k = hy_pls Ps Ts i lg wd wd.length := (Nat.le_total k wd.length).elim (fun q => (hy_pls_to q (fun k2 h1 h2 z => by have := z.2.2.2.1; omega)).symm) (fun q => hy_pls_to q (fun k2 h1 h2 z => by have := z.2.1; omega))
      rw [hex] at hpl hc0
      exact kk M1 w1 H locs hM hpl hc0 hmk hW ls (lv_sub hl [0] rfl)
    · have hkr : k + rn ≤ wd.length := by have h9 := Int32.not_lt.mp h120; rw [exi, ex5, Int32.le_iff_toInt_le, nI_toInt (by omega), pk_sub_toInt (by omega) (by omega)] at h9; omega
      refine lv_iload_n hx hb d_Mo_run_123 rfl (lv_at hl 2 rfl) ?_
      refine lv_if_eq (tgt := 171) hx hb d_Mo_run_124 (by decide) (fun h124 => ?_) (fun h124 => ?_)
      · exact absurd h124 hsm
      · refine lv_iload_n hx hb d_Mo_run_127 rfl (lv_at hl 3 rfl) ?_
        refine lv_if_ne (tgt := 171) hx hb d_Mo_run_128 (by decide) (fun h128 => ?_) (fun h128 => ?_)
        · exact absurd hwh h128
        · refine lv_aload_n hx hb d_Mo_run_131 rfl (lv_at hl 0 rfl) ?_
          refine lv_iload_n hx hb d_Mo_run_132 rfl (lv_at hl 1 rfl) ?_
          rw [exi] at hl
          have hll : (hy_let lg wd).length = wd.length := List.length_map _
          have hc1 : mo_c G w1 t C M1 (nI Ls.length) (nI ml.length) (nI Ps.length) (nI (hy_tot Ps)) (nI Ts.length) (nI (hy_let lg wd).length) (nI (hy_pls Ps Ts i lg wd k).length) := by rw [hll]; exact hc0
          refine lv_iload hx hb d_Mo_run_133 (lv_at hl 5 rfl) ?_
          refine ct_goi hW (ct_runV (As := [.int (nI i), .int (nI k)]) (rest := []) (q := (R_Mo, F_Mo, 25)) S hE hW (c_Mo_digitOf l G _ _ t C M1 (nI Ls.length) (nI ml.length) (nI (hy_tot Ps)) (nI (hy_pls Ps Ts i lg wd k).length) i k (hy_let lg wd) Ps Ts hc1 (mo_pc hp0 (fun k9 _ _ => hM k9 (by omega))) (mo_tc hq0 (fun k9 _ _ => hM k9 (by omega))) (by rw [hM 16 (by omega)]; exact hrow) (by omega) wT wts wP wps (by omega) (by omega)) ht0 rfl kc_Mo_digitOf kz_Mo k_Mo_113 ki_Mo_digitOf kv_Mo_digitOf kd_Mo_digitOf ⟨Nat.le_of_ble_eq_true rfl, Nat.le_of_ble_eq_true rfl⟩ hl.1 (Nat.le_of_ble_eq_true rfl) d_Mo_run_135 ⟨Nat.le_of_ble_eq_true rfl, Nat.le_of_ble_eq_true rfl⟩) (fun v_3 u_1 H locs hp_2 hW => ?_)
          obtain ⟨hdk, hu_4⟩ := hp_2
          rw [hu_4] at hW
          refine lv_iconst (v := 2) hx hb d_Mo_run_138 (by decide) ?_
          refine lv_irem hx hb d_Mo_run_139 (by decide) ?_
          refine lv_iconst (v := 1) hx hb d_Mo_run_140 (by decide) ?_
          refine lv_icmp_ne (tgt := 165) hx hb d_Mo_run_141 (by decide) (fun h141 => ?_) (fun h141 => ?_)
          · have hno : ¬ hy_pk Ps Ts i lg wd k := fun q => by obtain ⟨-, -, -, -, d, hd, ho⟩ := q; rw [hy_dig_one (by omega) hd hdk] at ho; exact h141 ho
            obtain ⟨xi2, exi2⟩ : ∃ y : Int32, y = (nI k) + 1 := ⟨_, rfl⟩
            refine lv_iinc (v := xi2) (lv' := [(6, .int xi2), (0, .ref t), (1, .int (nI i)), (2, .int sm), (3, .int wh), (5, .int x5)]) hx hb d_Mo_run_165 hl (k := 5) rfl (by rw [exi2]; rfl) (by decide) rfl (fun ls hl => ?_)
            refine lv_goto (tgt := 116) hx hb d_Mo_run_168 (by decide) ?_
            exact ih (k + 1) xi2 M1 w1 _ _ _ (by omega) (by omega) (by omega) (by rw [exi2]; exact nI_1 k) hM (by rw [hy_pls_no hno]; exact hpl) (by rw [hy_pls_no hno]; exact hc0) hmk hW (lv_sub hl [1, 2, 3, 4, 5, 0] rfl)
          · have hyes : hy_pk Ps Ts i lg wd k := ⟨by omega, by omega, by omega, by omega, v_3, hdk, h141⟩
            have hpn := hy_pls_le (P := Ps) (T := Ts) (lang := i) (lg := lg) (wd := wd) (n := k)
            refine lv_aload_n hx hb d_Mo_run_144 rfl (lv_at hl 0 rfl) ?_
            refine wd_get S i_Mo hK hW ht0 rfl 24 (by decide) k_Mo_62 rfl rfl d_Mo_run_145 ?_
            refine lv_aload_n hx hb d_Mo_run_148 rfl (lv_at hl 0 rfl) ?_
            refine wd_get S i_Mo hK hW ht0 rfl 23 (by decide) k_Mo_110 rfl rfl d_Mo_run_149 ?_
            refine lv_iload hx hb d_Mo_run_152 (lv_at hl 5 rfl) ?_
            refine wd_iast S hK hW 0 c17 rfl (vp_in_nI (by omega) (by omega)) d_Mo_run_154 (fun H locs w_5 ew_5 hW => ?_)
            have hmk := mk_up hmk c17 ew_5 (by rw [hT.2 17 (by omega)]; omega)
            have ht0 := wd_keep ew_5 (wd_ne ht0 c17 (by simp)) ht0
            have c0 := wd_keep ew_5 (tg_ne (tg := tg) (by rw [hT.2 0 (by omega), hT.2 17 (by omega)]; omega)) c0
            have c1 := wd_keep ew_5 (tg_ne (tg := tg) (by rw [hT.2 1 (by omega), hT.2 17 (by omega)]; omega)) c1
            have c2 := wd_keep ew_5 (tg_ne (tg := tg) (by rw [hT.2 2 (by omega), hT.2 17 (by omega)]; omega)) c2
            have c3 := wd_keep ew_5 (tg_ne (tg := tg) (by rw [hT.2 3 (by omega), hT.2 17 (by omega)]; omega)) c3
            have c4 := wd_keep ew_5 (tg_ne (tg := tg) (by rw [hT.2 4 (by omega), hT.2 17 (by omega)]; omega)) c4
            have c5 := wd_keep ew_5 (tg_ne (tg := tg) (by rw [hT.2 5 (by omega), hT.2 17 (by omega)]; omega)) c5
            have c6 := wd_keep ew_5 (tg_ne (tg := tg) (by rw [hT.2 6 (by omega), hT.2 17 (by omega)]; omega)) c6
            have c7 := wd_keep ew_5 (tg_ne (tg := tg) (by rw [hT.2 7 (by omega), hT.2 17 (by omega)]; omega)) c7
            have c8 := wd_keep ew_5 (tg_ne (tg := tg) (by rw [hT.2 8 (by omega), hT.2 17 (by omega)]; omega)) c8
            have c9 := wd_keep ew_5 (tg_ne (tg := tg) (by rw [hT.2 9 (by omega), hT.2 17 (by omega)]; omega)) c9
            have c10 := wd_keep ew_5 (tg_ne (tg := tg) (by rw [hT.2 10 (by omega), hT.2 17 (by omega)]; omega)) c10
            have c11 := wd_keep ew_5 (tg_ne (tg := tg) (by rw [hT.2 11 (by omega), hT.2 17 (by omega)]; omega)) c11
            have c12 := wd_keep ew_5 (tg_ne (tg := tg) (by rw [hT.2 12 (by omega), hT.2 17 (by omega)]; omega)) c12
            have c13 := wd_keep ew_5 (tg_ne (tg := tg) (by rw [hT.2 13 (by omega), hT.2 17 (by omega)]; omega)) c13
            have c14 := wd_keep ew_5 (tg_ne (tg := tg) (by rw [hT.2 14 (by omega), hT.2 17 (by omega)]; omega)) c14
            have c15 := wd_keep ew_5 (tg_ne (tg := tg) (by rw [hT.2 15 (by omega), hT.2 17 (by omega)]; omega)) c15
            have c16 := wd_keep ew_5 (tg_ne (tg := tg) (by rw [hT.2 16 (by omega), hT.2 17 (by omega)]; omega)) c16
            have c17 : w_5 (C 17) = some (.inl (G.2.1 0, 32, .inl (upd (M1 17) ((nI (hy_pls Ps Ts i lg wd k).length) : Int32).toNatClampNeg (nI k)))) := wd_here ew_5
            rw [nI_clamp (n := (hy_pls Ps Ts i lg wd k).length) (by omega)] at c17
            refine lv_aload_n hx hb d_Mo_run_155 rfl (lv_at hl 0 rfl) ?_
            refine lv_dup hx hb d_Mo_run_156 rfl ?_
            refine wd_get S i_Mo hK hW ht0 rfl 23 (by decide) k_Mo_110 rfl rfl d_Mo_run_157 ?_
            refine lv_iconst (v := 1) hx hb d_Mo_run_160 (by decide) ?_
            refine lv_iadd hx hb d_Mo_run_161 ?_
            refine lv_topi (fun nl enl => ?_)
            rw [nI_1] at enl
            refine wd_put S i_Mo t_Mo t_Mo_ok n_Mo hK hW ht0 rfl 23 (by decide) k_Mo_110 rfl rfl rfl rfl (Nat.le_of_ble_eq_true rfl) d_Mo_run_162 (fun H locs w_6 ew_6 hW => ?_)
            have hmk := mk_up hmk ht0 ew_6 (by rw [hT.1]; omega)
            have c0 := wd_keep ew_6 (wd_ne c0 ht0 (by simp)) c0
            have c1 := wd_keep ew_6 (wd_ne c1 ht0 (by simp)) c1
            have c2 := wd_keep ew_6 (wd_ne c2 ht0 (by simp)) c2
            have c3 := wd_keep ew_6 (wd_ne c3 ht0 (by simp)) c3
            have c4 := wd_keep ew_6 (wd_ne c4 ht0 (by simp)) c4
            have c5 := wd_keep ew_6 (wd_ne c5 ht0 (by simp)) c5
            have c6 := wd_keep ew_6 (wd_ne c6 ht0 (by simp)) c6
            have c7 := wd_keep ew_6 (wd_ne c7 ht0 (by simp)) c7
            have c8 := wd_keep ew_6 (wd_ne c8 ht0 (by simp)) c8
            have c9 := wd_keep ew_6 (wd_ne c9 ht0 (by simp)) c9
            have c10 := wd_keep ew_6 (wd_ne c10 ht0 (by simp)) c10
            have c11 := wd_keep ew_6 (wd_ne c11 ht0 (by simp)) c11
            have c12 := wd_keep ew_6 (wd_ne c12 ht0 (by simp)) c12
            have c13 := wd_keep ew_6 (wd_ne c13 ht0 (by simp)) c13
            have c14 := wd_keep ew_6 (wd_ne c14 ht0 (by simp)) c14
            have c15 := wd_keep ew_6 (wd_ne c15 ht0 (by simp)) c15
            have c16 := wd_keep ew_6 (wd_ne c16 ht0 (by simp)) c16
            have c17 := wd_keep ew_6 (wd_ne c17 ht0 (by simp)) c17
            have ht0 : w_6 t = some (.inr (5, [.int (nI Ls.length), .ref (C 0), .ref (C 1), .ref (C 2), .ref (C 3), .ref (C 4), .int (nI ml.length), .ref (C 5), .ref (C 6), .int (nI Ps.length), .int (nI (hy_tot Ps)), .ref (C 7), .ref (C 8), .ref (C 9), .ref (C 10), .int (nI Ts.length), .ref (C 11), .ref (C 12), .ref (C 13), .ref (C 14), .int (nI wd.length), .ref (C 15), .ref (C 16), .int nl, .ref (C 17)])) := wd_here ew_6
            rw [enl] at ht0
            obtain ⟨xi2, exi2⟩ : ∃ y : Int32, y = (nI k) + 1 := ⟨_, rfl⟩
            refine lv_iinc (v := xi2) (lv' := [(6, .int xi2), (0, .ref t), (1, .int (nI i)), (2, .int sm), (3, .int wh), (5, .int x5)]) hx hb d_Mo_run_165 hl (k := 5) rfl (by rw [exi2]; rfl) (by decide) rfl (fun ls hl => ?_)
            have hcF : mo_c G w_6 t C (fun k9 => if k9 = 17 then upd (M1 17) (hy_pls Ps Ts i lg wd k).length (nI k) else M1 k9) (nI Ls.length) (nI ml.length) (nI Ps.length) (nI (hy_tot Ps)) (nI Ts.length) (nI wd.length) (nI (hy_pls Ps Ts i lg wd (k + 1)).length) := by rw [hy_pls_yes hyes, List.length_append]; exact ⟨ht0, c0, c1, c2, c3, c4, c5, c6, c7, c8, c9, c10, c11, c12, c13, c14, c15, c16, c17⟩
            refine lv_goto (tgt := 116) hx hb d_Mo_run_168 (by decide) ?_
            exact ih (k + 1) xi2 (fun k9 => if k9 = 17 then upd (M1 17) (hy_pls Ps Ts i lg wd k).length (nI k) else M1 k9) _ _ _ _ (by omega) (by omega) (by omega) (by rw [exi2]; exact nI_1 k) (fun k2 hk2 => by show (if k2 = 17 then _ else M1 k2) = M k2; rw [if_neg hk2]; exact hM k2 hk2) (by rw [hy_pls_yes hyes, List.map_append]; show li_ _ (if 17 = 17 then _ else _); rw [if_pos rfl]; have h9 := li_put (y := nI k) hpl; rw [List.length_map] at h9; exact h9) hcF hmk hW (lv_sub hl [1, 2, 3, 4, 5, 0] rfl)

set_option maxHeartbeats 4000000 in
set_option maxRecDepth 100000 in
/-- what is left of run, from the ends on -/
theorem ta_Mo_run {p_ : Program} {l : Launch} {e_ : Env} {s : State} {m : MethodId} {args : Array Value} {below : List Frame} {meth : Method} {c_ : Code} {Q : State → Prop} {G : ev_G} {A : Nat → Prop} (S : CallFix p_ m c_ b_Mo_run 7 s args lw_good "HyphenRowsModel") (hE : ev_K G A s s.heap) {w : wd_M} {tg : Nat → Nat} {t i : Nat} {C : Nat → Nat} {M : Nat → Nat → Int32} {Ls : List hy_L} {Ps : List hy_P} {Ts : List hy_T} {ml wd : List Int32} {lg : hy_L} {sm wh : Int32} (hT : mo_g tg t C) (hp0 : mo_p Ps M) (hq0 : mo_t Ts M) (hrow : li_ (hy_row (hy_let lg wd)) (M 16)) (wwd : wd.length ≤ 30) (wT : Ts.length ≤ 40) (wts : ∀ t ∈ Ts, t.1 < 4 ∧ t.2.1.length ≤ 30) (wP : Ps.length ≤ 150) (wps : (∀ p ∈ Ps, p.1 < 4 ∧ p.2.2.length = p.2.1.length + 1 ∧ 1 ≤ p.2.1.length ∧ p.2.1.length ≤ 12 ∧ ∀ x ∈ p.2.2, 0 ≤ x)) (hi4 : i < 4) (hlr : lg.2.2.1 ≤ 20 ∧ lg.2.2.2.1 ≤ 20) (m2 : M 2 i = nI lg.2.2.1) (m3 : M 3 i = nI lg.2.2.2.1) (kk : ∀ (PL : List Nat) (M1 : Nat → Nat → Int32) (w1 : wd_M) (H : Heap) (locs : List Loc), (((¬ wh = 0 ∨ sm = 0) ∧ PL = []) ∨ (¬ (¬ wh = 0 ∨ sm = 0) ∧ PL = (hy_pls Ps Ts i lg wd wd.length))) → (∀ k9, k9 ≠ 17 → M1 k9 = M k9) → li_ (PL.map nI) (M1 17) → mo_c G w1 t C M1 (nI Ls.length) (nI ml.length) (nI Ps.length) (nI (hy_tot Ps)) (nI Ts.length) (nI wd.length) (nI PL.length) → mk_ w w1 tg → wd_W G.1 ev_cl A w1 s.heap H locs → ∀ ls : Array Slot, lv_has ls 7 [(0, .ref t)] → W p_ l e_ (rm_ 2 0 0) s m args below meth c_ H locs 0 0 Q (F0 m 171 ls [])) :
    ∀ (M1 : Nat → Nat → Int32) (w1 : wd_M) (H : Heap) (locs : List Loc) (ls : Array Slot), (∀ k9, k9 ≠ 17 → M1 k9 = M k9) → li_ (([] : List Nat).map nI) (M1 17) → mo_c G w1 t C M1 (nI Ls.length) (nI ml.length) (nI Ps.length) (nI (hy_tot Ps)) (nI Ts.length) (nI wd.length) (nI ([] : List Nat).length) → mk_ w w1 tg → wd_W G.1 ev_cl A w1 s.heap H locs → lv_has ls 7 [(0, .ref t), (1, .int (nI i)), (2, .int sm), (3, .int wh)] → W p_ l e_ (rm_ 2 0 0) s m args below meth c_ H locs 0 0 Q (F0 m 63 ls []) := by
  have hx := S.1
  have hb := S.2.1
  have hK := hE.1
  intro M1 w1 H locs ls hM hpl hc0 hmk hW hl
  obtain ⟨ht0, c0, c1, c2, c3, c4, c5, c6, c7, c8, c9, c10, c11, c12, c13, c14, c15, c16, c17⟩ := id hc0
  refine lv_aload_n hx hb d_Mo_run_63 rfl (lv_at hl 0 rfl) ?_
  refine wd_get S i_Mo hK hW ht0 rfl 3 (by decide) k_Mo_17 rfl rfl d_Mo_run_64 ?_
  refine lv_iload_n hx hb d_Mo_run_67 rfl (lv_at hl 1 rfl) ?_
  refine wd_iald S hK hW 0 c2 rfl (vp_in_nI (by omega) (by omega)) d_Mo_run_68 ?_
  rw [nI_clamp (by omega), hM 2 (by omega), m2]
  refine lv_iconst (v := 1) hx hb d_Mo_run_69 (by decide) ?_
  refine lv_icmp_ge (tgt := 77) hx hb d_Mo_run_70 (by decide) (fun h70 => ?_) (fun h70 => ?_)
  · have hl9 : 1 ≤ lg.2.2.1 := (nI_leI (a := 1) (by omega) (by omega)).mp h70
    refine lv_aload_n hx hb d_Mo_run_77 rfl (lv_at hl 0 rfl) ?_
    refine wd_get S i_Mo hK hW ht0 rfl 3 (by decide) k_Mo_17 rfl rfl d_Mo_run_78 ?_
    refine lv_iload_n hx hb d_Mo_run_81 rfl (lv_at hl 1 rfl) ?_
    refine wd_iald S hK hW 0 c2 rfl (vp_in_nI (by omega) (by omega)) d_Mo_run_82 ?_
    rw [nI_clamp (by omega), hM 2 (by omega), m2]
    refine lv_topi (fun x4 ex4 => ?_)
    refine lv_istore (lv' := [(4, .int x4), (0, .ref t), (1, .int (nI i)), (2, .int sm), (3, .int wh)]) hx hb d_Mo_run_83 hl (by decide) rfl (fun ls hl => ?_)
    refine lv_aload_n hx hb d_Mo_run_85 rfl (lv_at hl 1 rfl) ?_
    refine wd_get S i_Mo hK hW ht0 rfl 20 (by decide) k_Mo_94 rfl rfl d_Mo_run_86 ?_
    refine lv_aload_n hx hb d_Mo_run_89 rfl (lv_at hl 1 rfl) ?_
    refine wd_get S i_Mo hK hW ht0 rfl 4 (by decide) k_Mo_20 rfl rfl d_Mo_run_90 ?_
    refine lv_iload_n hx hb d_Mo_run_93 rfl (lv_at hl 2 rfl) ?_
    refine wd_iald S hK hW 0 c3 rfl (vp_in_nI (by omega) (by omega)) d_Mo_run_94 ?_
    rw [nI_clamp (by omega), hM 3 (by omega), m3]
    refine lv_iconst (v := 1) hx hb d_Mo_run_95 (by decide) ?_
    refine lv_icmp_ge (tgt := 103) hx hb d_Mo_run_96 (by decide) (fun h96 => ?_) (fun h96 => ?_)
    · have hr9 : 1 ≤ lg.2.2.2.1 := (nI_leI (a := 1) (by omega) (by omega)).mp h96
      refine lv_aload_n hx hb d_Mo_run_103 rfl (lv_at hl 1 rfl) ?_
      refine wd_get S i_Mo hK hW ht0 rfl 4 (by decide) k_Mo_20 rfl rfl d_Mo_run_104 ?_
      refine lv_iload_n hx hb d_Mo_run_107 rfl (lv_at hl 2 rfl) ?_
      refine wd_iald S hK hW 0 c3 rfl (vp_in_nI (by omega) (by omega)) d_Mo_run_108 ?_
      rw [nI_clamp (by omega), hM 3 (by omega), m3]
      refine lv_isub hx hb d_Mo_run_109 ?_
      refine lv_topi (fun x5 ex5 => ?_)
      refine lv_istore (lv' := [(5, .int x5), (4, .int x4), (0, .ref t), (1, .int (nI i)), (2, .int sm), (3, .int wh)]) hx hb d_Mo_run_110 hl (by decide) rfl (fun ls hl => ?_)
      refine lv_iload hx hb d_Mo_run_112 (lv_at hl 1 rfl) ?_
      refine lv_istore (lv' := [(6, .int x4), (5, .int x5), (4, .int x4), (0, .ref t), (1, .int (nI i)), (2, .int sm), (3, .int wh)]) hx hb d_Mo_run_114 hl (by decide) rfl (fun ls hl => ?_)
      rcases (show (¬ wh = 0 ∨ sm = 0) ∨ ¬ (¬ wh = 0 ∨ sm = 0) from Classical.em _) with hfl | hfl
      · refine lv_iload hx hb d_Mo_run_116 (lv_at hl 0 rfl) ?_
        refine lv_iload hx hb d_Mo_run_118 (lv_at hl 1 rfl) ?_
        refine lv_icmp_gt (tgt := 171) hx hb d_Mo_run_120 (by decide) (fun h120 => ?_) (fun h120 => ?_)
        · exact kk [] M1 w1 _ _ (Or.inl ⟨hfl, rfl⟩) hM hpl hc0 hmk hW ls (lv_sub hl [3] rfl)
        · refine lv_iload_n hx hb d_Mo_run_123 rfl (lv_at hl 5 rfl) ?_
          refine lv_if_eq (tgt := 171) hx hb d_Mo_run_124 (by decide) (fun h124 => ?_) (fun h124 => ?_)
          · exact kk [] M1 w1 _ _ (Or.inl ⟨hfl, rfl⟩) hM hpl hc0 hmk hW ls (lv_sub hl [3] rfl)
          · refine lv_iload_n hx hb d_Mo_run_127 rfl (lv_at hl 6 rfl) ?_
            refine lv_if_ne (tgt := 171) hx hb d_Mo_run_128 (by decide) (fun h128 => ?_) (fun h128 => ?_)
            · exact kk [] M1 w1 _ _ (Or.inl ⟨hfl, rfl⟩) hM hpl hc0 hmk hW ls (lv_sub hl [3] rfl)
            · exact absurd hfl (fun q => q.elim (fun z => z h128) h124)
      · have hwh : wh = 0 := Classical.byContradiction (fun q => hfl (Or.inl q))
        have hp1 : (hy_pls Ps Ts i lg wd lg.2.2.1) = [] := hy_pls_to (a := 0) (Nat.zero_le _) (fun k2 h1 h2 z => by have := z.1; have := z.2.2.1; omega)
        exact lo_Mo_run (rn := lg.2.2.2.1) S hE hT hp0 hq0 hrow wwd wT wts wP wps hi4 hlr m2 m3 (fun q => hfl (Or.inr q)) hwh ex5 ⟨hr9, hlr.2, Nat.le_refl _, Or.inr rfl⟩ (fun M1 w1 H locs hM hpl hc0 hmk hW ls hl => kk _ M1 w1 H locs (Or.inr ⟨hfl, rfl⟩) hM hpl hc0 hmk hW ls hl) 41 lg.2.2.1 _ M1 w1 _ _ _ (by omega) (by omega) (by omega) ex4 hM (by rw [hp1]; exact li_nil) (by rw [hp1]; exact hc0) hmk hW (lv_sub hl [3, 4, 5, 6, 1, 0] rfl)
    · have hr9 : lg.2.2.2.1 ≤ 1 := Nat.le_of_lt (Nat.lt_of_not_le (fun q => h96 (nI_le (a := 1) q (by omega))))
      refine lv_iconst (v := 1) hx hb d_Mo_run_99 (by decide) ?_
      refine lv_goto (tgt := 109) hx hb d_Mo_run_100 (by decide) ?_
      refine lv_isub hx hb d_Mo_run_109 ?_
      refine lv_topi (fun x5 ex5 => ?_)
      refine lv_istore (lv' := [(5, .int x5), (4, .int x4), (0, .ref t), (1, .int (nI i)), (2, .int sm), (3, .int wh)]) hx hb d_Mo_run_110 hl (by decide) rfl (fun ls hl => ?_)
      refine lv_iload hx hb d_Mo_run_112 (lv_at hl 1 rfl) ?_
      refine lv_istore (lv' := [(6, .int x4), (5, .int x5), (4, .int x4), (0, .ref t), (1, .int (nI i)), (2, .int sm), (3, .int wh)]) hx hb d_Mo_run_114 hl (by decide) rfl (fun ls hl => ?_)
      rcases (show (¬ wh = 0 ∨ sm = 0) ∨ ¬ (¬ wh = 0 ∨ sm = 0) from Classical.em _) with hfl | hfl
      · refine lv_iload hx hb d_Mo_run_116 (lv_at hl 0 rfl) ?_
        refine lv_iload hx hb d_Mo_run_118 (lv_at hl 1 rfl) ?_
        refine lv_icmp_gt (tgt := 171) hx hb d_Mo_run_120 (by decide) (fun h120 => ?_) (fun h120 => ?_)
        · exact kk [] M1 w1 _ _ (Or.inl ⟨hfl, rfl⟩) hM hpl hc0 hmk hW ls (lv_sub hl [3] rfl)
        · refine lv_iload_n hx hb d_Mo_run_123 rfl (lv_at hl 5 rfl) ?_
          refine lv_if_eq (tgt := 171) hx hb d_Mo_run_124 (by decide) (fun h124 => ?_) (fun h124 => ?_)
          · exact kk [] M1 w1 _ _ (Or.inl ⟨hfl, rfl⟩) hM hpl hc0 hmk hW ls (lv_sub hl [3] rfl)
          · refine lv_iload_n hx hb d_Mo_run_127 rfl (lv_at hl 6 rfl) ?_
            refine lv_if_ne (tgt := 171) hx hb d_Mo_run_128 (by decide) (fun h128 => ?_) (fun h128 => ?_)
            · exact kk [] M1 w1 _ _ (Or.inl ⟨hfl, rfl⟩) hM hpl hc0 hmk hW ls (lv_sub hl [3] rfl)
            · exact absurd hfl (fun q => q.elim (fun z => z h128) h124)
      · have hwh : wh = 0 := Classical.byContradiction (fun q => hfl (Or.inl q))
        have hp1 : (hy_pls Ps Ts i lg wd lg.2.2.1) = [] := hy_pls_to (a := 0) (Nat.zero_le _) (fun k2 h1 h2 z => by have := z.1; have := z.2.2.1; omega)
        exact lo_Mo_run (rn := 1) S hE hT hp0 hq0 hrow wwd wT wts wP wps hi4 hlr m2 m3 (fun q => hfl (Or.inr q)) hwh ex5 ⟨by omega, by omega, hr9, Or.inl rfl⟩ (fun M1 w1 H locs hM hpl hc0 hmk hW ls hl => kk _ M1 w1 H locs (Or.inr ⟨hfl, rfl⟩) hM hpl hc0 hmk hW ls hl) 41 lg.2.2.1 _ M1 w1 _ _ _ (by omega) (by omega) (by omega) ex4 hM (by rw [hp1]; exact li_nil) (by rw [hp1]; exact hc0) hmk hW (lv_sub hl [3, 4, 5, 6, 1, 0] rfl)
  · have hl9 : lg.2.2.1 ≤ 1 := Nat.le_of_lt (Nat.lt_of_not_le (fun q => h70 (nI_le (a := 1) q (by omega))))
    refine lv_iconst (v := 1) hx hb d_Mo_run_73 (by decide) ?_
    refine lv_goto (tgt := 83) hx hb d_Mo_run_74 (by decide) ?_
    refine lv_topi (fun x4 ex4 => ?_)
    refine lv_istore (lv' := [(4, .int x4), (0, .ref t), (1, .int (nI i)), (2, .int sm), (3, .int wh)]) hx hb d_Mo_run_83 hl (by decide) rfl (fun ls hl => ?_)
    refine lv_aload_n hx hb d_Mo_run_85 rfl (lv_at hl 1 rfl) ?_
    refine wd_get S i_Mo hK hW ht0 rfl 20 (by decide) k_Mo_94 rfl rfl d_Mo_run_86 ?_
    refine lv_aload_n hx hb d_Mo_run_89 rfl (lv_at hl 1 rfl) ?_
    refine wd_get S i_Mo hK hW ht0 rfl 4 (by decide) k_Mo_20 rfl rfl d_Mo_run_90 ?_
    refine lv_iload_n hx hb d_Mo_run_93 rfl (lv_at hl 2 rfl) ?_
    refine wd_iald S hK hW 0 c3 rfl (vp_in_nI (by omega) (by omega)) d_Mo_run_94 ?_
    rw [nI_clamp (by omega), hM 3 (by omega), m3]
    refine lv_iconst (v := 1) hx hb d_Mo_run_95 (by decide) ?_
    refine lv_icmp_ge (tgt := 103) hx hb d_Mo_run_96 (by decide) (fun h96 => ?_) (fun h96 => ?_)
    · have hr9 : 1 ≤ lg.2.2.2.1 := (nI_leI (a := 1) (by omega) (by omega)).mp h96
      refine lv_aload_n hx hb d_Mo_run_103 rfl (lv_at hl 1 rfl) ?_
      refine wd_get S i_Mo hK hW ht0 rfl 4 (by decide) k_Mo_20 rfl rfl d_Mo_run_104 ?_
      refine lv_iload_n hx hb d_Mo_run_107 rfl (lv_at hl 2 rfl) ?_
      refine wd_iald S hK hW 0 c3 rfl (vp_in_nI (by omega) (by omega)) d_Mo_run_108 ?_
      rw [nI_clamp (by omega), hM 3 (by omega), m3]
      refine lv_isub hx hb d_Mo_run_109 ?_
      refine lv_topi (fun x5 ex5 => ?_)
      refine lv_istore (lv' := [(5, .int x5), (4, .int x4), (0, .ref t), (1, .int (nI i)), (2, .int sm), (3, .int wh)]) hx hb d_Mo_run_110 hl (by decide) rfl (fun ls hl => ?_)
      refine lv_iload hx hb d_Mo_run_112 (lv_at hl 1 rfl) ?_
      refine lv_istore (lv' := [(6, .int x4), (5, .int x5), (4, .int x4), (0, .ref t), (1, .int (nI i)), (2, .int sm), (3, .int wh)]) hx hb d_Mo_run_114 hl (by decide) rfl (fun ls hl => ?_)
      rcases (show (¬ wh = 0 ∨ sm = 0) ∨ ¬ (¬ wh = 0 ∨ sm = 0) from Classical.em _) with hfl | hfl
      · refine lv_iload hx hb d_Mo_run_116 (lv_at hl 0 rfl) ?_
        refine lv_iload hx hb d_Mo_run_118 (lv_at hl 1 rfl) ?_
        refine lv_icmp_gt (tgt := 171) hx hb d_Mo_run_120 (by decide) (fun h120 => ?_) (fun h120 => ?_)
        · exact kk [] M1 w1 _ _ (Or.inl ⟨hfl, rfl⟩) hM hpl hc0 hmk hW ls (lv_sub hl [3] rfl)
        · refine lv_iload_n hx hb d_Mo_run_123 rfl (lv_at hl 5 rfl) ?_
          refine lv_if_eq (tgt := 171) hx hb d_Mo_run_124 (by decide) (fun h124 => ?_) (fun h124 => ?_)
          · exact kk [] M1 w1 _ _ (Or.inl ⟨hfl, rfl⟩) hM hpl hc0 hmk hW ls (lv_sub hl [3] rfl)
          · refine lv_iload_n hx hb d_Mo_run_127 rfl (lv_at hl 6 rfl) ?_
            refine lv_if_ne (tgt := 171) hx hb d_Mo_run_128 (by decide) (fun h128 => ?_) (fun h128 => ?_)
            · exact kk [] M1 w1 _ _ (Or.inl ⟨hfl, rfl⟩) hM hpl hc0 hmk hW ls (lv_sub hl [3] rfl)
            · exact absurd hfl (fun q => q.elim (fun z => z h128) h124)
      · have hwh : wh = 0 := Classical.byContradiction (fun q => hfl (Or.inl q))
        have hp1 : (hy_pls Ps Ts i lg wd 1) = [] := hy_pls_to (a := 0) (Nat.zero_le _) (fun k2 h1 h2 z => by have := z.1; have := z.2.2.1; omega)
        exact lo_Mo_run (rn := lg.2.2.2.1) S hE hT hp0 hq0 hrow wwd wT wts wP wps hi4 hlr m2 m3 (fun q => hfl (Or.inr q)) hwh ex5 ⟨hr9, hlr.2, Nat.le_refl _, Or.inr rfl⟩ (fun M1 w1 H locs hM hpl hc0 hmk hW ls hl => kk _ M1 w1 H locs (Or.inr ⟨hfl, rfl⟩) hM hpl hc0 hmk hW ls hl) 41 1 _ M1 w1 _ _ _ (by omega) (by omega) (by omega) ex4 hM (by rw [hp1]; exact li_nil) (by rw [hp1]; exact hc0) hmk hW (lv_sub hl [3, 4, 5, 6, 1, 0] rfl)
    · have hr9 : lg.2.2.2.1 ≤ 1 := Nat.le_of_lt (Nat.lt_of_not_le (fun q => h96 (nI_le (a := 1) q (by omega))))
      refine lv_iconst (v := 1) hx hb d_Mo_run_99 (by decide) ?_
      refine lv_goto (tgt := 109) hx hb d_Mo_run_100 (by decide) ?_
      refine lv_isub hx hb d_Mo_run_109 ?_
      refine lv_topi (fun x5 ex5 => ?_)
      refine lv_istore (lv' := [(5, .int x5), (4, .int x4), (0, .ref t), (1, .int (nI i)), (2, .int sm), (3, .int wh)]) hx hb d_Mo_run_110 hl (by decide) rfl (fun ls hl => ?_)
      refine lv_iload hx hb d_Mo_run_112 (lv_at hl 1 rfl) ?_
      refine lv_istore (lv' := [(6, .int x4), (5, .int x5), (4, .int x4), (0, .ref t), (1, .int (nI i)), (2, .int sm), (3, .int wh)]) hx hb d_Mo_run_114 hl (by decide) rfl (fun ls hl => ?_)
      rcases (show (¬ wh = 0 ∨ sm = 0) ∨ ¬ (¬ wh = 0 ∨ sm = 0) from Classical.em _) with hfl | hfl
      · refine lv_iload hx hb d_Mo_run_116 (lv_at hl 0 rfl) ?_
        refine lv_iload hx hb d_Mo_run_118 (lv_at hl 1 rfl) ?_
        refine lv_icmp_gt (tgt := 171) hx hb d_Mo_run_120 (by decide) (fun h120 => ?_) (fun h120 => ?_)
        · exact kk [] M1 w1 _ _ (Or.inl ⟨hfl, rfl⟩) hM hpl hc0 hmk hW ls (lv_sub hl [3] rfl)
        · refine lv_iload_n hx hb d_Mo_run_123 rfl (lv_at hl 5 rfl) ?_
          refine lv_if_eq (tgt := 171) hx hb d_Mo_run_124 (by decide) (fun h124 => ?_) (fun h124 => ?_)
          · exact kk [] M1 w1 _ _ (Or.inl ⟨hfl, rfl⟩) hM hpl hc0 hmk hW ls (lv_sub hl [3] rfl)
          · refine lv_iload_n hx hb d_Mo_run_127 rfl (lv_at hl 6 rfl) ?_
            refine lv_if_ne (tgt := 171) hx hb d_Mo_run_128 (by decide) (fun h128 => ?_) (fun h128 => ?_)
            · exact kk [] M1 w1 _ _ (Or.inl ⟨hfl, rfl⟩) hM hpl hc0 hmk hW ls (lv_sub hl [3] rfl)
            · exact absurd hfl (fun q => q.elim (fun z => z h128) h124)
      · have hwh : wh = 0 := Classical.byContradiction (fun q => hfl (Or.inl q))
        have hp1 : (hy_pls Ps Ts i lg wd 1) = [] := hy_pls_to (a := 0) (Nat.zero_le _) (fun k2 h1 h2 z => by have := z.1; have := z.2.2.1; omega)
        exact lo_Mo_run (rn := 1) S hE hT hp0 hq0 hrow wwd wT wts wP wps hi4 hlr m2 m3 (fun q => hfl (Or.inr q)) hwh ex5 ⟨by omega, by omega, hr9, Or.inl rfl⟩ (fun M1 w1 H locs hM hpl hc0 hmk hW ls hl => kk _ M1 w1 H locs (Or.inr ⟨hfl, rfl⟩) hM hpl hc0 hmk hW ls hl) 41 1 _ M1 w1 _ _ _ (by omega) (by omega) (by omega) ex4 hM (by rw [hp1]; exact li_nil) (by rw [hp1]; exact hc0) hmk hW (lv_sub hl [3, 4, 5, 6, 1, 0] rfl)

set_option maxHeartbeats 4000000 in
set_option maxRecDepth 100000 in
/-- the reference: run -/
theorem c_Mo_run (l : Launch) (G : ev_G) (w : wd_M) (sz : Nat) (tg : Nat → Nat) (t : Nat) (Ls : List hy_L) (Ps : List hy_P) (Ts : List hy_T) (ml md wd : List Int32) (pl : List Nat) (x : Int32) (h : mo_ G w tg t Ls Ps Ts ml md wd pl) (hwf : hy_wf Ls Ps Ts ml md wd pl) : ct_i l y_Mo_run b_Mo_run 7 (some FieldType.int) (rm_ 2 0 0) G w sz [.ref t, .int x] (mq_ G w tg t (sp_run x (Ls, Ps, Ts, ml, md, wd, pl))) := by
  refine ct_enter (by decide +kernel) (Nat.le_of_ble_eq_true rfl) ?_
  intro p_ e_ s m below meth c_ hsz S hr hlocks hname hE hW ls hl
  have S : CallFix p_ m c_ b_Mo_run 7 s _ lw_good "HyphenRowsModel" := S
  have hx := S.1
  have hb := S.2.1
  have hK := hE.1
  have hl : lv_has ls 7 [(0, .ref t), (1, .int x)] := hl
  obtain ⟨C, M, hc, hT, hl0, hp0, hq0, hml, hmd, hwd, hpl⟩ := id h
  obtain ⟨ht0, c0, c1, c2, c3, c4, c5, c6, c7, c8, c9, c10, c11, c12, c13, c14, c15, c16, c17⟩ := id hc
  obtain ⟨wL, wP, wT, wm, wml, wwd, wpl, wtot, wmx, wdx, wws, wplx, wlg, wps, wts⟩ := id hwf
  have hmk : mk_ w w tg := mk_rf
  refine lv_aload_n hx hb d_Mo_run_0 rfl (lv_at hl 0 rfl) ?_
  refine lv_iload_n hx hb d_Mo_run_1 rfl (lv_at hl 1 rfl) ?_
  refine ct_goi hW (ct_runV (As := [.int x]) (rest := []) (q := (R_Mo, F_Mo, 25)) S hE hW (c_Mo_isLanguage l G _ _ t C M (nI ml.length) (nI Ps.length) (nI (hy_tot Ps)) (nI Ts.length) (nI wd.length) (nI pl.length) Ls.length x hc) ht0 rfl kc_Mo_isLanguage kz_Mo k_Mo_69 ki_Mo_isLanguage kv_Mo_isLanguage kd_Mo_isLanguage ⟨Nat.le_of_ble_eq_true rfl, Nat.le_of_ble_eq_true rfl⟩ hl.1 (Nat.le_of_ble_eq_true rfl) d_Mo_run_2 ⟨Nat.le_of_ble_eq_true rfl, Nat.le_of_ble_eq_true rfl⟩) (fun v_3 u_1 H locs hp_2 hW => ?_)
  obtain ⟨hv, hu_4⟩ := hp_2
  rw [hu_4] at hW
  refine lv_if_ne (tgt := 10) hx hb d_Mo_run_5 (by decide) (fun h5 => ?_) (fun h5 => ?_)
  · have hnm0 := bl_t hv h5
    obtain ⟨i, hil, rfl⟩ := nm_of hnm0 (by omega)
    have hlgi : Ls[i]? = some Ls[i] := List.getElem?_eq_getElem hil
    generalize Ls[i] = lg at hlgi
    obtain ⟨m01, m2, m3, m4⟩ := hl0.1 i lg hlgi
    have hlgm := wlg lg (List.mem_of_getElem? hlgi)
    refine lv_aload_n hx hb d_Mo_run_10 rfl (lv_at hl 0 rfl) ?_
    refine lv_iconst (v := 0) hx hb d_Mo_run_11 (by decide) ?_
    refine wd_put S i_Mo t_Mo t_Mo_ok n_Mo hK hW ht0 rfl 23 (by decide) k_Mo_110 rfl rfl rfl rfl (Nat.le_of_ble_eq_true rfl) d_Mo_run_12 (fun H locs w_5 ew_5 hW => ?_)
    have hmk := mk_up hmk ht0 ew_5 (by rw [hT.1]; omega)
    have c0 := wd_keep ew_5 (wd_ne c0 ht0 (by simp)) c0
    have c1 := wd_keep ew_5 (wd_ne c1 ht0 (by simp)) c1
    have c2 := wd_keep ew_5 (wd_ne c2 ht0 (by simp)) c2
    have c3 := wd_keep ew_5 (wd_ne c3 ht0 (by simp)) c3
    have c4 := wd_keep ew_5 (wd_ne c4 ht0 (by simp)) c4
    have c5 := wd_keep ew_5 (wd_ne c5 ht0 (by simp)) c5
    have c6 := wd_keep ew_5 (wd_ne c6 ht0 (by simp)) c6
    have c7 := wd_keep ew_5 (wd_ne c7 ht0 (by simp)) c7
    have c8 := wd_keep ew_5 (wd_ne c8 ht0 (by simp)) c8
    have c9 := wd_keep ew_5 (wd_ne c9 ht0 (by simp)) c9
    have c10 := wd_keep ew_5 (wd_ne c10 ht0 (by simp)) c10
    have c11 := wd_keep ew_5 (wd_ne c11 ht0 (by simp)) c11
    have c12 := wd_keep ew_5 (wd_ne c12 ht0 (by simp)) c12
    have c13 := wd_keep ew_5 (wd_ne c13 ht0 (by simp)) c13
    have c14 := wd_keep ew_5 (wd_ne c14 ht0 (by simp)) c14
    have c15 := wd_keep ew_5 (wd_ne c15 ht0 (by simp)) c15
    have c16 := wd_keep ew_5 (wd_ne c16 ht0 (by simp)) c16
    have c17 := wd_keep ew_5 (wd_ne c17 ht0 (by simp)) c17
    have ht0 : w_5 t = some (.inr (5, [.int (nI Ls.length), .ref (C 0), .ref (C 1), .ref (C 2), .ref (C 3), .ref (C 4), .int (nI ml.length), .ref (C 5), .ref (C 6), .int (nI Ps.length), .int (nI (hy_tot Ps)), .ref (C 7), .ref (C 8), .ref (C 9), .ref (C 10), .int (nI Ts.length), .ref (C 11), .ref (C 12), .ref (C 13), .ref (C 14), .int (nI wd.length), .ref (C 15), .ref (C 16), .int 0, .ref (C 17)])) := wd_here ew_5
    have hc1 : mo_c G w_5 t C M (nI Ls.length) (nI ml.length) (nI Ps.length) (nI (hy_tot Ps)) (nI Ts.length) (nI wd.length) 0 := ⟨ht0, c0, c1, c2, c3, c4, c5, c6, c7, c8, c9, c10, c11, c12, c13, c14, c15, c16, c17⟩
    refine lv_aload_n hx hb d_Mo_run_15 rfl (lv_at hl 0 rfl) ?_
    refine lv_iload_n hx hb d_Mo_run_16 rfl (lv_at hl 1 rfl) ?_
    refine ct_goi hW (ct_runV (As := [.int (nI i)]) (rest := []) (q := (R_Mo, F_Mo, 25)) S hE hW (c_Mo_spell l G _ _ t C M (nI Ls.length) (nI ml.length) (nI Ps.length) (nI (hy_tot Ps)) (nI Ts.length) 0 tg i lg wd hc1 hT (fun s hs => (m01 s hs).1) (by omega) hlgm.1 hwd wwd wws) ht0 rfl kc_Mo_spell kz_Mo k_Mo_100 ki_Mo_spell kv_Mo_spell kd_Mo_spell ⟨Nat.le_of_ble_eq_true rfl, Nat.le_of_ble_eq_true rfl⟩ hl.1 (Nat.le_of_ble_eq_true rfl) d_Mo_run_17 ⟨Nat.le_of_ble_eq_true rfl, Nat.le_of_ble_eq_true rfl⟩) (fun v_8 u_6 H locs hp_7 hW => ?_)
    obtain ⟨hv6, g16, eu, hrow⟩ := hp_7
    have hmk := mk_up hmk c16 eu (by rw [hT.2 16 (by omega)]; omega)
    have c0 := wd_keep eu (tg_ne (tg := tg) (by rw [hT.2 0 (by omega), hT.2 16 (by omega)]; omega)) c0
    have c1 := wd_keep eu (tg_ne (tg := tg) (by rw [hT.2 1 (by omega), hT.2 16 (by omega)]; omega)) c1
    have c2 := wd_keep eu (tg_ne (tg := tg) (by rw [hT.2 2 (by omega), hT.2 16 (by omega)]; omega)) c2
    have c3 := wd_keep eu (tg_ne (tg := tg) (by rw [hT.2 3 (by omega), hT.2 16 (by omega)]; omega)) c3
    have c4 := wd_keep eu (tg_ne (tg := tg) (by rw [hT.2 4 (by omega), hT.2 16 (by omega)]; omega)) c4
    have c5 := wd_keep eu (tg_ne (tg := tg) (by rw [hT.2 5 (by omega), hT.2 16 (by omega)]; omega)) c5
    have c6 := wd_keep eu (tg_ne (tg := tg) (by rw [hT.2 6 (by omega), hT.2 16 (by omega)]; omega)) c6
    have c7 := wd_keep eu (tg_ne (tg := tg) (by rw [hT.2 7 (by omega), hT.2 16 (by omega)]; omega)) c7
    have c8 := wd_keep eu (tg_ne (tg := tg) (by rw [hT.2 8 (by omega), hT.2 16 (by omega)]; omega)) c8
    have c9 := wd_keep eu (tg_ne (tg := tg) (by rw [hT.2 9 (by omega), hT.2 16 (by omega)]; omega)) c9
    have c10 := wd_keep eu (tg_ne (tg := tg) (by rw [hT.2 10 (by omega), hT.2 16 (by omega)]; omega)) c10
    have c11 := wd_keep eu (tg_ne (tg := tg) (by rw [hT.2 11 (by omega), hT.2 16 (by omega)]; omega)) c11
    have c12 := wd_keep eu (tg_ne (tg := tg) (by rw [hT.2 12 (by omega), hT.2 16 (by omega)]; omega)) c12
    have c13 := wd_keep eu (tg_ne (tg := tg) (by rw [hT.2 13 (by omega), hT.2 16 (by omega)]; omega)) c13
    have c14 := wd_keep eu (tg_ne (tg := tg) (by rw [hT.2 14 (by omega), hT.2 16 (by omega)]; omega)) c14
    have c15 := wd_keep eu (tg_ne (tg := tg) (by rw [hT.2 15 (by omega), hT.2 16 (by omega)]; omega)) c15
    have c17 := wd_keep eu (tg_ne (tg := tg) (by rw [hT.2 17 (by omega), hT.2 16 (by omega)]; omega)) c17
    have ht0 := wd_keep eu (wd_ne ht0 c16 (by simp)) ht0
    have c16 := wd_here eu
    refine lv_istore_n (lv' := [(2, .int v_8), (0, .ref t), (1, .int (nI i))]) hx hb d_Mo_run_20 rfl hl (by decide) rfl (fun ls hl => ?_)
    have hcT : mo_c G u_6 t C (fun k9 => if k9 = 16 then g16 else M k9) (nI Ls.length) (nI ml.length) (nI Ps.length) (nI (hy_tot Ps)) (nI Ts.length) (nI wd.length) (nI ([] : List Nat).length) := ⟨ht0, c0, c1, c2, c3, c4, c5, c6, c7, c8, c9, c10, c11, c12, c13, c14, c15, c16, c17⟩
    refine lv_aload_n hx hb d_Mo_run_21 rfl (lv_at hl 1 rfl) ?_
    refine wd_get S i_Mo hK hW ht0 rfl 20 (by decide) k_Mo_94 rfl rfl d_Mo_run_22 ?_
    refine lv_if_le (tgt := 61) hx hb d_Mo_run_25 (by decide) (fun h25 => ?_) (fun h25 => ?_)
    · have hwhl : bl_ 0 (hy_wh lg wd) := Or.inr ⟨rfl, fun q => by obtain ⟨-, s9, h9, -⟩ := q; have h8 := (List.getElem?_eq_some_iff.mp h9).1; exact nI_nle (by omega) (by omega) h25⟩
      refine lv_iconst (v := 0) hx hb d_Mo_run_61 (by decide) ?_
      refine lv_istore_n (lv' := [(3, .int 0), (2, .int v_8), (0, .ref t), (1, .int (nI i))]) hx hb d_Mo_run_62 rfl hl (by decide) rfl (fun ls hl => ?_)
      refine ta_Mo_run (sm := v_8) (wh := 0) (M := (fun k9 => if k9 = 16 then g16 else M k9)) (lg := lg) (tg := tg) (w := w) S hE hT hp0 hq0 hrow wwd wT wts wP wps (by omega) hlgm.2 m2 m3 (fun PL M9 w9 H locs hfin hM hpl9 hc9 hmk hW ls hl => ?_) (fun k9 => if k9 = 16 then g16 else M k9) _ _ _ _ (fun _ _ => rfl) li_nil hcT hmk hW (lv_sub hl [2, 3, 1, 0] rfl)
      have ht9 := hc9.1
      refine lv_aload_n hx hb d_Mo_run_171 rfl (lv_at hl 0 rfl) ?_
      refine wd_get S i_Mo hK hW ht9 rfl 23 (by decide) k_Mo_110 rfl rfl d_Mo_run_172 ?_
      have hsp9 : sp_run (nI i) (Ls, Ps, Ts, ml, md, wd, pl) (nI PL.length) (Ls, Ps, Ts, ml, md, wd, PL) := Or.inr ⟨hnm0, i, lg, rfl, hlgi, hfin.elim (fun q => Or.inl ⟨q.1.elim (fun z => Or.inl (bl_t hwhl z)) (fun z => Or.inr (bl_f hv6 z)), by rw [q.2]; rfl, by rw [q.2]⟩) (fun q => Or.inr ⟨fun z => q.1 (z.elim (fun z1 => Or.inl (fun z2 => bl_f hwhl z2 z1)) (fun z1 => Or.inr (hv6.elim (fun z2 => absurd z2.2 z1) (fun z2 => z2.1)))), by rw [q.2], by rw [q.2]⟩)⟩
      exact ct_iret S hr rfl hlocks hW (⟨(Ls, Ps, Ts, ml, md, wd, PL), hsp9, ⟨C, M9, hc9, hT, mo_lc hl0 (fun k9 h9 => (hM k9 (by omega)).trans (if_neg (by omega))), mo_pc hp0 (fun k9 h8 h9 => (hM k9 (by omega)).trans (if_neg (by omega))), mo_tc hq0 (fun k9 h8 h9 => (hM k9 (by omega)).trans (if_neg (by omega))), by rw [hM 5 (by omega)]; exact hml, by rw [hM 6 (by omega)]; exact hmd, by rw [hM 15 (by omega)]; exact hwd, hpl9⟩, hmk⟩) (Nat.le_of_ble_eq_true rfl) (Nat.le_of_ble_eq_true rfl) d_Mo_run_175
    · have hpos : 0 < wd.length := Nat.pos_of_ne_zero (fun q => h25 (by rw [q]; exact Int32.le_refl _))
      refine lv_aload_n hx hb d_Mo_run_28 rfl (lv_at hl 1 rfl) ?_
      refine wd_get S i_Mo hK hW ht0 rfl 5 (by decide) k_Mo_23 rfl rfl d_Mo_run_29 ?_
      refine lv_iload_n hx hb d_Mo_run_32 rfl (lv_at hl 2 rfl) ?_
      refine wd_zald S hK hW 1 c4 rfl (vp_in_nI (by omega) (by omega)) d_Mo_run_33 ?_
      rw [nI_clamp (by omega), m4]
      refine lv_if_eq (tgt := 61) hx hb d_Mo_run_34 (by decide) (fun h34 => ?_) (fun h34 => ?_)
      · have hwhl : bl_ 0 (hy_wh lg wd) := Or.inr ⟨rfl, fun q => q.1 h34⟩
        refine lv_iconst (v := 0) hx hb d_Mo_run_61 (by decide) ?_
        refine lv_istore_n (lv' := [(3, .int 0), (2, .int v_8), (0, .ref t), (1, .int (nI i))]) hx hb d_Mo_run_62 rfl hl (by decide) rfl (fun ls hl => ?_)
        refine ta_Mo_run (sm := v_8) (wh := 0) (M := (fun k9 => if k9 = 16 then g16 else M k9)) (lg := lg) (tg := tg) (w := w) S hE hT hp0 hq0 hrow wwd wT wts wP wps (by omega) hlgm.2 m2 m3 (fun PL M9 w9 H locs hfin hM hpl9 hc9 hmk hW ls hl => ?_) (fun k9 => if k9 = 16 then g16 else M k9) _ _ _ _ (fun _ _ => rfl) li_nil hcT hmk hW (lv_sub hl [2, 3, 1, 0] rfl)
        have ht9 := hc9.1
        refine lv_aload_n hx hb d_Mo_run_171 rfl (lv_at hl 0 rfl) ?_
        refine wd_get S i_Mo hK hW ht9 rfl 23 (by decide) k_Mo_110 rfl rfl d_Mo_run_172 ?_
        have hsp9 : sp_run (nI i) (Ls, Ps, Ts, ml, md, wd, pl) (nI PL.length) (Ls, Ps, Ts, ml, md, wd, PL) := Or.inr ⟨hnm0, i, lg, rfl, hlgi, hfin.elim (fun q => Or.inl ⟨q.1.elim (fun z => Or.inl (bl_t hwhl z)) (fun z => Or.inr (bl_f hv6 z)), by rw [q.2]; rfl, by rw [q.2]⟩) (fun q => Or.inr ⟨fun z => q.1 (z.elim (fun z1 => Or.inl (fun z2 => bl_f hwhl z2 z1)) (fun z1 => Or.inr (hv6.elim (fun z2 => absurd z2.2 z1) (fun z2 => z2.1)))), by rw [q.2], by rw [q.2]⟩)⟩
        exact ct_iret S hr rfl hlocks hW (⟨(Ls, Ps, Ts, ml, md, wd, PL), hsp9, ⟨C, M9, hc9, hT, mo_lc hl0 (fun k9 h9 => (hM k9 (by omega)).trans (if_neg (by omega))), mo_pc hp0 (fun k9 h8 h9 => (hM k9 (by omega)).trans (if_neg (by omega))), mo_tc hq0 (fun k9 h8 h9 => (hM k9 (by omega)).trans (if_neg (by omega))), by rw [hM 5 (by omega)]; exact hml, by rw [hM 6 (by omega)]; exact hmd, by rw [hM 15 (by omega)]; exact hwd, hpl9⟩, hmk⟩) (Nat.le_of_ble_eq_true rfl) (Nat.le_of_ble_eq_true rfl) d_Mo_run_175
      · obtain ⟨s0, hs0⟩ : ∃ s0, wd[0]? = some s0 := ⟨_, List.getElem?_eq_getElem hpos⟩
        obtain ⟨sn, hsn, es0⟩ := wws s0 (List.mem_of_getElem? hs0)
        refine lv_aload_n hx hb d_Mo_run_37 rfl (lv_at hl 1 rfl) ?_
        refine wd_get S i_Mo hK hW ht0 rfl 2 (by decide) k_Mo_13 rfl rfl d_Mo_run_38 ?_
        refine lv_sipush (v := 256) hx hb d_Mo_run_41 (by decide) ?_
        refine lv_iload_n hx hb d_Mo_run_44 rfl (lv_at hl 2 rfl) ?_
        refine lv_imul hx hb d_Mo_run_45 ?_
        refine lv_aload_n hx hb d_Mo_run_46 rfl (lv_at hl 1 rfl) ?_
        refine wd_get S i_Mo hK hW ht0 rfl 21 (by decide) k_Mo_56 rfl rfl d_Mo_run_47 ?_
        refine lv_iconst (v := 0) hx hb d_Mo_run_50 (by decide) ?_
        refine wd_iald S hK hW 0 c15 rfl (vp_in_nI (n := 0) (by omega) (by omega)) d_Mo_run_51 ?_
        rw [show (0 : Int32).toNatClampNeg = 0 from rfl, show M 15 0 = nI sn from (hwd 0 s0 hs0).trans es0]
        refine lv_iadd hx hb d_Mo_run_52 ?_
        rw [ix_256]
        refine wd_zald S hK hW 1 c1 rfl (vp_in_nI (by omega) (by omega)) d_Mo_run_53 ?_
        rw [nI_clamp (by omega), (m01 sn hsn).2]
        refine lv_if_eq (tgt := 61) hx hb d_Mo_run_54 (by decide) (fun h54 => ?_) (fun h54 => ?_)
        · have hwhl : bl_ 0 (hy_wh lg wd) := Or.inr ⟨rfl, fun q => by obtain ⟨-, s9, h9, h8⟩ := q; rw [hs0] at h9; cases h9; rw [es0, nI_clamp (by omega)] at h8; exact h8 h54⟩
          refine lv_iconst (v := 0) hx hb d_Mo_run_61 (by decide) ?_
          refine lv_istore_n (lv' := [(3, .int 0), (2, .int v_8), (0, .ref t), (1, .int (nI i))]) hx hb d_Mo_run_62 rfl hl (by decide) rfl (fun ls hl => ?_)
          refine ta_Mo_run (sm := v_8) (wh := 0) (M := (fun k9 => if k9 = 16 then g16 else M k9)) (lg := lg) (tg := tg) (w := w) S hE hT hp0 hq0 hrow wwd wT wts wP wps (by omega) hlgm.2 m2 m3 (fun PL M9 w9 H locs hfin hM hpl9 hc9 hmk hW ls hl => ?_) (fun k9 => if k9 = 16 then g16 else M k9) _ _ _ _ (fun _ _ => rfl) li_nil hcT hmk hW (lv_sub hl [2, 3, 1, 0] rfl)
          have ht9 := hc9.1
          refine lv_aload_n hx hb d_Mo_run_171 rfl (lv_at hl 0 rfl) ?_
          refine wd_get S i_Mo hK hW ht9 rfl 23 (by decide) k_Mo_110 rfl rfl d_Mo_run_172 ?_
          have hsp9 : sp_run (nI i) (Ls, Ps, Ts, ml, md, wd, pl) (nI PL.length) (Ls, Ps, Ts, ml, md, wd, PL) := Or.inr ⟨hnm0, i, lg, rfl, hlgi, hfin.elim (fun q => Or.inl ⟨q.1.elim (fun z => Or.inl (bl_t hwhl z)) (fun z => Or.inr (bl_f hv6 z)), by rw [q.2]; rfl, by rw [q.2]⟩) (fun q => Or.inr ⟨fun z => q.1 (z.elim (fun z1 => Or.inl (fun z2 => bl_f hwhl z2 z1)) (fun z1 => Or.inr (hv6.elim (fun z2 => absurd z2.2 z1) (fun z2 => z2.1)))), by rw [q.2], by rw [q.2]⟩)⟩
          exact ct_iret S hr rfl hlocks hW (⟨(Ls, Ps, Ts, ml, md, wd, PL), hsp9, ⟨C, M9, hc9, hT, mo_lc hl0 (fun k9 h9 => (hM k9 (by omega)).trans (if_neg (by omega))), mo_pc hp0 (fun k9 h8 h9 => (hM k9 (by omega)).trans (if_neg (by omega))), mo_tc hq0 (fun k9 h8 h9 => (hM k9 (by omega)).trans (if_neg (by omega))), by rw [hM 5 (by omega)]; exact hml, by rw [hM 6 (by omega)]; exact hmd, by rw [hM 15 (by omega)]; exact hwd, hpl9⟩, hmk⟩) (Nat.le_of_ble_eq_true rfl) (Nat.le_of_ble_eq_true rfl) d_Mo_run_175
        · have hwhl : bl_ 1 (hy_wh lg wd) := Or.inl ⟨rfl, h34, s0, hs0, by rw [es0, nI_clamp (by omega)]; exact h54⟩
          refine lv_iconst (v := 1) hx hb d_Mo_run_57 (by decide) ?_
          refine lv_goto (tgt := 62) hx hb d_Mo_run_58 (by decide) ?_
          refine lv_istore_n (lv' := [(3, .int 1), (2, .int v_8), (0, .ref t), (1, .int (nI i))]) hx hb d_Mo_run_62 rfl hl (by decide) rfl (fun ls hl => ?_)
          refine ta_Mo_run (sm := v_8) (wh := 1) (M := (fun k9 => if k9 = 16 then g16 else M k9)) (lg := lg) (tg := tg) (w := w) S hE hT hp0 hq0 hrow wwd wT wts wP wps (by omega) hlgm.2 m2 m3 (fun PL M9 w9 H locs hfin hM hpl9 hc9 hmk hW ls hl => ?_) (fun k9 => if k9 = 16 then g16 else M k9) _ _ _ _ (fun _ _ => rfl) li_nil hcT hmk hW (lv_sub hl [2, 3, 1, 0] rfl)
          have ht9 := hc9.1
          refine lv_aload_n hx hb d_Mo_run_171 rfl (lv_at hl 0 rfl) ?_
          refine wd_get S i_Mo hK hW ht9 rfl 23 (by decide) k_Mo_110 rfl rfl d_Mo_run_172 ?_
          have hsp9 : sp_run (nI i) (Ls, Ps, Ts, ml, md, wd, pl) (nI PL.length) (Ls, Ps, Ts, ml, md, wd, PL) := Or.inr ⟨hnm0, i, lg, rfl, hlgi, hfin.elim (fun q => Or.inl ⟨q.1.elim (fun z => Or.inl (bl_t hwhl z)) (fun z => Or.inr (bl_f hv6 z)), by rw [q.2]; rfl, by rw [q.2]⟩) (fun q => Or.inr ⟨fun z => q.1 (z.elim (fun z1 => Or.inl (fun z2 => bl_f hwhl z2 z1)) (fun z1 => Or.inr (hv6.elim (fun z2 => absurd z2.2 z1) (fun z2 => z2.1)))), by rw [q.2], by rw [q.2]⟩)⟩
          exact ct_iret S hr rfl hlocks hW (⟨(Ls, Ps, Ts, ml, md, wd, PL), hsp9, ⟨C, M9, hc9, hT, mo_lc hl0 (fun k9 h9 => (hM k9 (by omega)).trans (if_neg (by omega))), mo_pc hp0 (fun k9 h8 h9 => (hM k9 (by omega)).trans (if_neg (by omega))), mo_tc hq0 (fun k9 h8 h9 => (hM k9 (by omega)).trans (if_neg (by omega))), by rw [hM 5 (by omega)]; exact hml, by rw [hM 6 (by omega)]; exact hmd, by rw [hM 15 (by omega)]; exact hwd, hpl9⟩, hmk⟩) (Nat.le_of_ble_eq_true rfl) (Nat.le_of_ble_eq_true rfl) d_Mo_run_175
  · refine lv_iconst (v := -1) hx hb d_Mo_run_8 (by decide) ?_
    exact ct_iret S hr rfl hlocks hW (⟨_, Or.inl ⟨fun q => bl_f hv h5 q, rfl, rfl⟩, h, mk_rf⟩) (Nat.le_of_ble_eq_true rfl) (Nat.le_of_ble_eq_true rfl) d_Mo_run_9
