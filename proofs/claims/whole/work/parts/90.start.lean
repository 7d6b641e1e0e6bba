/-! THE LAW: its start, its loop. -/

theorem lw_w {x : Cond} {args : Array Value} {s : State} (hts : ∀ w ∈ lw_tbl, w.before args s = true) (i : Nat) (h : tables_1[i]? = some x) : x.before args s = true := hts _ (List.mem_append_right _ (List.mem_of_getElem? h))
set_option maxHeartbeats 4000000 in
set_option maxRecDepth 100000 in
/-- the classes, array classes and statics of the start -/
theorem lw_env {p : Program} {s : State} {m : MethodId} {meth : Method} {c : Code} {b L : Nat} {xs : Nat → Int32} (C0 : lw_At p s m meth c b L xs) : ∃ G : ev_G, ev_K G (fun q : Nat => s.heap.size ≤ q) s s.heap := by
  obtain ⟨hx, hb, hr, hml, hown, hts, hX, hbl, hlocks, hgv⟩ := id C0
  have hg : ∀ w ∈ lw_good, w.before #[Value.ref b] s = true := fun w h => hts w (lw_good_tbl w h)
  obtain ⟨c0, i0, k0⟩ := u_known (C := R_HR) (T := F_HR) (N := 13) (n := 13) hg i_HR (hg _ kt_HR)
  obtain ⟨c1, i1, k1⟩ := u_known (C := R_La) (T := F_La) (N := 5) (n := 5) hg i_La (hg _ kt_La)
  obtain ⟨c2, i2, k2⟩ := u_known (C := R_Pa) (T := F_Pa) (N := 3) (n := 3) hg i_Pa (hg _ kt_Pa)
  obtain ⟨c3, i3, k3⟩ := u_known (C := R_To) (T := F_To) (N := 3) (n := 3) hg i_To (hg _ kt_To)
  obtain ⟨c4, i4, k4⟩ := u_known (C := R_AL) (T := F_AL) (N := 3) (n := 3) hg i_AL (hg _ kt_AL)
  obtain ⟨c5, i5, k5⟩ := u_known (C := R_Mo) (T := F_Mo) (N := 25) (n := 25) hg i_Mo (hg _ kt_Mo)
  obtain ⟨a0, q0, p0, f0, g0, e0⟩ := Cond.arrayClass_spec (show (Cond.arrayClass .int).holds #[Value.ref b] s none s [] = true from hg _ ka_int)
  obtain ⟨a1, q1, p1, f1, g1, e1⟩ := Cond.arrayClass_spec (show (Cond.arrayClass .boolean).holds #[Value.ref b] s none s [] = true from hg _ ka_boolean)
  have hAO : va_AO "java/lang/Object" s := va_AO.of (lw_w hts 169 rfl)
  obtain ⟨p2, a2, q2, h1, -, g2, e2, f2⟩ := Cond.arrayOver_spec hAO
  have hfl := flat_of_before _ hgv
  obtain ⟨mi, hMi⟩ := va_Mi.of (hfl (Cond.isRef (.mirror "[Ljava/lang/Object;")) (by decide +kernel))
  have hA : ∀ a : Nat, a < s.heap.size → ¬ (fun q : Nat => s.heap.size ≤ q) a := fun a h => Nat.not_le.mpr h
  obtain ⟨z, hz, hT⟩ := va_Tof (N := 0) (f := fun _ => .null) (A := fun q : Nat => s.heap.size ≤ q) (by decide) (hfl (Cond.arrayOf (.static "java/util/ArrayList" "DEFAULTCAPACITY_EMPTY_ELEMENTDATA" "[Ljava/lang/Object;") (.object "java/lang/Object")) (by decide +kernel)) (va_eqt (hfl (Cond.eq (.length (.static "java/util/ArrayList" "DEFAULTCAPACITY_EMPTY_ELEMENTDATA" "[Ljava/lang/Object;")) (.int 0)) (by decide +kernel))) (fun j hj => absurd hj (Nat.not_lt_zero j)) hA
  have hZ := va_Zof (lw_w hts 36 rfl) (hg _ kz_AL) hz hA
  have hO := va_Oof (hfl (Cond.exactly (.static "java/util/ArrayList" "DEFAULTCAPACITY_EMPTY_ELEMENTDATA" "[Ljava/lang/Object;") "[Ljava/lang/Object;") (by decide +kernel)) hz hA
  refine ⟨((fun k => [c0, c1, c2, c3, c4, c5].getD k c0, fun k => [i0, i1, i2, i3, i4, i5].getD k i0), fun k => [a0, a1, a2].getD k a0, fun k => [z, mi].getD k z), ⟨fun k q hq => ?_, fun k q hq => ?_⟩, ⟨va_Nw.of rfl (lw_w hts 100 rfl), fun C hC => ?_, va_Nw.of rfl (lw_w hts 250 rfl), hAO, hMi, va_Dc.of (lw_w hts 549 rfl)⟩, hZ, hT, hO⟩
  · match k, hq with
    | 0, hq => cases hq; exact k0
    | 1, hq => cases hq; exact k1
    | 2, hq => cases hq; exact k2
    | 3, hq => cases hq; exact k3
    | 4, hq => cases hq; exact k4
    | 5, hq => cases hq; exact k5
    | k + 6, hq => simp [ev_cl] at hq
  · match k, hq with
    | 0, hq => cases hq; exact ⟨fun n z => ⟨fun k h => (by cases h), q0, g0, p0, e0⟩, f0⟩
    | 1, hq => cases hq; exact ⟨fun n z => ⟨fun k h => (by cases h), q1, g1, p1, e1⟩, f1⟩
    | 2, hq => cases hq; exact ⟨fun n z => ⟨fun k h => (by cases h), q2, g2, p2, e2⟩, q2, p2, g2, e2, h1, f2⟩
    | k + 3, hq => simp [ev_tys] at hq
  · rcases (by simpa using hC : C = R_La ∨ C = R_Pa ∨ C = R_To) with rfl | rfl | rfl
    · exact ⟨va_Nw.of rfl (lw_w hts 552 rfl), va_Nw.of rfl (lw_w hts 544 rfl)⟩
    · exact ⟨va_Nw.of rfl (lw_w hts 553 rfl), va_Nw.of rfl (lw_w hts 545 rfl)⟩
    · exact ⟨va_Nw.of rfl (lw_w hts 554 rfl), va_Nw.of rfl (lw_w hts 546 rfl)⟩
theorem hr_obj {G : ev_G} {w : wd_M} {tg : Nat → Nat} {r : Nat} {x : hy_S} (h : hr_S G w tg r x) : ∃ fs : List Value, w r = some (.inr (0, fs)) := by
  obtain ⟨B, E, F, la, pa, ta, hc, -⟩ := h
  exact ⟨_, hc.1⟩
theorem mo_obj {G : ev_G} {w : wd_M} {tg : Nat → Nat} {t : Nat} {x : hy_S} (h : mo_S G w tg t x) : ∃ fs : List Value, w t = some (.inr (5, fs)) := by
  obtain ⟨C, M, hc, -⟩ := h
  exact ⟨_, hc.1⟩
theorem ea_z {G : ev_G} {w : wd_M} {a e : Nat} {els : List Nat} (h : al_ G w a e els) (he : w e = none) : e = G.2.2 0 := by
  obtain ⟨mo, -, h2⟩ := h
  rcases h2 with h2 | ⟨cap, f, g1, g2⟩
  · first | exact h2.1 | exact h2.2
  · rw [he] at g1; cases g1
/-- what the class holds stays where all that was there stays -/
theorem hr_fr {G : ev_G} {w u : wd_M} {tg tg2 : Nat → Nat} {r : Nat} {x : hy_S} (h : hr_S G w tg r x) (hwf : wf_S x) (hk : ∀ q, w q ≠ none → u q = w q) (he : ex_ w tg tg2) (hz : u (G.2.2 0) = none) : hr_S G u tg2 r x := by
  obtain ⟨B, E, F, la, pa, ta, ⟨c0, c3, c4, c5, c6, c7, c8⟩, hg, ⟨g0, g1, g2, gE⟩, hla, hpa, hta, hml, hmd, hwd, hpl⟩ := h
  have k0 : ∀ (q : Nat) {y : va_E}, w q = some y → u q = some y := fun q y hy => (hk q (wd_some hy)).trans hy
  have hz2 : ∀ i, i < 3 → w (E i) = none → E i = G.2.2 0 := fun i hi hn => by
    match i, hi, hn with
    | 0, _, hn => exact ea_z g0 hn
    | 1, _, hn => exact ea_z g1 hn
    | 2, _, hn => exact ea_z g2 hn
  have hb : ∀ i, i < 9 → w (B i) ≠ none := fun i hi => by
    match i, hi with
    | 0, _ => exact wd_some g0.choose_spec.1
    | 1, _ => exact wd_some g1.choose_spec.1
    | 2, _ => exact wd_some g2.choose_spec.1
    | 3, _ => exact wd_some c3
    | 4, _ => exact wd_some c4
    | 5, _ => exact wd_some c5
    | 6, _ => exact wd_some c6
    | 7, _ => exact wd_some c7
    | 8, _ => exact wd_some c8
  refine ⟨B, E, F, la, pa, ta, ⟨k0 _ c0, k0 _ c3, k0 _ c4, k0 _ c5, k0 _ c6, k0 _ c7, k0 _ c8⟩, ⟨(he r (wd_some c0)).trans hg.1, fun i hi => (he _ (hb i hi)).trans (hg.2 i hi)⟩, ⟨al_keep g0 (hk _ (hb 0 (by omega))) (hk _), al_keep g1 (hk _ (hb 1 (by omega))) (hk _), al_keep g2 (hk _ (hb 2 (by omega))) (hk _), fun i hi hn => ?_⟩, la_keep hla (fun y hy _ => hk y hy) he hwf.1, pa_keep hpa (fun y hy _ => hk y hy) he hwf.2.1, ta_keep hta (fun y hy _ => hk y hy) he, hml, hmd, hwd, hpl⟩
  by_cases hw : w (E i) = none
  · exact absurd (by rw [hz2 i hi hw]; exact hz) hn
  · exact (he _ hw).trans (gE i hi hw)
/-- class and reference hold one state -/
def lw_I (G : ev_G) (w : wd_M) (tg : Nat → Nat) (r t : Nat) (x : hy_S) : Prop := hr_S G w tg r x ∧ mo_S G w tg t x ∧ wf_S x
theorem lw_in {n L j : Nat} {xi : Int32} (h : 5 * n + 5 ≤ L) (hj : j < 5) (hL : L ≤ 2560) (exi : xi = nI (5 * n)) : vp_in (xi + nI j) L := by
  rw [exi, nI_add]
  exact vp_in_nI (by omega) (by omega)
theorem lw_in0 {n L : Nat} {xi : Int32} (h : 5 * n + 5 ≤ L) (hL : L ≤ 2560) (exi : xi = nI (5 * n)) : vp_in xi L := by
  rw [exi]
  exact vp_in_nI (by omega) (by omega)

set_option maxHeartbeats 4000000 in
set_option maxRecDepth 100000 in
theorem op_language {p_ : Program} {l : Launch} {e_ : Env} {s : State} {m : MethodId} {args : Array Value} {below : List Frame} {meth : Method} {c_ : Code} {Q : State → Prop} {G : ev_G} {b L n r t : Nat} {xs : Nat → Int32} {xi : Int32} (S : CallFix p_ m c_ code 4 s args lw_good "HyphenRowsLaw") (hE : ev_K G (fun q : Nat => s.heap.size ≤ q) s s.heap) (hX : va_X b L xs s s.heap) (hbl : b < s.heap.size) (hL : L ≤ 2560) (exi : xi = nI (5 * n)) (hn : 5 * n + 5 ≤ L) {ce sl : Nat} {w : wd_M} {tg : Nat → Nat} {x : hy_S} {H : Heap} {locs : List Loc} {ls : Array Slot} (hce : ce ≤ 599000) (hsl : sl ≤ 7000000) (hI : lw_I G w tg r t x) (hW : wd_W G.1 ev_cl (fun q : Nat => s.heap.size ≤ q) w s.heap H locs) (hl : lv_has ls 4 [(0, .ref b), (1, .ref r), (2, .ref t), (3, .int xi)]) (kk : ∀ (ce2 sl2 : Nat) (w2 : wd_M) (tg2 : Nat → Nat) (x2 : hy_S) (H : Heap) (locs : List Loc), ce2 ≤ ce + 4 → sl2 ≤ sl + 900 → lw_I G w2 tg2 r t x2 → wd_W G.1 ev_cl (fun q : Nat => s.heap.size ≤ q) w2 s.heap H locs → ∀ ls : Array Slot, lv_has ls 4 [(0, .ref b), (1, .ref r), (2, .ref t), (3, .int xi)] → W p_ l e_ room_1 s m args below meth c_ H locs ce2 sl2 Q (F0 m 518 ls [])) : W p_ l e_ room_1 s m args below meth c_ H locs ce sl Q (F0 m 104 ls []) := by
  have hx := S.1
  have hb := S.2.1
  have hK := hE.1
  have hbA : ¬ (fun q : Nat => s.heap.size ≤ q) b := Nat.not_le.mpr hbl
  obtain ⟨Ls, Ps, Ts, ml, md, wd, pl⟩ := x
  obtain ⟨hh, hm, hwf⟩ := hI
  obtain ⟨fsr, hr0⟩ := hr_obj hh
  skip
  refine lv_aload_n hx hb d_Lw_104 rfl (lv_at hl 1 rfl) ?_
  refine ct_goi hW (ct_runV (As := []) (rest := []) (q := (R_HR, F_HR, 13)) S hE hW (c_HR_language l G _ _ tg r Ls Ps Ts ml md wd pl  hh hwf) hr0 rfl kc_HR_language kz_HR k_Lw_13 ki_HR_language kv_HR_language kd_HR_language ⟨Nat.le_of_ble_eq_true rfl, Nat.le_of_ble_eq_true rfl⟩ hl.1 (Nat.le_of_ble_eq_true rfl) d_Lw_105 ⟨Nat.le_trans (Nat.add_le_add_right hce _) (Nat.le_of_ble_eq_true rfl), Nat.le_trans (Nat.add_le_add_right hsl _) (Nat.le_of_ble_eq_true rfl)⟩) (fun v_3 u_1 H locs hp_2 hW => ?_)
  obtain ⟨x1, tg1, hs1, hh1, he1, hk1⟩ := hp_2
  have hm1 := mo_kp hm hk1 he1
  obtain ⟨fst, ht0⟩ := mo_obj hm1
  refine lv_aload_n hx hb d_Lw_108 rfl (lv_at hl 2 rfl) ?_
  refine ct_goi hW (ct_runV (As := []) (rest := [.int v_3]) (q := (R_Mo, F_Mo, 25)) S hE hW (c_Mo_language l G _ _ tg1 t Ls Ps Ts ml md wd pl  hm1 hwf) ht0 rfl kc_Mo_language kz_Mo k_Lw_17 ki_Mo_language kv_Mo_language kd_Mo_language ⟨Nat.le_of_ble_eq_true rfl, Nat.le_of_ble_eq_true rfl⟩ hl.1 (Nat.le_of_ble_eq_true rfl) d_Lw_109 ⟨Nat.le_trans (Nat.add_le_add_right (Nat.add_le_add_right hce _) _) (Nat.le_of_ble_eq_true rfl), Nat.le_trans (Nat.add_le_add_right (Nat.add_le_add_right hsl _) _) (Nat.le_of_ble_eq_true rfl)⟩) (fun v_6 u_4 H locs hp_5 hW => ?_)
  obtain ⟨x2, hs2, hm2, hk2⟩ := hp_5
  obtain ⟨ev9, ex9⟩ := on_language hs1 hs2
  subst ex9
  have hw2 := wk_language hwf hs1
  refine lv_icmp_eq (tgt := 518) hx hb d_Lw_112 (by decide) (fun hbr => ?_) (fun hbr => ?_)
  · exact kk _ _ _ tg1 x1 _ _ (by show ce + 4 + 0 ≤ ce + 4; omega) (by show sl + 900 + 0 ≤ sl + 900; omega) ⟨hr_mk hh1 hw2 hk2, hm2, hw2⟩ hW ls (lv_sub hl [0, 1, 2, 3] rfl)
  · exact absurd ev9 hbr

set_option maxHeartbeats 4000000 in
set_option maxRecDepth 100000 in
theorem op_code {p_ : Program} {l : Launch} {e_ : Env} {s : State} {m : MethodId} {args : Array Value} {below : List Frame} {meth : Method} {c_ : Code} {Q : State → Prop} {G : ev_G} {b L n r t : Nat} {xs : Nat → Int32} {xi : Int32} (S : CallFix p_ m c_ code 4 s args lw_good "HyphenRowsLaw") (hE : ev_K G (fun q : Nat => s.heap.size ≤ q) s s.heap) (hX : va_X b L xs s s.heap) (hbl : b < s.heap.size) (hL : L ≤ 2560) (exi : xi = nI (5 * n)) (hn : 5 * n + 5 ≤ L) {ce sl : Nat} {w : wd_M} {tg : Nat → Nat} {x : hy_S} {H : Heap} {locs : List Loc} {ls : Array Slot} (hce : ce ≤ 599000) (hsl : sl ≤ 7000000) (hI : lw_I G w tg r t x) (hW : wd_W G.1 ev_cl (fun q : Nat => s.heap.size ≤ q) w s.heap H locs) (hl : lv_has ls 4 [(0, .ref b), (1, .ref r), (2, .ref t), (3, .int xi)]) (kk : ∀ (ce2 sl2 : Nat) (w2 : wd_M) (tg2 : Nat → Nat) (x2 : hy_S) (H : Heap) (locs : List Loc), ce2 ≤ ce + 4 → sl2 ≤ sl + 900 → lw_I G w2 tg2 r t x2 → wd_W G.1 ev_cl (fun q : Nat => s.heap.size ≤ q) w2 s.heap H locs → ∀ ls : Array Slot, lv_has ls 4 [(0, .ref b), (1, .ref r), (2, .ref t), (3, .int xi)] → W p_ l e_ room_1 s m args below meth c_ H locs ce2 sl2 Q (F0 m 518 ls [])) : W p_ l e_ room_1 s m args below meth c_ H locs ce sl Q (F0 m 117 ls []) := by
  have hx := S.1
  have hb := S.2.1
  have hK := hE.1
  have hbA : ¬ (fun q : Nat => s.heap.size ≤ q) b := Nat.not_le.mpr hbl
  obtain ⟨Ls, Ps, Ts, ml, md, wd, pl⟩ := x
  obtain ⟨hh, hm, hwf⟩ := hI
  obtain ⟨fsr, hr0⟩ := hr_obj hh
  skip
  refine lv_aload_n hx hb d_Lw_117 rfl (lv_at hl 1 rfl) ?_
  refine lv_aload_n hx hb d_Lw_118 rfl (lv_at hl 0 rfl) ?_
  refine lv_iload_n hx hb d_Lw_119 rfl (lv_at hl 3 rfl) ?_
  refine lv_iconst (v := 1) hx hb d_Lw_120 (by decide) ?_
  refine lv_iadd hx hb d_Lw_121 ?_
  refine va_sld hx hb hX hbl hbA hW.2.1 (lw_in (j := 1) hn (by omega) hL exi) d_Lw_122 ?_
  refine lv_aload_n hx hb d_Lw_123 rfl (lv_at hl 0 rfl) ?_
  refine lv_iload_n hx hb d_Lw_124 rfl (lv_at hl 3 rfl) ?_
  refine lv_iconst (v := 2) hx hb d_Lw_125 (by decide) ?_
  refine lv_iadd hx hb d_Lw_126 ?_
  refine va_sld hx hb hX hbl hbA hW.2.1 (lw_in (j := 2) hn (by omega) hL exi) d_Lw_127 ?_
  refine lv_aload_n hx hb d_Lw_128 rfl (lv_at hl 0 rfl) ?_
  refine lv_iload_n hx hb d_Lw_129 rfl (lv_at hl 3 rfl) ?_
  refine lv_iconst (v := 3) hx hb d_Lw_130 (by decide) ?_
  refine lv_iadd hx hb d_Lw_131 ?_
  refine va_sld hx hb hX hbl hbA hW.2.1 (lw_in (j := 3) hn (by omega) hL exi) d_Lw_132 ?_
  refine lv_aload_n hx hb d_Lw_133 rfl (lv_at hl 0 rfl) ?_
  refine lv_iload_n hx hb d_Lw_134 rfl (lv_at hl 3 rfl) ?_
  refine lv_iconst (v := 4) hx hb d_Lw_135 (by decide) ?_
  refine lv_iadd hx hb d_Lw_136 ?_
  refine va_sld hx hb hX hbl hbA hW.2.1 (lw_in (j := 4) hn (by omega) hL exi) d_Lw_137 ?_
  refine lv_if_eq (tgt := 145) hx hb d_Lw_138 (by decide) (fun hb1 => ?_) (fun hb1 => ?_)
  · refine lv_iconst (v := 0) hx hb d_Lw_145 (by decide) ?_
    refine ct_goi hW (ct_runV (As := [.int (xs (xi + 1 : Int32).toNatClampNeg), .int (xs (xi + 2 : Int32).toNatClampNeg), .int (xs (xi + 3 : Int32).toNatClampNeg), .int 0]) (rest := []) (q := (R_HR, F_HR, 13)) S hE hW (c_HR_code l G _ _ tg r Ls Ps Ts ml md wd pl (xs (xi + 1 : Int32).toNatClampNeg) (xs (xi + 2 : Int32).toNatClampNeg) (xs (xi + 3 : Int32).toNatClampNeg) 0 hh hwf (Or.inl rfl)) hr0 rfl kc_HR_code kz_HR k_Lw_18 ki_HR_code kv_HR_code kd_HR_code ⟨Nat.le_of_ble_eq_true rfl, Nat.le_of_ble_eq_true rfl⟩ hl.1 (Nat.le_of_ble_eq_true rfl) d_Lw_146 ⟨Nat.le_trans (Nat.add_le_add_right hce _) (Nat.le_of_ble_eq_true rfl), Nat.le_trans (Nat.add_le_add_right hsl _) (Nat.le_of_ble_eq_true rfl)⟩) (fun v_3 u_1 H locs hp_2 hW => ?_)
    obtain ⟨x1, tg1, hs1, hh1, he1, hk1⟩ := hp_2
    have hm1 := mo_kp hm hk1 he1
    obtain ⟨fst, ht0⟩ := mo_obj hm1
    refine lv_aload_n hx hb d_Lw_149 rfl (lv_at hl 2 rfl) ?_
    refine lv_aload_n hx hb d_Lw_150 rfl (lv_at hl 0 rfl) ?_
    refine lv_iload_n hx hb d_Lw_151 rfl (lv_at hl 3 rfl) ?_
    refine lv_iconst (v := 1) hx hb d_Lw_152 (by decide) ?_
    refine lv_iadd hx hb d_Lw_153 ?_
    refine va_sld hx hb hX hbl hbA hW.2.1 (lw_in (j := 1) hn (by omega) hL exi) d_Lw_154 ?_
    refine lv_aload_n hx hb d_Lw_155 rfl (lv_at hl 0 rfl) ?_
    refine lv_iload_n hx hb d_Lw_156 rfl (lv_at hl 3 rfl) ?_
    refine lv_iconst (v := 2) hx hb d_Lw_157 (by decide) ?_
    refine lv_iadd hx hb d_Lw_158 ?_
    refine va_sld hx hb hX hbl hbA hW.2.1 (lw_in (j := 2) hn (by omega) hL exi) d_Lw_159 ?_
    refine lv_aload_n hx hb d_Lw_160 rfl (lv_at hl 0 rfl) ?_
    refine lv_iload_n hx hb d_Lw_161 rfl (lv_at hl 3 rfl) ?_
    refine lv_iconst (v := 3) hx hb d_Lw_162 (by decide) ?_
    refine lv_iadd hx hb d_Lw_163 ?_
    refine va_sld hx hb hX hbl hbA hW.2.1 (lw_in (j := 3) hn (by omega) hL exi) d_Lw_164 ?_
    refine lv_aload_n hx hb d_Lw_165 rfl (lv_at hl 0 rfl) ?_
    refine lv_iload_n hx hb d_Lw_166 rfl (lv_at hl 3 rfl) ?_
    refine lv_iconst (v := 4) hx hb d_Lw_167 (by decide) ?_
    refine lv_iadd hx hb d_Lw_168 ?_
    refine va_sld hx hb hX hbl hbA hW.2.1 (lw_in (j := 4) hn (by omega) hL exi) d_Lw_169 ?_
    refine lv_if_eq (tgt := 177) hx hb d_Lw_170 (by decide) (fun hb2 => ?_) (fun hb2 => ?_)
    · refine lv_iconst (v := 0) hx hb d_Lw_177 (by decide) ?_
      refine ct_goi hW (ct_runV (As := [.int (xs (xi + 1 : Int32).toNatClampNeg), .int (xs (xi + 2 : Int32).toNatClampNeg), .int (xs (xi + 3 : Int32).toNatClampNeg), .int 0]) (rest := [.int v_3]) (q := (R_Mo, F_Mo, 25)) S hE hW (c_Mo_code l G _ _ tg1 t Ls Ps Ts ml md wd pl (xs (xi + 1 : Int32).toNatClampNeg) (xs (xi + 2 : Int32).toNatClampNeg) (xs (xi + 3 : Int32).toNatClampNeg) 0 hm1 hwf (Or.inl rfl)) ht0 rfl kc_Mo_code kz_Mo k_Lw_22 ki_Mo_code kv_Mo_code kd_Mo_code ⟨Nat.le_of_ble_eq_true rfl, Nat.le_of_ble_eq_true rfl⟩ hl.1 (Nat.le_of_ble_eq_true rfl) d_Lw_178 ⟨Nat.le_trans (Nat.add_le_add_right (Nat.add_le_add_right hce _) _) (Nat.le_of_ble_eq_true rfl), Nat.le_trans (Nat.add_le_add_right (Nat.add_le_add_right hsl _) _) (Nat.le_of_ble_eq_true rfl)⟩) (fun v_6 u_4 H locs hp_5 hW => ?_)
      obtain ⟨x2, hs2, hm2, hk2⟩ := hp_5
      obtain ⟨ev9, ex9⟩ := on_code hwf hs1 hs2
      subst ex9
      have hw2 := wk_code hwf hs1
      refine lv_icmp_eq (tgt := 518) hx hb d_Lw_181 (by decide) (fun hbr => ?_) (fun hbr => ?_)
      · exact kk _ _ _ tg1 x1 _ _ (by show ce + 0 + 0 ≤ ce + 4; omega) (by show sl + 0 + 0 ≤ sl + 900; omega) ⟨hr_mk hh1 hw2 hk2, hm2, hw2⟩ hW ls (lv_sub hl [0, 1, 2, 3] rfl)
      · exact absurd ev9 hbr
    · exact absurd hb1 hb2
  · refine lv_iconst (v := 1) hx hb d_Lw_141 (by decide) ?_
    refine lv_goto (tgt := 146) hx hb d_Lw_142 (by decide) ?_
    refine ct_goi hW (ct_runV (As := [.int (xs (xi + 1 : Int32).toNatClampNeg), .int (xs (xi + 2 : Int32).toNatClampNeg), .int (xs (xi + 3 : Int32).toNatClampNeg), .int 1]) (rest := []) (q := (R_HR, F_HR, 13)) S hE hW (c_HR_code l G _ _ tg r Ls Ps Ts ml md wd pl (xs (xi + 1 : Int32).toNatClampNeg) (xs (xi + 2 : Int32).toNatClampNeg) (xs (xi + 3 : Int32).toNatClampNeg) 1 hh hwf (Or.inr rfl)) hr0 rfl kc_HR_code kz_HR k_Lw_18 ki_HR_code kv_HR_code kd_HR_code ⟨Nat.le_of_ble_eq_true rfl, Nat.le_of_ble_eq_true rfl⟩ hl.1 (Nat.le_of_ble_eq_true rfl) d_Lw_146 ⟨Nat.le_trans (Nat.add_le_add_right hce _) (Nat.le_of_ble_eq_true rfl), Nat.le_trans (Nat.add_le_add_right hsl _) (Nat.le_of_ble_eq_true rfl)⟩) (fun v_9 u_7 H locs hp_8 hW => ?_)
    obtain ⟨x1, tg1, hs1, hh1, he1, hk1⟩ := hp_8
    have hm1 := mo_kp hm hk1 he1
    obtain ⟨fst, ht0⟩ := mo_obj hm1
    refine lv_aload_n hx hb d_Lw_149 rfl (lv_at hl 2 rfl) ?_
    refine lv_aload_n hx hb d_Lw_150 rfl (lv_at hl 0 rfl) ?_
    refine lv_iload_n hx hb d_Lw_151 rfl (lv_at hl 3 rfl) ?_
    refine lv_iconst (v := 1) hx hb d_Lw_152 (by decide) ?_
    refine lv_iadd hx hb d_Lw_153 ?_
    refine va_sld hx hb hX hbl hbA hW.2.1 (lw_in (j := 1) hn (by omega) hL exi) d_Lw_154 ?_
    refine lv_aload_n hx hb d_Lw_155 rfl (lv_at hl 0 rfl) ?_
    refine lv_iload_n hx hb d_Lw_156 rfl (lv_at hl 3 rfl) ?_
    refine lv_iconst (v := 2) hx hb d_Lw_157 (by decide) ?_
    refine lv_iadd hx hb d_Lw_158 ?_
    refine va_sld hx hb hX hbl hbA hW.2.1 (lw_in (j := 2) hn (by omega) hL exi) d_Lw_159 ?_
    refine lv_aload_n hx hb d_Lw_160 rfl (lv_at hl 0 rfl) ?_
    refine lv_iload_n hx hb d_Lw_161 rfl (lv_at hl 3 rfl) ?_
    refine lv_iconst (v := 3) hx hb d_Lw_162 (by decide) ?_
    refine lv_iadd hx hb d_Lw_163 ?_
    refine va_sld hx hb hX hbl hbA hW.2.1 (lw_in (j := 3) hn (by omega) hL exi) d_Lw_164 ?_
    refine lv_aload_n hx hb d_Lw_165 rfl (lv_at hl 0 rfl) ?_
    refine lv_iload_n hx hb d_Lw_166 rfl (lv_at hl 3 rfl) ?_
    refine lv_iconst (v := 4) hx hb d_Lw_167 (by decide) ?_
    refine lv_iadd hx hb d_Lw_168 ?_
    refine va_sld hx hb hX hbl hbA hW.2.1 (lw_in (j := 4) hn (by omega) hL exi) d_Lw_169 ?_
    refine lv_if_eq (tgt := 177) hx hb d_Lw_170 (by decide) (fun hb2 => ?_) (fun hb2 => ?_)
    · exact absurd hb2 hb1
    · refine lv_iconst (v := 1) hx hb d_Lw_173 (by decide) ?_
      refine lv_goto (tgt := 178) hx hb d_Lw_174 (by decide) ?_
      refine ct_goi hW (ct_runV (As := [.int (xs (xi + 1 : Int32).toNatClampNeg), .int (xs (xi + 2 : Int32).toNatClampNeg), .int (xs (xi + 3 : Int32).toNatClampNeg), .int 1]) (rest := [.int v_9]) (q := (R_Mo, F_Mo, 25)) S hE hW (c_Mo_code l G _ _ tg1 t Ls Ps Ts ml md wd pl (xs (xi + 1 : Int32).toNatClampNeg) (xs (xi + 2 : Int32).toNatClampNeg) (xs (xi + 3 : Int32).toNatClampNeg) 1 hm1 hwf (Or.inr rfl)) ht0 rfl kc_Mo_code kz_Mo k_Lw_22 ki_Mo_code kv_Mo_code kd_Mo_code ⟨Nat.le_of_ble_eq_true rfl, Nat.le_of_ble_eq_true rfl⟩ hl.1 (Nat.le_of_ble_eq_true rfl) d_Lw_178 ⟨Nat.le_trans (Nat.add_le_add_right (Nat.add_le_add_right hce _) _) (Nat.le_of_ble_eq_true rfl), Nat.le_trans (Nat.add_le_add_right (Nat.add_le_add_right hsl _) _) (Nat.le_of_ble_eq_true rfl)⟩) (fun v_12 u_10 H locs hp_11 hW => ?_)
      obtain ⟨x2, hs2, hm2, hk2⟩ := hp_11
      obtain ⟨ev9, ex9⟩ := on_code hwf hs1 hs2
      subst ex9
      have hw2 := wk_code hwf hs1
      refine lv_icmp_eq (tgt := 518) hx hb d_Lw_181 (by decide) (fun hbr => ?_) (fun hbr => ?_)
      · exact kk _ _ _ tg1 x1 _ _ (by show ce + 0 + 0 ≤ ce + 4; omega) (by show sl + 0 + 0 ≤ sl + 900; omega) ⟨hr_mk hh1 hw2 hk2, hm2, hw2⟩ hW ls (lv_sub hl [0, 1, 2, 3] rfl)
      · exact absurd ev9 hbr

set_option maxHeartbeats 4000000 in
set_option maxRecDepth 100000 in
theorem op_ends {p_ : Program} {l : Launch} {e_ : Env} {s : State} {m : MethodId} {args : Array Value} {below : List Frame} {meth : Method} {c_ : Code} {Q : State → Prop} {G : ev_G} {b L n r t : Nat} {xs : Nat → Int32} {xi : Int32} (S : CallFix p_ m c_ code 4 s args lw_good "HyphenRowsLaw") (hE : ev_K G (fun q : Nat => s.heap.size ≤ q) s s.heap) (hX : va_X b L xs s s.heap) (hbl : b < s.heap.size) (hL : L ≤ 2560) (exi : xi = nI (5 * n)) (hn : 5 * n + 5 ≤ L) {ce sl : Nat} {w : wd_M} {tg : Nat → Nat} {x : hy_S} {H : Heap} {locs : List Loc} {ls : Array Slot} (hce : ce ≤ 599000) (hsl : sl ≤ 7000000) (hI : lw_I G w tg r t x) (hW : wd_W G.1 ev_cl (fun q : Nat => s.heap.size ≤ q) w s.heap H locs) (hl : lv_has ls 4 [(0, .ref b), (1, .ref r), (2, .ref t), (3, .int xi)]) (kk : ∀ (ce2 sl2 : Nat) (w2 : wd_M) (tg2 : Nat → Nat) (x2 : hy_S) (H : Heap) (locs : List Loc), ce2 ≤ ce + 4 → sl2 ≤ sl + 900 → lw_I G w2 tg2 r t x2 → wd_W G.1 ev_cl (fun q : Nat => s.heap.size ≤ q) w2 s.heap H locs → ∀ ls : Array Slot, lv_has ls 4 [(0, .ref b), (1, .ref r), (2, .ref t), (3, .int xi)] → W p_ l e_ room_1 s m args below meth c_ H locs ce2 sl2 Q (F0 m 518 ls [])) : W p_ l e_ room_1 s m args below meth c_ H locs ce sl Q (F0 m 186 ls []) := by
  have hx := S.1
  have hb := S.2.1
  have hK := hE.1
  have hbA : ¬ (fun q : Nat => s.heap.size ≤ q) b := Nat.not_le.mpr hbl
  obtain ⟨Ls, Ps, Ts, ml, md, wd, pl⟩ := x
  obtain ⟨hh, hm, hwf⟩ := hI
  obtain ⟨fsr, hr0⟩ := hr_obj hh
  skip
  refine lv_aload_n hx hb d_Lw_186 rfl (lv_at hl 1 rfl) ?_
  refine lv_aload_n hx hb d_Lw_187 rfl (lv_at hl 0 rfl) ?_
  refine lv_iload_n hx hb d_Lw_188 rfl (lv_at hl 3 rfl) ?_
  refine lv_iconst (v := 1) hx hb d_Lw_189 (by decide) ?_
  refine lv_iadd hx hb d_Lw_190 ?_
  refine va_sld hx hb hX hbl hbA hW.2.1 (lw_in (j := 1) hn (by omega) hL exi) d_Lw_191 ?_
  refine lv_aload_n hx hb d_Lw_192 rfl (lv_at hl 0 rfl) ?_
  refine lv_iload_n hx hb d_Lw_193 rfl (lv_at hl 3 rfl) ?_
  refine lv_iconst (v := 2) hx hb d_Lw_194 (by decide) ?_
  refine lv_iadd hx hb d_Lw_195 ?_
  refine va_sld hx hb hX hbl hbA hW.2.1 (lw_in (j := 2) hn (by omega) hL exi) d_Lw_196 ?_
  refine lv_aload_n hx hb d_Lw_197 rfl (lv_at hl 0 rfl) ?_
  refine lv_iload_n hx hb d_Lw_198 rfl (lv_at hl 3 rfl) ?_
  refine lv_iconst (v := 3) hx hb d_Lw_199 (by decide) ?_
  refine lv_iadd hx hb d_Lw_200 ?_
  refine va_sld hx hb hX hbl hbA hW.2.1 (lw_in (j := 3) hn (by omega) hL exi) d_Lw_201 ?_
  refine lv_aload_n hx hb d_Lw_202 rfl (lv_at hl 0 rfl) ?_
  refine lv_iload_n hx hb d_Lw_203 rfl (lv_at hl 3 rfl) ?_
  refine lv_iconst (v := 4) hx hb d_Lw_204 (by decide) ?_
  refine lv_iadd hx hb d_Lw_205 ?_
  refine va_sld hx hb hX hbl hbA hW.2.1 (lw_in (j := 4) hn (by omega) hL exi) d_Lw_206 ?_
  refine lv_if_eq (tgt := 214) hx hb d_Lw_207 (by decide) (fun hb1 => ?_) (fun hb1 => ?_)
  · refine lv_iconst (v := 0) hx hb d_Lw_214 (by decide) ?_
    refine ct_goi hW (ct_runV (As := [.int (xs (xi + 1 : Int32).toNatClampNeg), .int (xs (xi + 2 : Int32).toNatClampNeg), .int (xs (xi + 3 : Int32).toNatClampNeg), .int 0]) (rest := []) (q := (R_HR, F_HR, 13)) S hE hW (c_HR_ends l G _ _ tg r Ls Ps Ts ml md wd pl (xs (xi + 1 : Int32).toNatClampNeg) (xs (xi + 2 : Int32).toNatClampNeg) (xs (xi + 3 : Int32).toNatClampNeg) 0 hh hwf (Or.inl rfl)) hr0 rfl kc_HR_ends kz_HR k_Lw_23 ki_HR_ends kv_HR_ends kd_HR_ends ⟨Nat.le_of_ble_eq_true rfl, Nat.le_of_ble_eq_true rfl⟩ hl.1 (Nat.le_of_ble_eq_true rfl) d_Lw_215 ⟨Nat.le_trans (Nat.add_le_add_right hce _) (Nat.le_of_ble_eq_true rfl), Nat.le_trans (Nat.add_le_add_right hsl _) (Nat.le_of_ble_eq_true rfl)⟩) (fun v_3 u_1 H locs hp_2 hW => ?_)
    obtain ⟨x1, tg1, hs1, hh1, he1, hk1⟩ := hp_2
    have hm1 := mo_kp hm hk1 he1
    obtain ⟨fst, ht0⟩ := mo_obj hm1
    refine lv_aload_n hx hb d_Lw_218 rfl (lv_at hl 2 rfl) ?_
    refine lv_aload_n hx hb d_Lw_219 rfl (lv_at hl 0 rfl) ?_
    refine lv_iload_n hx hb d_Lw_220 rfl (lv_at hl 3 rfl) ?_
    refine lv_iconst (v := 1) hx hb d_Lw_221 (by decide) ?_
    refine lv_iadd hx hb d_Lw_222 ?_
    refine va_sld hx hb hX hbl hbA hW.2.1 (lw_in (j := 1) hn (by omega) hL exi) d_Lw_223 ?_
    refine lv_aload_n hx hb d_Lw_224 rfl (lv_at hl 0 rfl) ?_
    refine lv_iload_n hx hb d_Lw_225 rfl (lv_at hl 3 rfl) ?_
    refine lv_iconst (v := 2) hx hb d_Lw_226 (by decide) ?_
    refine lv_iadd hx hb d_Lw_227 ?_
    refine va_sld hx hb hX hbl hbA hW.2.1 (lw_in (j := 2) hn (by omega) hL exi) d_Lw_228 ?_
    refine lv_aload_n hx hb d_Lw_229 rfl (lv_at hl 0 rfl) ?_
    refine lv_iload_n hx hb d_Lw_230 rfl (lv_at hl 3 rfl) ?_
    refine lv_iconst (v := 3) hx hb d_Lw_231 (by decide) ?_
    refine lv_iadd hx hb d_Lw_232 ?_
    refine va_sld hx hb hX hbl hbA hW.2.1 (lw_in (j := 3) hn (by omega) hL exi) d_Lw_233 ?_
    refine lv_aload_n hx hb d_Lw_234 rfl (lv_at hl 0 rfl) ?_
    refine lv_iload_n hx hb d_Lw_235 rfl (lv_at hl 3 rfl) ?_
    refine lv_iconst (v := 4) hx hb d_Lw_236 (by decide) ?_
    refine lv_iadd hx hb d_Lw_237 ?_
    refine va_sld hx hb hX hbl hbA hW.2.1 (lw_in (j := 4) hn (by omega) hL exi) d_Lw_238 ?_
    refine lv_if_eq (tgt := 246) hx hb d_Lw_239 (by decide) (fun hb2 => ?_) (fun hb2 => ?_)
    · refine lv_iconst (v := 0) hx hb d_Lw_246 (by decide) ?_
      refine ct_goi hW (ct_runV (As := [.int (xs (xi + 1 : Int32).toNatClampNeg), .int (xs (xi + 2 : Int32).toNatClampNeg), .int (xs (xi + 3 : Int32).toNatClampNeg), .int 0]) (rest := [.int v_3]) (q := (R_Mo, F_Mo, 25)) S hE hW (c_Mo_ends l G _ _ tg1 t Ls Ps Ts ml md wd pl (xs (xi + 1 : Int32).toNatClampNeg) (xs (xi + 2 : Int32).toNatClampNeg) (xs (xi + 3 : Int32).toNatClampNeg) 0 hm1 hwf (Or.inl rfl)) ht0 rfl kc_Mo_ends kz_Mo k_Lw_26 ki_Mo_ends kv_Mo_ends kd_Mo_ends ⟨Nat.le_of_ble_eq_true rfl, Nat.le_of_ble_eq_true rfl⟩ hl.1 (Nat.le_of_ble_eq_true rfl) d_Lw_247 ⟨Nat.le_trans (Nat.add_le_add_right (Nat.add_le_add_right hce _) _) (Nat.le_of_ble_eq_true rfl), Nat.le_trans (Nat.add_le_add_right (Nat.add_le_add_right hsl _) _) (Nat.le_of_ble_eq_true rfl)⟩) (fun v_6 u_4 H locs hp_5 hW => ?_)
      obtain ⟨x2, hs2, hm2, hk2⟩ := hp_5
      obtain ⟨ev9, ex9⟩ := on_ends hwf hs1 hs2
      subst ex9
      have hw2 := wk_ends hwf hs1
      refine lv_icmp_eq (tgt := 518) hx hb d_Lw_250 (by decide) (fun hbr => ?_) (fun hbr => ?_)
      · exact kk _ _ _ tg1 x1 _ _ (by show ce + 0 + 0 ≤ ce + 4; omega) (by show sl + 0 + 0 ≤ sl + 900; omega) ⟨hr_mk hh1 hw2 hk2, hm2, hw2⟩ hW ls (lv_sub hl [0, 1, 2, 3] rfl)
      · exact absurd ev9 hbr
    · exact absurd hb1 hb2
  · refine lv_iconst (v := 1) hx hb d_Lw_210 (by decide) ?_
    refine lv_goto (tgt := 215) hx hb d_Lw_211 (by decide) ?_
    refine ct_goi hW (ct_runV (As := [.int (xs (xi + 1 : Int32).toNatClampNeg), .int (xs (xi + 2 : Int32).toNatClampNeg), .int (xs (xi + 3 : Int32).toNatClampNeg), .int 1]) (rest := []) (q := (R_HR, F_HR, 13)) S hE hW (c_HR_ends l G _ _ tg r Ls Ps Ts ml md wd pl (xs (xi + 1 : Int32).toNatClampNeg) (xs (xi + 2 : Int32).toNatClampNeg) (xs (xi + 3 : Int32).toNatClampNeg) 1 hh hwf (Or.inr rfl)) hr0 rfl kc_HR_ends kz_HR k_Lw_23 ki_HR_ends kv_HR_ends kd_HR_ends ⟨Nat.le_of_ble_eq_true rfl, Nat.le_of_ble_eq_true rfl⟩ hl.1 (Nat.le_of_ble_eq_true rfl) d_Lw_215 ⟨Nat.le_trans (Nat.add_le_add_right hce _) (Nat.le_of_ble_eq_true rfl), Nat.le_trans (Nat.add_le_add_right hsl _) (Nat.le_of_ble_eq_true rfl)⟩) (fun v_9 u_7 H locs hp_8 hW => ?_)
    obtain ⟨x1, tg1, hs1, hh1, he1, hk1⟩ := hp_8
    have hm1 := mo_kp hm hk1 he1
    obtain ⟨fst, ht0⟩ := mo_obj hm1
    refine lv_aload_n hx hb d_Lw_218 rfl (lv_at hl 2 rfl) ?_
    refine lv_aload_n hx hb d_Lw_219 rfl (lv_at hl 0 rfl) ?_
    refine lv_iload_n hx hb d_Lw_220 rfl (lv_at hl 3 rfl) ?_
    refine lv_iconst (v := 1) hx hb d_Lw_221 (by decide) ?_
    refine lv_iadd hx hb d_Lw_222 ?_
    refine va_sld hx hb hX hbl hbA hW.2.1 (lw_in (j := 1) hn (by omega) hL exi) d_Lw_223 ?_
    refine lv_aload_n hx hb d_Lw_224 rfl (lv_at hl 0 rfl) ?_
    refine lv_iload_n hx hb d_Lw_225 rfl (lv_at hl 3 rfl) ?_
    refine lv_iconst (v := 2) hx hb d_Lw_226 (by decide) ?_
    refine lv_iadd hx hb d_Lw_227 ?_
    refine va_sld hx hb hX hbl hbA hW.2.1 (lw_in (j := 2) hn (by omega) hL exi) d_Lw_228 ?_
    refine lv_aload_n hx hb d_Lw_229 rfl (lv_at hl 0 rfl) ?_
    refine lv_iload_n hx hb d_Lw_230 rfl (lv_at hl 3 rfl) ?_
    refine lv_iconst (v := 3) hx hb d_Lw_231 (by decide) ?_
    refine lv_iadd hx hb d_Lw_232 ?_
    refine va_sld hx hb hX hbl hbA hW.2.1 (lw_in (j := 3) hn (by omega) hL exi) d_Lw_233 ?_
    refine lv_aload_n hx hb d_Lw_234 rfl (lv_at hl 0 rfl) ?_
    refine lv_iload_n hx hb d_Lw_235 rfl (lv_at hl 3 rfl) ?_
    refine lv_iconst (v := 4) hx hb d_Lw_236 (by decide) ?_
    refine lv_iadd hx hb d_Lw_237 ?_
    refine va_sld hx hb hX hbl hbA hW.2.1 (lw_in (j := 4) hn (by omega) hL exi) d_Lw_238 ?_
    refine lv_if_eq (tgt := 246) hx hb d_Lw_239 (by decide) (fun hb2 => ?_) (fun hb2 => ?_)
    · exact absurd hb2 hb1
    · refine lv_iconst (v := 1) hx hb d_Lw_242 (by decide) ?_
      refine lv_goto (tgt := 247) hx hb d_Lw_243 (by decide) ?_
      refine ct_goi hW (ct_runV (As := [.int (xs (xi + 1 : Int32).toNatClampNeg), .int (xs (xi + 2 : Int32).toNatClampNeg), .int (xs (xi + 3 : Int32).toNatClampNeg), .int 1]) (rest := [.int v_9]) (q := (R_Mo, F_Mo, 25)) S hE hW (c_Mo_ends l G _ _ tg1 t Ls Ps Ts ml md wd pl (xs (xi + 1 : Int32).toNatClampNeg) (xs (xi + 2 : Int32).toNatClampNeg) (xs (xi + 3 : Int32).toNatClampNeg) 1 hm1 hwf (Or.inr rfl)) ht0 rfl kc_Mo_ends kz_Mo k_Lw_26 ki_Mo_ends kv_Mo_ends kd_Mo_ends ⟨Nat.le_of_ble_eq_true rfl, Nat.le_of_ble_eq_true rfl⟩ hl.1 (Nat.le_of_ble_eq_true rfl) d_Lw_247 ⟨Nat.le_trans (Nat.add_le_add_right (Nat.add_le_add_right hce _) _) (Nat.le_of_ble_eq_true rfl), Nat.le_trans (Nat.add_le_add_right (Nat.add_le_add_right hsl _) _) (Nat.le_of_ble_eq_true rfl)⟩) (fun v_12 u_10 H locs hp_11 hW => ?_)
      obtain ⟨x2, hs2, hm2, hk2⟩ := hp_11
      obtain ⟨ev9, ex9⟩ := on_ends hwf hs1 hs2
      subst ex9
      have hw2 := wk_ends hwf hs1
      refine lv_icmp_eq (tgt := 518) hx hb d_Lw_250 (by decide) (fun hbr => ?_) (fun hbr => ?_)
      · exact kk _ _ _ tg1 x1 _ _ (by show ce + 0 + 0 ≤ ce + 4; omega) (by show sl + 0 + 0 ≤ sl + 900; omega) ⟨hr_mk hh1 hw2 hk2, hm2, hw2⟩ hW ls (lv_sub hl [0, 1, 2, 3] rfl)
      · exact absurd ev9 hbr

set_option maxHeartbeats 4000000 in
set_option maxRecDepth 100000 in
theorem op_next {p_ : Program} {l : Launch} {e_ : Env} {s : State} {m : MethodId} {args : Array Value} {below : List Frame} {meth : Method} {c_ : Code} {Q : State → Prop} {G : ev_G} {b L n r t : Nat} {xs : Nat → Int32} {xi : Int32} (S : CallFix p_ m c_ code 4 s args lw_good "HyphenRowsLaw") (hE : ev_K G (fun q : Nat => s.heap.size ≤ q) s s.heap) (hX : va_X b L xs s s.heap) (hbl : b < s.heap.size) (hL : L ≤ 2560) (exi : xi = nI (5 * n)) (hn : 5 * n + 5 ≤ L) {ce sl : Nat} {w : wd_M} {tg : Nat → Nat} {x : hy_S} {H : Heap} {locs : List Loc} {ls : Array Slot} (hce : ce ≤ 599000) (hsl : sl ≤ 7000000) (hI : lw_I G w tg r t x) (hW : wd_W G.1 ev_cl (fun q : Nat => s.heap.size ≤ q) w s.heap H locs) (hl : lv_has ls 4 [(0, .ref b), (1, .ref r), (2, .ref t), (3, .int xi)]) (kk : ∀ (ce2 sl2 : Nat) (w2 : wd_M) (tg2 : Nat → Nat) (x2 : hy_S) (H : Heap) (locs : List Loc), ce2 ≤ ce + 4 → sl2 ≤ sl + 900 → lw_I G w2 tg2 r t x2 → wd_W G.1 ev_cl (fun q : Nat => s.heap.size ≤ q) w2 s.heap H locs → ∀ ls : Array Slot, lv_has ls 4 [(0, .ref b), (1, .ref r), (2, .ref t), (3, .int xi)] → W p_ l e_ room_1 s m args below meth c_ H locs ce2 sl2 Q (F0 m 518 ls [])) : W p_ l e_ room_1 s m args below meth c_ H locs ce sl Q (F0 m 255 ls []) := by
  have hx := S.1
  have hb := S.2.1
  have hK := hE.1
  have hbA : ¬ (fun q : Nat => s.heap.size ≤ q) b := Nat.not_le.mpr hbl
  obtain ⟨Ls, Ps, Ts, ml, md, wd, pl⟩ := x
  obtain ⟨hh, hm, hwf⟩ := hI
  obtain ⟨fsr, hr0⟩ := hr_obj hh
  skip
  refine lv_aload_n hx hb d_Lw_255 rfl (lv_at hl 1 rfl) ?_
  refine lv_aload_n hx hb d_Lw_256 rfl (lv_at hl 0 rfl) ?_
  refine lv_iload_n hx hb d_Lw_257 rfl (lv_at hl 3 rfl) ?_
  refine lv_iconst (v := 1) hx hb d_Lw_258 (by decide) ?_
  refine lv_iadd hx hb d_Lw_259 ?_
  refine va_sld hx hb hX hbl hbA hW.2.1 (lw_in (j := 1) hn (by omega) hL exi) d_Lw_260 ?_
  refine lv_aload_n hx hb d_Lw_261 rfl (lv_at hl 0 rfl) ?_
  refine lv_iload_n hx hb d_Lw_262 rfl (lv_at hl 3 rfl) ?_
  refine lv_iconst (v := 2) hx hb d_Lw_263 (by decide) ?_
  refine lv_iadd hx hb d_Lw_264 ?_
  refine va_sld hx hb hX hbl hbA hW.2.1 (lw_in (j := 2) hn (by omega) hL exi) d_Lw_265 ?_
  refine ct_goi hW (ct_runV (As := [.int (xs (xi + 1 : Int32).toNatClampNeg), .int (xs (xi + 2 : Int32).toNatClampNeg)]) (rest := []) (q := (R_HR, F_HR, 13)) S hE hW (c_HR_next l G _ _ tg r Ls Ps Ts ml md wd pl (xs (xi + 1 : Int32).toNatClampNeg) (xs (xi + 2 : Int32).toNatClampNeg) hh hwf) hr0 rfl kc_HR_next kz_HR k_Lw_27 ki_HR_next kv_HR_next kd_HR_next ⟨Nat.le_of_ble_eq_true rfl, Nat.le_of_ble_eq_true rfl⟩ hl.1 (Nat.le_of_ble_eq_true rfl) d_Lw_266 ⟨Nat.le_trans (Nat.add_le_add_right hce _) (Nat.le_of_ble_eq_true rfl), Nat.le_trans (Nat.add_le_add_right hsl _) (Nat.le_of_ble_eq_true rfl)⟩) (fun v_3 u_1 H locs hp_2 hW => ?_)
  obtain ⟨x1, tg1, hs1, hh1, he1, hk1⟩ := hp_2
  have hm1 := mo_kp hm hk1 he1
  obtain ⟨fst, ht0⟩ := mo_obj hm1
  refine lv_aload_n hx hb d_Lw_269 rfl (lv_at hl 2 rfl) ?_
  refine lv_aload_n hx hb d_Lw_270 rfl (lv_at hl 0 rfl) ?_
  refine lv_iload_n hx hb d_Lw_271 rfl (lv_at hl 3 rfl) ?_
  refine lv_iconst (v := 1) hx hb d_Lw_272 (by decide) ?_
  refine lv_iadd hx hb d_Lw_273 ?_
  refine va_sld hx hb hX hbl hbA hW.2.1 (lw_in (j := 1) hn (by omega) hL exi) d_Lw_274 ?_
  refine lv_aload_n hx hb d_Lw_275 rfl (lv_at hl 0 rfl) ?_
  refine lv_iload_n hx hb d_Lw_276 rfl (lv_at hl 3 rfl) ?_
  refine lv_iconst (v := 2) hx hb d_Lw_277 (by decide) ?_
  refine lv_iadd hx hb d_Lw_278 ?_
  refine va_sld hx hb hX hbl hbA hW.2.1 (lw_in (j := 2) hn (by omega) hL exi) d_Lw_279 ?_
  refine ct_goi hW (ct_runV (As := [.int (xs (xi + 1 : Int32).toNatClampNeg), .int (xs (xi + 2 : Int32).toNatClampNeg)]) (rest := [.int v_3]) (q := (R_Mo, F_Mo, 25)) S hE hW (c_Mo_next l G _ _ tg1 t Ls Ps Ts ml md wd pl (xs (xi + 1 : Int32).toNatClampNeg) (xs (xi + 2 : Int32).toNatClampNeg) hm1 hwf) ht0 rfl kc_Mo_next kz_Mo k_Lw_31 ki_Mo_next kv_Mo_next kd_Mo_next ⟨Nat.le_of_ble_eq_true rfl, Nat.le_of_ble_eq_true rfl⟩ hl.1 (Nat.le_of_ble_eq_true rfl) d_Lw_280 ⟨Nat.le_trans (Nat.add_le_add_right (Nat.add_le_add_right hce _) _) (Nat.le_of_ble_eq_true rfl), Nat.le_trans (Nat.add_le_add_right (Nat.add_le_add_right hsl _) _) (Nat.le_of_ble_eq_true rfl)⟩) (fun v_6 u_4 H locs hp_5 hW => ?_)
  obtain ⟨x2, hs2, hm2, hk2⟩ := hp_5
  obtain ⟨ev9, ex9⟩ := on_next hs1 hs2
  subst ex9
  have hw2 := wk_next hwf hs1
  refine lv_icmp_eq (tgt := 518) hx hb d_Lw_283 (by decide) (fun hbr => ?_) (fun hbr => ?_)
  · exact kk _ _ _ tg1 x1 _ _ (by show ce + 0 + 0 ≤ ce + 4; omega) (by show sl + 0 + 0 ≤ sl + 900; omega) ⟨hr_mk hh1 hw2 hk2, hm2, hw2⟩ hW ls (lv_sub hl [0, 1, 2, 3] rfl)
  · exact absurd ev9 hbr

set_option maxHeartbeats 4000000 in
set_option maxRecDepth 100000 in
theorem op_pattern {p_ : Program} {l : Launch} {e_ : Env} {s : State} {m : MethodId} {args : Array Value} {below : List Frame} {meth : Method} {c_ : Code} {Q : State → Prop} {G : ev_G} {b L n r t : Nat} {xs : Nat → Int32} {xi : Int32} (S : CallFix p_ m c_ code 4 s args lw_good "HyphenRowsLaw") (hE : ev_K G (fun q : Nat => s.heap.size ≤ q) s s.heap) (hX : va_X b L xs s s.heap) (hbl : b < s.heap.size) (hL : L ≤ 2560) (exi : xi = nI (5 * n)) (hn : 5 * n + 5 ≤ L) {ce sl : Nat} {w : wd_M} {tg : Nat → Nat} {x : hy_S} {H : Heap} {locs : List Loc} {ls : Array Slot} (hce : ce ≤ 599000) (hsl : sl ≤ 7000000) (hI : lw_I G w tg r t x) (hW : wd_W G.1 ev_cl (fun q : Nat => s.heap.size ≤ q) w s.heap H locs) (hl : lv_has ls 4 [(0, .ref b), (1, .ref r), (2, .ref t), (3, .int xi)]) (kk : ∀ (ce2 sl2 : Nat) (w2 : wd_M) (tg2 : Nat → Nat) (x2 : hy_S) (H : Heap) (locs : List Loc), ce2 ≤ ce + 4 → sl2 ≤ sl + 900 → lw_I G w2 tg2 r t x2 → wd_W G.1 ev_cl (fun q : Nat => s.heap.size ≤ q) w2 s.heap H locs → ∀ ls : Array Slot, lv_has ls 4 [(0, .ref b), (1, .ref r), (2, .ref t), (3, .int xi)] → W p_ l e_ room_1 s m args below meth c_ H locs ce2 sl2 Q (F0 m 518 ls [])) : W p_ l e_ room_1 s m args below meth c_ H locs ce sl Q (F0 m 288 ls []) := by
  have hx := S.1
  have hb := S.2.1
  have hK := hE.1
  have hbA : ¬ (fun q : Nat => s.heap.size ≤ q) b := Nat.not_le.mpr hbl
  obtain ⟨Ls, Ps, Ts, ml, md, wd, pl⟩ := x
  obtain ⟨hh, hm, hwf⟩ := hI
  obtain ⟨fsr, hr0⟩ := hr_obj hh
  skip
  refine lv_aload_n hx hb d_Lw_288 rfl (lv_at hl 1 rfl) ?_
  refine lv_aload_n hx hb d_Lw_289 rfl (lv_at hl 0 rfl) ?_
  refine lv_iload_n hx hb d_Lw_290 rfl (lv_at hl 3 rfl) ?_
  refine lv_iconst (v := 1) hx hb d_Lw_291 (by decide) ?_
  refine lv_iadd hx hb d_Lw_292 ?_
  refine va_sld hx hb hX hbl hbA hW.2.1 (lw_in (j := 1) hn (by omega) hL exi) d_Lw_293 ?_
  refine lv_aload_n hx hb d_Lw_294 rfl (lv_at hl 0 rfl) ?_
  refine lv_iload_n hx hb d_Lw_295 rfl (lv_at hl 3 rfl) ?_
  refine lv_iconst (v := 2) hx hb d_Lw_296 (by decide) ?_
  refine lv_iadd hx hb d_Lw_297 ?_
  refine va_sld hx hb hX hbl hbA hW.2.1 (lw_in (j := 2) hn (by omega) hL exi) d_Lw_298 ?_
  refine ct_goi hW (ct_runV (As := [.int (xs (xi + 1 : Int32).toNatClampNeg), .int (xs (xi + 2 : Int32).toNatClampNeg)]) (rest := []) (q := (R_HR, F_HR, 13)) S hE hW (c_HR_pattern l G _ _ tg r Ls Ps Ts ml md wd pl (xs (xi + 1 : Int32).toNatClampNeg) (xs (xi + 2 : Int32).toNatClampNeg) hh hwf) hr0 rfl kc_HR_pattern kz_HR k_Lw_32 ki_HR_pattern kv_HR_pattern kd_HR_pattern ⟨Nat.le_of_ble_eq_true rfl, Nat.le_of_ble_eq_true rfl⟩ hl.1 (Nat.le_of_ble_eq_true rfl) d_Lw_299 ⟨Nat.le_trans (Nat.add_le_add_right hce _) (Nat.le_of_ble_eq_true rfl), Nat.le_trans (Nat.add_le_add_right hsl _) (Nat.le_of_ble_eq_true rfl)⟩) (fun v_3 u_1 H locs hp_2 hW => ?_)
  obtain ⟨x1, tg1, hs1, hh1, he1, hk1⟩ := hp_2
  have hm1 := mo_kp hm hk1 he1
  obtain ⟨fst, ht0⟩ := mo_obj hm1
  refine lv_aload_n hx hb d_Lw_302 rfl (lv_at hl 2 rfl) ?_
  refine lv_aload_n hx hb d_Lw_303 rfl (lv_at hl 0 rfl) ?_
  refine lv_iload_n hx hb d_Lw_304 rfl (lv_at hl 3 rfl) ?_
  refine lv_iconst (v := 1) hx hb d_Lw_305 (by decide) ?_
  refine lv_iadd hx hb d_Lw_306 ?_
  refine va_sld hx hb hX hbl hbA hW.2.1 (lw_in (j := 1) hn (by omega) hL exi) d_Lw_307 ?_
  refine lv_aload_n hx hb d_Lw_308 rfl (lv_at hl 0 rfl) ?_
  refine lv_iload_n hx hb d_Lw_309 rfl (lv_at hl 3 rfl) ?_
  refine lv_iconst (v := 2) hx hb d_Lw_310 (by decide) ?_
  refine lv_iadd hx hb d_Lw_311 ?_
  refine va_sld hx hb hX hbl hbA hW.2.1 (lw_in (j := 2) hn (by omega) hL exi) d_Lw_312 ?_
  refine ct_goi hW (ct_runV (As := [.int (xs (xi + 1 : Int32).toNatClampNeg), .int (xs (xi + 2 : Int32).toNatClampNeg)]) (rest := [.int v_3]) (q := (R_Mo, F_Mo, 25)) S hE hW (c_Mo_pattern l G _ _ tg1 t Ls Ps Ts ml md wd pl (xs (xi + 1 : Int32).toNatClampNeg) (xs (xi + 2 : Int32).toNatClampNeg) hm1 hwf) ht0 rfl kc_Mo_pattern kz_Mo k_Lw_35 ki_Mo_pattern kv_Mo_pattern kd_Mo_pattern ⟨Nat.le_of_ble_eq_true rfl, Nat.le_of_ble_eq_true rfl⟩ hl.1 (Nat.le_of_ble_eq_true rfl) d_Lw_313 ⟨Nat.le_trans (Nat.add_le_add_right (Nat.add_le_add_right hce _) _) (Nat.le_of_ble_eq_true rfl), Nat.le_trans (Nat.add_le_add_right (Nat.add_le_add_right hsl _) _) (Nat.le_of_ble_eq_true rfl)⟩) (fun v_6 u_4 H locs hp_5 hW => ?_)
  obtain ⟨x2, hs2, hm2, hk2⟩ := hp_5
  obtain ⟨ev9, ex9⟩ := on_pattern hwf hs1 hs2
  subst ex9
  have hw2 := wk_pattern hwf hs1
  refine lv_icmp_eq (tgt := 518) hx hb d_Lw_316 (by decide) (fun hbr => ?_) (fun hbr => ?_)
  · exact kk _ _ _ tg1 x1 _ _ (by show ce + 4 + 0 ≤ ce + 4; omega) (by show sl + 400 + 0 ≤ sl + 900; omega) ⟨hr_mk hh1 hw2 hk2, hm2, hw2⟩ hW ls (lv_sub hl [0, 1, 2, 3] rfl)
  · exact absurd ev9 hbr

set_option maxHeartbeats 4000000 in
set_option maxRecDepth 100000 in
theorem op_sign {p_ : Program} {l : Launch} {e_ : Env} {s : State} {m : MethodId} {args : Array Value} {below : List Frame} {meth : Method} {c_ : Code} {Q : State → Prop} {G : ev_G} {b L n r t : Nat} {xs : Nat → Int32} {xi : Int32} (S : CallFix p_ m c_ code 4 s args lw_good "HyphenRowsLaw") (hE : ev_K G (fun q : Nat => s.heap.size ≤ q) s s.heap) (hX : va_X b L xs s s.heap) (hbl : b < s.heap.size) (hL : L ≤ 2560) (exi : xi = nI (5 * n)) (hn : 5 * n + 5 ≤ L) {ce sl : Nat} {w : wd_M} {tg : Nat → Nat} {x : hy_S} {H : Heap} {locs : List Loc} {ls : Array Slot} (hce : ce ≤ 599000) (hsl : sl ≤ 7000000) (hI : lw_I G w tg r t x) (hW : wd_W G.1 ev_cl (fun q : Nat => s.heap.size ≤ q) w s.heap H locs) (hl : lv_has ls 4 [(0, .ref b), (1, .ref r), (2, .ref t), (3, .int xi)]) (kk : ∀ (ce2 sl2 : Nat) (w2 : wd_M) (tg2 : Nat → Nat) (x2 : hy_S) (H : Heap) (locs : List Loc), ce2 ≤ ce + 4 → sl2 ≤ sl + 900 → lw_I G w2 tg2 r t x2 → wd_W G.1 ev_cl (fun q : Nat => s.heap.size ≤ q) w2 s.heap H locs → ∀ ls : Array Slot, lv_has ls 4 [(0, .ref b), (1, .ref r), (2, .ref t), (3, .int xi)] → W p_ l e_ room_1 s m args below meth c_ H locs ce2 sl2 Q (F0 m 518 ls [])) : W p_ l e_ room_1 s m args below meth c_ H locs ce sl Q (F0 m 321 ls []) := by
  have hx := S.1
  have hb := S.2.1
  have hK := hE.1
  have hbA : ¬ (fun q : Nat => s.heap.size ≤ q) b := Nat.not_le.mpr hbl
  obtain ⟨Ls, Ps, Ts, ml, md, wd, pl⟩ := x
  obtain ⟨hh, hm, hwf⟩ := hI
  obtain ⟨fsr, hr0⟩ := hr_obj hh
  skip
  refine lv_aload_n hx hb d_Lw_321 rfl (lv_at hl 1 rfl) ?_
  refine lv_aload_n hx hb d_Lw_322 rfl (lv_at hl 0 rfl) ?_
  refine lv_iload_n hx hb d_Lw_323 rfl (lv_at hl 3 rfl) ?_
  refine lv_iconst (v := 1) hx hb d_Lw_324 (by decide) ?_
  refine lv_iadd hx hb d_Lw_325 ?_
  refine va_sld hx hb hX hbl hbA hW.2.1 (lw_in (j := 1) hn (by omega) hL exi) d_Lw_326 ?_
  refine ct_goi hW (ct_runV (As := [.int (xs (xi + 1 : Int32).toNatClampNeg)]) (rest := []) (q := (R_HR, F_HR, 13)) S hE hW (c_HR_sign l G _ _ tg r Ls Ps Ts ml md wd pl (xs (xi + 1 : Int32).toNatClampNeg) hh hwf) hr0 rfl kc_HR_sign kz_HR k_Lw_36 ki_HR_sign kv_HR_sign kd_HR_sign ⟨Nat.le_of_ble_eq_true rfl, Nat.le_of_ble_eq_true rfl⟩ hl.1 (Nat.le_of_ble_eq_true rfl) d_Lw_327 ⟨Nat.le_trans (Nat.add_le_add_right hce _) (Nat.le_of_ble_eq_true rfl), Nat.le_trans (Nat.add_le_add_right hsl _) (Nat.le_of_ble_eq_true rfl)⟩) (fun v_3 u_1 H locs hp_2 hW => ?_)
  obtain ⟨x1, tg1, hs1, hh1, he1, hk1⟩ := hp_2
  have hm1 := mo_kp hm hk1 he1
  obtain ⟨fst, ht0⟩ := mo_obj hm1
  refine lv_aload_n hx hb d_Lw_330 rfl (lv_at hl 2 rfl) ?_
  refine lv_aload_n hx hb d_Lw_331 rfl (lv_at hl 0 rfl) ?_
  refine lv_iload_n hx hb d_Lw_332 rfl (lv_at hl 3 rfl) ?_
  refine lv_iconst (v := 1) hx hb d_Lw_333 (by decide) ?_
  refine lv_iadd hx hb d_Lw_334 ?_
  refine va_sld hx hb hX hbl hbA hW.2.1 (lw_in (j := 1) hn (by omega) hL exi) d_Lw_335 ?_
  refine ct_goi hW (ct_runV (As := [.int (xs (xi + 1 : Int32).toNatClampNeg)]) (rest := [.int v_3]) (q := (R_Mo, F_Mo, 25)) S hE hW (c_Mo_sign l G _ _ tg1 t Ls Ps Ts ml md wd pl (xs (xi + 1 : Int32).toNatClampNeg) hm1 hwf) ht0 rfl kc_Mo_sign kz_Mo k_Lw_40 ki_Mo_sign kv_Mo_sign kd_Mo_sign ⟨Nat.le_of_ble_eq_true rfl, Nat.le_of_ble_eq_true rfl⟩ hl.1 (Nat.le_of_ble_eq_true rfl) d_Lw_336 ⟨Nat.le_trans (Nat.add_le_add_right (Nat.add_le_add_right hce _) _) (Nat.le_of_ble_eq_true rfl), Nat.le_trans (Nat.add_le_add_right (Nat.add_le_add_right hsl _) _) (Nat.le_of_ble_eq_true rfl)⟩) (fun v_6 u_4 H locs hp_5 hW => ?_)
  obtain ⟨x2, hs2, hm2, hk2⟩ := hp_5
  obtain ⟨ev9, ex9⟩ := on_sign hs1 hs2
  subst ex9
  have hw2 := wk_sign hwf hs1
  refine lv_icmp_eq (tgt := 518) hx hb d_Lw_339 (by decide) (fun hbr => ?_) (fun hbr => ?_)
  · exact kk _ _ _ tg1 x1 _ _ (by show ce + 0 + 0 ≤ ce + 4; omega) (by show sl + 0 + 0 ≤ sl + 900; omega) ⟨hr_mk hh1 hw2 hk2, hm2, hw2⟩ hW ls (lv_sub hl [0, 1, 2, 3] rfl)
  · exact absurd ev9 hbr

set_option maxHeartbeats 4000000 in
set_option maxRecDepth 100000 in
theorem op_clear {p_ : Program} {l : Launch} {e_ : Env} {s : State} {m : MethodId} {args : Array Value} {below : List Frame} {meth : Method} {c_ : Code} {Q : State → Prop} {G : ev_G} {b L n r t : Nat} {xs : Nat → Int32} {xi : Int32} (S : CallFix p_ m c_ code 4 s args lw_good "HyphenRowsLaw") (hE : ev_K G (fun q : Nat => s.heap.size ≤ q) s s.heap) (hX : va_X b L xs s s.heap) (hbl : b < s.heap.size) (hL : L ≤ 2560) (exi : xi = nI (5 * n)) (hn : 5 * n + 5 ≤ L) {ce sl : Nat} {w : wd_M} {tg : Nat → Nat} {x : hy_S} {H : Heap} {locs : List Loc} {ls : Array Slot} (hce : ce ≤ 599000) (hsl : sl ≤ 7000000) (hI : lw_I G w tg r t x) (hW : wd_W G.1 ev_cl (fun q : Nat => s.heap.size ≤ q) w s.heap H locs) (hl : lv_has ls 4 [(0, .ref b), (1, .ref r), (2, .ref t), (3, .int xi)]) (kk : ∀ (ce2 sl2 : Nat) (w2 : wd_M) (tg2 : Nat → Nat) (x2 : hy_S) (H : Heap) (locs : List Loc), ce2 ≤ ce + 4 → sl2 ≤ sl + 900 → lw_I G w2 tg2 r t x2 → wd_W G.1 ev_cl (fun q : Nat => s.heap.size ≤ q) w2 s.heap H locs → ∀ ls : Array Slot, lv_has ls 4 [(0, .ref b), (1, .ref r), (2, .ref t), (3, .int xi)] → W p_ l e_ room_1 s m args below meth c_ H locs ce2 sl2 Q (F0 m 518 ls [])) : W p_ l e_ room_1 s m args below meth c_ H locs ce sl Q (F0 m 344 ls []) := by
  have hx := S.1
  have hb := S.2.1
  have hK := hE.1
  have hbA : ¬ (fun q : Nat => s.heap.size ≤ q) b := Nat.not_le.mpr hbl
  obtain ⟨Ls, Ps, Ts, ml, md, wd, pl⟩ := x
  obtain ⟨hh, hm, hwf⟩ := hI
  obtain ⟨fsr, hr0⟩ := hr_obj hh
  skip
  refine lv_aload_n hx hb d_Lw_344 rfl (lv_at hl 1 rfl) ?_
  refine ct_goi hW (ct_runV (As := []) (rest := []) (q := (R_HR, F_HR, 13)) S hE hW (c_HR_clear l G _ _ tg r Ls Ps Ts ml md wd pl  hh hwf) hr0 rfl kc_HR_clear kz_HR k_Lw_41 ki_HR_clear kv_HR_clear kd_HR_clear ⟨Nat.le_of_ble_eq_true rfl, Nat.le_of_ble_eq_true rfl⟩ hl.1 (Nat.le_of_ble_eq_true rfl) d_Lw_345 ⟨Nat.le_trans (Nat.add_le_add_right hce _) (Nat.le_of_ble_eq_true rfl), Nat.le_trans (Nat.add_le_add_right hsl _) (Nat.le_of_ble_eq_true rfl)⟩) (fun v_3 u_1 H locs hp_2 hW => ?_)
  obtain ⟨x1, tg1, hs1, hh1, he1, hk1⟩ := hp_2
  have hm1 := mo_kp hm hk1 he1
  obtain ⟨fst, ht0⟩ := mo_obj hm1
  refine lv_aload_n hx hb d_Lw_348 rfl (lv_at hl 2 rfl) ?_
  refine ct_goi hW (ct_runV (As := []) (rest := [.int v_3]) (q := (R_Mo, F_Mo, 25)) S hE hW (c_Mo_clear l G _ _ tg1 t Ls Ps Ts ml md wd pl  hm1 hwf) ht0 rfl kc_Mo_clear kz_Mo k_Lw_44 ki_Mo_clear kv_Mo_clear kd_Mo_clear ⟨Nat.le_of_ble_eq_true rfl, Nat.le_of_ble_eq_true rfl⟩ hl.1 (Nat.le_of_ble_eq_true rfl) d_Lw_349 ⟨Nat.le_trans (Nat.add_le_add_right (Nat.add_le_add_right hce _) _) (Nat.le_of_ble_eq_true rfl), Nat.le_trans (Nat.add_le_add_right (Nat.add_le_add_right hsl _) _) (Nat.le_of_ble_eq_true rfl)⟩) (fun v_6 u_4 H locs hp_5 hW => ?_)
  obtain ⟨x2, hs2, hm2, hk2⟩ := hp_5
  obtain ⟨ev9, ex9⟩ := on_clear hs1 hs2
  subst ex9
  have hw2 := wk_clear hwf hs1
  refine lv_icmp_eq (tgt := 518) hx hb d_Lw_352 (by decide) (fun hbr => ?_) (fun hbr => ?_)
  · exact kk _ _ _ tg1 x1 _ _ (by show ce + 0 + 0 ≤ ce + 4; omega) (by show sl + 0 + 0 ≤ sl + 900; omega) ⟨hr_mk hh1 hw2 hk2, hm2, hw2⟩ hW ls (lv_sub hl [0, 1, 2, 3] rfl)
  · exact absurd ev9 hbr

set_option maxHeartbeats 4000000 in
set_option maxRecDepth 100000 in
theorem op_exception {p_ : Program} {l : Launch} {e_ : Env} {s : State} {m : MethodId} {args : Array Value} {below : List Frame} {meth : Method} {c_ : Code} {Q : State → Prop} {G : ev_G} {b L n r t : Nat} {xs : Nat → Int32} {xi : Int32} (S : CallFix p_ m c_ code 4 s args lw_good "HyphenRowsLaw") (hE : ev_K G (fun q : Nat => s.heap.size ≤ q) s s.heap) (hX : va_X b L xs s s.heap) (hbl : b < s.heap.size) (hL : L ≤ 2560) (exi : xi = nI (5 * n)) (hn : 5 * n + 5 ≤ L) {ce sl : Nat} {w : wd_M} {tg : Nat → Nat} {x : hy_S} {H : Heap} {locs : List Loc} {ls : Array Slot} (hce : ce ≤ 599000) (hsl : sl ≤ 7000000) (hI : lw_I G w tg r t x) (hW : wd_W G.1 ev_cl (fun q : Nat => s.heap.size ≤ q) w s.heap H locs) (hl : lv_has ls 4 [(0, .ref b), (1, .ref r), (2, .ref t), (3, .int xi)]) (kk : ∀ (ce2 sl2 : Nat) (w2 : wd_M) (tg2 : Nat → Nat) (x2 : hy_S) (H : Heap) (locs : List Loc), ce2 ≤ ce + 4 → sl2 ≤ sl + 900 → lw_I G w2 tg2 r t x2 → wd_W G.1 ev_cl (fun q : Nat => s.heap.size ≤ q) w2 s.heap H locs → ∀ ls : Array Slot, lv_has ls 4 [(0, .ref b), (1, .ref r), (2, .ref t), (3, .int xi)] → W p_ l e_ room_1 s m args below meth c_ H locs ce2 sl2 Q (F0 m 518 ls [])) : W p_ l e_ room_1 s m args below meth c_ H locs ce sl Q (F0 m 357 ls []) := by
  have hx := S.1
  have hb := S.2.1
  have hK := hE.1
  have hbA : ¬ (fun q : Nat => s.heap.size ≤ q) b := Nat.not_le.mpr hbl
  obtain ⟨Ls, Ps, Ts, ml, md, wd, pl⟩ := x
  obtain ⟨hh, hm, hwf⟩ := hI
  obtain ⟨fsr, hr0⟩ := hr_obj hh
  skip
  refine lv_aload_n hx hb d_Lw_357 rfl (lv_at hl 1 rfl) ?_
  refine lv_aload_n hx hb d_Lw_358 rfl (lv_at hl 0 rfl) ?_
  refine lv_iload_n hx hb d_Lw_359 rfl (lv_at hl 3 rfl) ?_
  refine lv_iconst (v := 1) hx hb d_Lw_360 (by decide) ?_
  refine lv_iadd hx hb d_Lw_361 ?_
  refine va_sld hx hb hX hbl hbA hW.2.1 (lw_in (j := 1) hn (by omega) hL exi) d_Lw_362 ?_
  refine lv_aload_n hx hb d_Lw_363 rfl (lv_at hl 0 rfl) ?_
  refine lv_iload_n hx hb d_Lw_364 rfl (lv_at hl 3 rfl) ?_
  refine lv_iconst (v := 2) hx hb d_Lw_365 (by decide) ?_
  refine lv_iadd hx hb d_Lw_366 ?_
  refine va_sld hx hb hX hbl hbA hW.2.1 (lw_in (j := 2) hn (by omega) hL exi) d_Lw_367 ?_
  refine ct_goi hW (ct_runV (As := [.int (xs (xi + 1 : Int32).toNatClampNeg), .int (xs (xi + 2 : Int32).toNatClampNeg)]) (rest := []) (q := (R_HR, F_HR, 13)) S hE hW (c_HR_exception l G _ _ tg r Ls Ps Ts ml md wd pl (xs (xi + 1 : Int32).toNatClampNeg) (xs (xi + 2 : Int32).toNatClampNeg) hh hwf) hr0 rfl kc_HR_exception kz_HR k_Lw_45 ki_HR_exception kv_HR_exception kd_HR_exception ⟨Nat.le_of_ble_eq_true rfl, Nat.le_of_ble_eq_true rfl⟩ hl.1 (Nat.le_of_ble_eq_true rfl) d_Lw_368 ⟨Nat.le_trans (Nat.add_le_add_right hce _) (Nat.le_of_ble_eq_true rfl), Nat.le_trans (Nat.add_le_add_right hsl _) (Nat.le_of_ble_eq_true rfl)⟩) (fun v_3 u_1 H locs hp_2 hW => ?_)
  obtain ⟨x1, tg1, hs1, hh1, he1, hk1⟩ := hp_2
  have hm1 := mo_kp hm hk1 he1
  obtain ⟨fst, ht0⟩ := mo_obj hm1
  refine lv_aload_n hx hb d_Lw_371 rfl (lv_at hl 2 rfl) ?_
  refine lv_aload_n hx hb d_Lw_372 rfl (lv_at hl 0 rfl) ?_
  refine lv_iload_n hx hb d_Lw_373 rfl (lv_at hl 3 rfl) ?_
  refine lv_iconst (v := 1) hx hb d_Lw_374 (by decide) ?_
  refine lv_iadd hx hb d_Lw_375 ?_
  refine va_sld hx hb hX hbl hbA hW.2.1 (lw_in (j := 1) hn (by omega) hL exi) d_Lw_376 ?_
  refine lv_aload_n hx hb d_Lw_377 rfl (lv_at hl 0 rfl) ?_
  refine lv_iload_n hx hb d_Lw_378 rfl (lv_at hl 3 rfl) ?_
  refine lv_iconst (v := 2) hx hb d_Lw_379 (by decide) ?_
  refine lv_iadd hx hb d_Lw_380 ?_
  refine va_sld hx hb hX hbl hbA hW.2.1 (lw_in (j := 2) hn (by omega) hL exi) d_Lw_381 ?_
  refine ct_goi hW (ct_runV (As := [.int (xs (xi + 1 : Int32).toNatClampNeg), .int (xs (xi + 2 : Int32).toNatClampNeg)]) (rest := [.int v_3]) (q := (R_Mo, F_Mo, 25)) S hE hW (c_Mo_exception l G _ _ tg1 t Ls Ps Ts ml md wd pl (xs (xi + 1 : Int32).toNatClampNeg) (xs (xi + 2 : Int32).toNatClampNeg) hm1 hwf) ht0 rfl kc_Mo_exception kz_Mo k_Lw_48 ki_Mo_exception kv_Mo_exception kd_Mo_exception ⟨Nat.le_of_ble_eq_true rfl, Nat.le_of_ble_eq_true rfl⟩ hl.1 (Nat.le_of_ble_eq_true rfl) d_Lw_382 ⟨Nat.le_trans (Nat.add_le_add_right (Nat.add_le_add_right hce _) _) (Nat.le_of_ble_eq_true rfl), Nat.le_trans (Nat.add_le_add_right (Nat.add_le_add_right hsl _) _) (Nat.le_of_ble_eq_true rfl)⟩) (fun v_6 u_4 H locs hp_5 hW => ?_)
  obtain ⟨x2, hs2, hm2, hk2⟩ := hp_5
  obtain ⟨ev9, ex9⟩ := on_exception hwf hs1 hs2
  subst ex9
  have hw2 := wk_exception hwf hs1
  refine lv_icmp_eq (tgt := 518) hx hb d_Lw_385 (by decide) (fun hbr => ?_) (fun hbr => ?_)
  · exact kk _ _ _ tg1 x1 _ _ (by show ce + 3 + 0 ≤ ce + 4; omega) (by show sl + 400 + 0 ≤ sl + 900; omega) ⟨hr_mk hh1 hw2 hk2, hm2, hw2⟩ hW ls (lv_sub hl [0, 1, 2, 3] rfl)
  · exact absurd ev9 hbr

set_option maxHeartbeats 4000000 in
set_option maxRecDepth 100000 in
theorem op_drop {p_ : Program} {l : Launch} {e_ : Env} {s : State} {m : MethodId} {args : Array Value} {below : List Frame} {meth : Method} {c_ : Code} {Q : State → Prop} {G : ev_G} {b L n r t : Nat} {xs : Nat → Int32} {xi : Int32} (S : CallFix p_ m c_ code 4 s args lw_good "HyphenRowsLaw") (hE : ev_K G (fun q : Nat => s.heap.size ≤ q) s s.heap) (hX : va_X b L xs s s.heap) (hbl : b < s.heap.size) (hL : L ≤ 2560) (exi : xi = nI (5 * n)) (hn : 5 * n + 5 ≤ L) {ce sl : Nat} {w : wd_M} {tg : Nat → Nat} {x : hy_S} {H : Heap} {locs : List Loc} {ls : Array Slot} (hce : ce ≤ 599000) (hsl : sl ≤ 7000000) (hI : lw_I G w tg r t x) (hW : wd_W G.1 ev_cl (fun q : Nat => s.heap.size ≤ q) w s.heap H locs) (hl : lv_has ls 4 [(0, .ref b), (1, .ref r), (2, .ref t), (3, .int xi)]) (kk : ∀ (ce2 sl2 : Nat) (w2 : wd_M) (tg2 : Nat → Nat) (x2 : hy_S) (H : Heap) (locs : List Loc), ce2 ≤ ce + 4 → sl2 ≤ sl + 900 → lw_I G w2 tg2 r t x2 → wd_W G.1 ev_cl (fun q : Nat => s.heap.size ≤ q) w2 s.heap H locs → ∀ ls : Array Slot, lv_has ls 4 [(0, .ref b), (1, .ref r), (2, .ref t), (3, .int xi)] → W p_ l e_ room_1 s m args below meth c_ H locs ce2 sl2 Q (F0 m 518 ls [])) : W p_ l e_ room_1 s m args below meth c_ H locs ce sl Q (F0 m 390 ls []) := by
  have hx := S.1
  have hb := S.2.1
  have hK := hE.1
  have hbA : ¬ (fun q : Nat => s.heap.size ≤ q) b := Nat.not_le.mpr hbl
  obtain ⟨Ls, Ps, Ts, ml, md, wd, pl⟩ := x
  obtain ⟨hh, hm, hwf⟩ := hI
  obtain ⟨fsr, hr0⟩ := hr_obj hh
  skip
  refine lv_aload_n hx hb d_Lw_390 rfl (lv_at hl 1 rfl) ?_
  refine lv_aload_n hx hb d_Lw_391 rfl (lv_at hl 0 rfl) ?_
  refine lv_iload_n hx hb d_Lw_392 rfl (lv_at hl 3 rfl) ?_
  refine lv_iconst (v := 1) hx hb d_Lw_393 (by decide) ?_
  refine lv_iadd hx hb d_Lw_394 ?_
  refine va_sld hx hb hX hbl hbA hW.2.1 (lw_in (j := 1) hn (by omega) hL exi) d_Lw_395 ?_
  refine ct_goi hW (ct_runV (As := [.int (xs (xi + 1 : Int32).toNatClampNeg)]) (rest := []) (q := (R_HR, F_HR, 13)) S hE hW (c_HR_drop l G _ _ tg r Ls Ps Ts ml md wd pl (xs (xi + 1 : Int32).toNatClampNeg) hh hwf) hr0 rfl kc_HR_drop kz_HR k_Lw_49 ki_HR_drop kv_HR_drop kd_HR_drop ⟨Nat.le_of_ble_eq_true rfl, Nat.le_of_ble_eq_true rfl⟩ hl.1 (Nat.le_of_ble_eq_true rfl) d_Lw_396 ⟨Nat.le_trans (Nat.add_le_add_right hce _) (Nat.le_of_ble_eq_true rfl), Nat.le_trans (Nat.add_le_add_right hsl _) (Nat.le_of_ble_eq_true rfl)⟩) (fun v_3 u_1 H locs hp_2 hW => ?_)
  obtain ⟨x1, tg1, hs1, hh1, he1, hk1⟩ := hp_2
  have hm1 := mo_kp hm hk1 he1
  obtain ⟨fst, ht0⟩ := mo_obj hm1
  refine lv_aload_n hx hb d_Lw_399 rfl (lv_at hl 2 rfl) ?_
  refine lv_aload_n hx hb d_Lw_400 rfl (lv_at hl 0 rfl) ?_
  refine lv_iload_n hx hb d_Lw_401 rfl (lv_at hl 3 rfl) ?_
  refine lv_iconst (v := 1) hx hb d_Lw_402 (by decide) ?_
  refine lv_iadd hx hb d_Lw_403 ?_
  refine va_sld hx hb hX hbl hbA hW.2.1 (lw_in (j := 1) hn (by omega) hL exi) d_Lw_404 ?_
  refine ct_goi hW (ct_runV (As := [.int (xs (xi + 1 : Int32).toNatClampNeg)]) (rest := [.int v_3]) (q := (R_Mo, F_Mo, 25)) S hE hW (c_Mo_drop l G _ _ tg1 t Ls Ps Ts ml md wd pl (xs (xi + 1 : Int32).toNatClampNeg) hm1 hwf) ht0 rfl kc_Mo_drop kz_Mo k_Lw_52 ki_Mo_drop kv_Mo_drop kd_Mo_drop ⟨Nat.le_of_ble_eq_true rfl, Nat.le_of_ble_eq_true rfl⟩ hl.1 (Nat.le_of_ble_eq_true rfl) d_Lw_405 ⟨Nat.le_trans (Nat.add_le_add_right (Nat.add_le_add_right hce _) _) (Nat.le_of_ble_eq_true rfl), Nat.le_trans (Nat.add_le_add_right (Nat.add_le_add_right hsl _) _) (Nat.le_of_ble_eq_true rfl)⟩) (fun v_6 u_4 H locs hp_5 hW => ?_)
  obtain ⟨x2, hs2, hm2, hk2⟩ := hp_5
  obtain ⟨ev9, ex9⟩ := on_drop hwf hs1 hs2
  subst ex9
  have hw2 := wk_drop hwf hs1
  refine lv_icmp_eq (tgt := 518) hx hb d_Lw_408 (by decide) (fun hbr => ?_) (fun hbr => ?_)
  · exact kk _ _ _ tg1 x1 _ _ (by show ce + 0 + 0 ≤ ce + 4; omega) (by show sl + 0 + 0 ≤ sl + 900; omega) ⟨hr_mk hh1 hw2 hk2, hm2, hw2⟩ hW ls (lv_sub hl [0, 1, 2, 3] rfl)
  · exact absurd ev9 hbr

set_option maxHeartbeats 4000000 in
set_option maxRecDepth 100000 in
theorem op_run {p_ : Program} {l : Launch} {e_ : Env} {s : State} {m : MethodId} {args : Array Value} {below : List Frame} {meth : Method} {c_ : Code} {Q : State → Prop} {G : ev_G} {b L n r t : Nat} {xs : Nat → Int32} {xi : Int32} (S : CallFix p_ m c_ code 4 s args lw_good "HyphenRowsLaw") (hE : ev_K G (fun q : Nat => s.heap.size ≤ q) s s.heap) (hX : va_X b L xs s s.heap) (hbl : b < s.heap.size) (hL : L ≤ 2560) (exi : xi = nI (5 * n)) (hn : 5 * n + 5 ≤ L) {ce sl : Nat} {w : wd_M} {tg : Nat → Nat} {x : hy_S} {H : Heap} {locs : List Loc} {ls : Array Slot} (hce : ce ≤ 599000) (hsl : sl ≤ 7000000) (hI : lw_I G w tg r t x) (hW : wd_W G.1 ev_cl (fun q : Nat => s.heap.size ≤ q) w s.heap H locs) (hl : lv_has ls 4 [(0, .ref b), (1, .ref r), (2, .ref t), (3, .int xi)]) (kk : ∀ (ce2 sl2 : Nat) (w2 : wd_M) (tg2 : Nat → Nat) (x2 : hy_S) (H : Heap) (locs : List Loc), ce2 ≤ ce + 4 → sl2 ≤ sl + 900 → lw_I G w2 tg2 r t x2 → wd_W G.1 ev_cl (fun q : Nat => s.heap.size ≤ q) w2 s.heap H locs → ∀ ls : Array Slot, lv_has ls 4 [(0, .ref b), (1, .ref r), (2, .ref t), (3, .int xi)] → W p_ l e_ room_1 s m args below meth c_ H locs ce2 sl2 Q (F0 m 518 ls [])) : W p_ l e_ room_1 s m args below meth c_ H locs ce sl Q (F0 m 413 ls []) := by
  have hx := S.1
  have hb := S.2.1
  have hK := hE.1
  have hbA : ¬ (fun q : Nat => s.heap.size ≤ q) b := Nat.not_le.mpr hbl
  obtain ⟨Ls, Ps, Ts, ml, md, wd, pl⟩ := x
  obtain ⟨hh, hm, hwf⟩ := hI
  obtain ⟨fsr, hr0⟩ := hr_obj hh
  skip
  refine lv_aload_n hx hb d_Lw_413 rfl (lv_at hl 1 rfl) ?_
  refine lv_aload_n hx hb d_Lw_414 rfl (lv_at hl 0 rfl) ?_
  refine lv_iload_n hx hb d_Lw_415 rfl (lv_at hl 3 rfl) ?_
  refine lv_iconst (v := 1) hx hb d_Lw_416 (by decide) ?_
  refine lv_iadd hx hb d_Lw_417 ?_
  refine va_sld hx hb hX hbl hbA hW.2.1 (lw_in (j := 1) hn (by omega) hL exi) d_Lw_418 ?_
  refine ct_goi hW (ct_runV (As := [.int (xs (xi + 1 : Int32).toNatClampNeg)]) (rest := []) (q := (R_HR, F_HR, 13)) S hE hW (c_HR_run l G _ _ tg r Ls Ps Ts ml md wd pl (xs (xi + 1 : Int32).toNatClampNeg) hh hwf) hr0 rfl kc_HR_run kz_HR k_Lw_53 ki_HR_run kv_HR_run kd_HR_run ⟨Nat.le_of_ble_eq_true rfl, Nat.le_of_ble_eq_true rfl⟩ hl.1 (Nat.le_of_ble_eq_true rfl) d_Lw_419 ⟨Nat.le_trans (Nat.add_le_add_right hce _) (Nat.le_of_ble_eq_true rfl), Nat.le_trans (Nat.add_le_add_right hsl _) (Nat.le_of_ble_eq_true rfl)⟩) (fun v_3 u_1 H locs hp_2 hW => ?_)
  obtain ⟨x1, tg1, hs1, hh1, he1, hk1⟩ := hp_2
  have hm1 := mo_kp hm hk1 he1
  obtain ⟨fst, ht0⟩ := mo_obj hm1
  refine lv_aload_n hx hb d_Lw_422 rfl (lv_at hl 2 rfl) ?_
  refine lv_aload_n hx hb d_Lw_423 rfl (lv_at hl 0 rfl) ?_
  refine lv_iload_n hx hb d_Lw_424 rfl (lv_at hl 3 rfl) ?_
  refine lv_iconst (v := 1) hx hb d_Lw_425 (by decide) ?_
  refine lv_iadd hx hb d_Lw_426 ?_
  refine va_sld hx hb hX hbl hbA hW.2.1 (lw_in (j := 1) hn (by omega) hL exi) d_Lw_427 ?_
  refine ct_goi hW (ct_runV (As := [.int (xs (xi + 1 : Int32).toNatClampNeg)]) (rest := [.int v_3]) (q := (R_Mo, F_Mo, 25)) S hE hW (c_Mo_run l G _ _ tg1 t Ls Ps Ts ml md wd pl (xs (xi + 1 : Int32).toNatClampNeg) hm1 hwf) ht0 rfl kc_Mo_run kz_Mo k_Lw_56 ki_Mo_run kv_Mo_run kd_Mo_run ⟨Nat.le_of_ble_eq_true rfl, Nat.le_of_ble_eq_true rfl⟩ hl.1 (Nat.le_of_ble_eq_true rfl) d_Lw_428 ⟨Nat.le_trans (Nat.add_le_add_right (Nat.add_le_add_right hce _) _) (Nat.le_of_ble_eq_true rfl), Nat.le_trans (Nat.add_le_add_right (Nat.add_le_add_right hsl _) _) (Nat.le_of_ble_eq_true rfl)⟩) (fun v_6 u_4 H locs hp_5 hW => ?_)
  obtain ⟨x2, hs2, hm2, hk2⟩ := hp_5
  obtain ⟨ev9, ex9⟩ := on_run hwf hs1 hs2
  subst ex9
  have hw2 := wk_run hwf hs1
  refine lv_icmp_eq (tgt := 518) hx hb d_Lw_431 (by decide) (fun hbr => ?_) (fun hbr => ?_)
  · exact kk _ _ _ tg1 x1 _ _ (by show ce + 0 + 0 ≤ ce + 4; omega) (by show sl + 0 + 0 ≤ sl + 900; omega) ⟨hr_mk hh1 hw2 hk2, hm2, hw2⟩ hW ls (lv_sub hl [0, 1, 2, 3] rfl)
  · exact absurd ev9 hbr

set_option maxHeartbeats 4000000 in
set_option maxRecDepth 100000 in
theorem op_at {p_ : Program} {l : Launch} {e_ : Env} {s : State} {m : MethodId} {args : Array Value} {below : List Frame} {meth : Method} {c_ : Code} {Q : State → Prop} {G : ev_G} {b L n r t : Nat} {xs : Nat → Int32} {xi : Int32} (S : CallFix p_ m c_ code 4 s args lw_good "HyphenRowsLaw") (hE : ev_K G (fun q : Nat => s.heap.size ≤ q) s s.heap) (hX : va_X b L xs s s.heap) (hbl : b < s.heap.size) (hL : L ≤ 2560) (exi : xi = nI (5 * n)) (hn : 5 * n + 5 ≤ L) {ce sl : Nat} {w : wd_M} {tg : Nat → Nat} {x : hy_S} {H : Heap} {locs : List Loc} {ls : Array Slot} (hce : ce ≤ 599000) (hsl : sl ≤ 7000000) (hI : lw_I G w tg r t x) (hW : wd_W G.1 ev_cl (fun q : Nat => s.heap.size ≤ q) w s.heap H locs) (hl : lv_has ls 4 [(0, .ref b), (1, .ref r), (2, .ref t), (3, .int xi)]) (kk : ∀ (ce2 sl2 : Nat) (w2 : wd_M) (tg2 : Nat → Nat) (x2 : hy_S) (H : Heap) (locs : List Loc), ce2 ≤ ce + 4 → sl2 ≤ sl + 900 → lw_I G w2 tg2 r t x2 → wd_W G.1 ev_cl (fun q : Nat => s.heap.size ≤ q) w2 s.heap H locs → ∀ ls : Array Slot, lv_has ls 4 [(0, .ref b), (1, .ref r), (2, .ref t), (3, .int xi)] → W p_ l e_ room_1 s m args below meth c_ H locs ce2 sl2 Q (F0 m 518 ls [])) : W p_ l e_ room_1 s m args below meth c_ H locs ce sl Q (F0 m 436 ls []) := by
  have hx := S.1
  have hb := S.2.1
  have hK := hE.1
  have hbA : ¬ (fun q : Nat => s.heap.size ≤ q) b := Nat.not_le.mpr hbl
  obtain ⟨Ls, Ps, Ts, ml, md, wd, pl⟩ := x
  obtain ⟨hh, hm, hwf⟩ := hI
  obtain ⟨fsr, hr0⟩ := hr_obj hh
  skip
  refine lv_aload_n hx hb d_Lw_436 rfl (lv_at hl 1 rfl) ?_
  refine lv_aload_n hx hb d_Lw_437 rfl (lv_at hl 0 rfl) ?_
  refine lv_iload_n hx hb d_Lw_438 rfl (lv_at hl 3 rfl) ?_
  refine lv_iconst (v := 1) hx hb d_Lw_439 (by decide) ?_
  refine lv_iadd hx hb d_Lw_440 ?_
  refine va_sld hx hb hX hbl hbA hW.2.1 (lw_in (j := 1) hn (by omega) hL exi) d_Lw_441 ?_
  refine ct_goi hW (ct_runV (As := [.int (xs (xi + 1 : Int32).toNatClampNeg)]) (rest := []) (q := (R_HR, F_HR, 13)) S hE hW (c_HR_at l G _ _ tg r Ls Ps Ts ml md wd pl (xs (xi + 1 : Int32).toNatClampNeg) hh hwf) hr0 rfl kc_HR_at kz_HR k_Lw_57 ki_HR_at kv_HR_at kd_HR_at ⟨Nat.le_of_ble_eq_true rfl, Nat.le_of_ble_eq_true rfl⟩ hl.1 (Nat.le_of_ble_eq_true rfl) d_Lw_442 ⟨Nat.le_trans (Nat.add_le_add_right hce _) (Nat.le_of_ble_eq_true rfl), Nat.le_trans (Nat.add_le_add_right hsl _) (Nat.le_of_ble_eq_true rfl)⟩) (fun v_3 u_1 H locs hp_2 hW => ?_)
  obtain ⟨x1, tg1, hs1, hh1, he1, hk1⟩ := hp_2
  have hm1 := mo_kp hm hk1 he1
  obtain ⟨fst, ht0⟩ := mo_obj hm1
  refine lv_aload_n hx hb d_Lw_445 rfl (lv_at hl 2 rfl) ?_
  refine lv_aload_n hx hb d_Lw_446 rfl (lv_at hl 0 rfl) ?_
  refine lv_iload_n hx hb d_Lw_447 rfl (lv_at hl 3 rfl) ?_
  refine lv_iconst (v := 1) hx hb d_Lw_448 (by decide) ?_
  refine lv_iadd hx hb d_Lw_449 ?_
  refine va_sld hx hb hX hbl hbA hW.2.1 (lw_in (j := 1) hn (by omega) hL exi) d_Lw_450 ?_
  refine ct_goi hW (ct_runV (As := [.int (xs (xi + 1 : Int32).toNatClampNeg)]) (rest := [.int v_3]) (q := (R_Mo, F_Mo, 25)) S hE hW (c_Mo_at l G _ _ tg1 t Ls Ps Ts ml md wd pl (xs (xi + 1 : Int32).toNatClampNeg) hm1 hwf) ht0 rfl kc_Mo_at kz_Mo k_Lw_60 ki_Mo_at kv_Mo_at kd_Mo_at ⟨Nat.le_of_ble_eq_true rfl, Nat.le_of_ble_eq_true rfl⟩ hl.1 (Nat.le_of_ble_eq_true rfl) d_Lw_451 ⟨Nat.le_trans (Nat.add_le_add_right (Nat.add_le_add_right hce _) _) (Nat.le_of_ble_eq_true rfl), Nat.le_trans (Nat.add_le_add_right (Nat.add_le_add_right hsl _) _) (Nat.le_of_ble_eq_true rfl)⟩) (fun v_6 u_4 H locs hp_5 hW => ?_)
  obtain ⟨x2, hs2, hm2, hk2⟩ := hp_5
  obtain ⟨ev9, ex9⟩ := on_at hwf hs1 hs2
  subst ex9
  have hw2 := wk_at hwf hs1
  refine lv_icmp_eq (tgt := 518) hx hb d_Lw_454 (by decide) (fun hbr => ?_) (fun hbr => ?_)
  · exact kk _ _ _ tg1 x1 _ _ (by show ce + 0 + 0 ≤ ce + 4; omega) (by show sl + 0 + 0 ≤ sl + 900; omega) ⟨hr_mk hh1 hw2 hk2, hm2, hw2⟩ hW ls (lv_sub hl [0, 1, 2, 3] rfl)
  · exact absurd ev9 hbr

set_option maxHeartbeats 4000000 in
set_option maxRecDepth 100000 in
theorem op_digit {p_ : Program} {l : Launch} {e_ : Env} {s : State} {m : MethodId} {args : Array Value} {below : List Frame} {meth : Method} {c_ : Code} {Q : State → Prop} {G : ev_G} {b L n r t : Nat} {xs : Nat → Int32} {xi : Int32} (S : CallFix p_ m c_ code 4 s args lw_good "HyphenRowsLaw") (hE : ev_K G (fun q : Nat => s.heap.size ≤ q) s s.heap) (hX : va_X b L xs s s.heap) (hbl : b < s.heap.size) (hL : L ≤ 2560) (exi : xi = nI (5 * n)) (hn : 5 * n + 5 ≤ L) {ce sl : Nat} {w : wd_M} {tg : Nat → Nat} {x : hy_S} {H : Heap} {locs : List Loc} {ls : Array Slot} (hce : ce ≤ 599000) (hsl : sl ≤ 7000000) (hI : lw_I G w tg r t x) (hW : wd_W G.1 ev_cl (fun q : Nat => s.heap.size ≤ q) w s.heap H locs) (hl : lv_has ls 4 [(0, .ref b), (1, .ref r), (2, .ref t), (3, .int xi)]) (kk : ∀ (ce2 sl2 : Nat) (w2 : wd_M) (tg2 : Nat → Nat) (x2 : hy_S) (H : Heap) (locs : List Loc), ce2 ≤ ce + 4 → sl2 ≤ sl + 900 → lw_I G w2 tg2 r t x2 → wd_W G.1 ev_cl (fun q : Nat => s.heap.size ≤ q) w2 s.heap H locs → ∀ ls : Array Slot, lv_has ls 4 [(0, .ref b), (1, .ref r), (2, .ref t), (3, .int xi)] → W p_ l e_ room_1 s m args below meth c_ H locs ce2 sl2 Q (F0 m 518 ls [])) : W p_ l e_ room_1 s m args below meth c_ H locs ce sl Q (F0 m 459 ls []) := by
  have hx := S.1
  have hb := S.2.1
  have hK := hE.1
  have hbA : ¬ (fun q : Nat => s.heap.size ≤ q) b := Nat.not_le.mpr hbl
  obtain ⟨Ls, Ps, Ts, ml, md, wd, pl⟩ := x
  obtain ⟨hh, hm, hwf⟩ := hI
  obtain ⟨fsr, hr0⟩ := hr_obj hh
  skip
  refine lv_aload_n hx hb d_Lw_459 rfl (lv_at hl 1 rfl) ?_
  refine lv_aload_n hx hb d_Lw_460 rfl (lv_at hl 0 rfl) ?_
  refine lv_iload_n hx hb d_Lw_461 rfl (lv_at hl 3 rfl) ?_
  refine lv_iconst (v := 1) hx hb d_Lw_462 (by decide) ?_
  refine lv_iadd hx hb d_Lw_463 ?_
  refine va_sld hx hb hX hbl hbA hW.2.1 (lw_in (j := 1) hn (by omega) hL exi) d_Lw_464 ?_
  refine lv_aload_n hx hb d_Lw_465 rfl (lv_at hl 0 rfl) ?_
  refine lv_iload_n hx hb d_Lw_466 rfl (lv_at hl 3 rfl) ?_
  refine lv_iconst (v := 2) hx hb d_Lw_467 (by decide) ?_
  refine lv_iadd hx hb d_Lw_468 ?_
  refine va_sld hx hb hX hbl hbA hW.2.1 (lw_in (j := 2) hn (by omega) hL exi) d_Lw_469 ?_
  refine ct_goi hW (ct_runV (As := [.int (xs (xi + 1 : Int32).toNatClampNeg), .int (xs (xi + 2 : Int32).toNatClampNeg)]) (rest := []) (q := (R_HR, F_HR, 13)) S hE hW (c_HR_digit l G _ _ tg r Ls Ps Ts ml md wd pl (xs (xi + 1 : Int32).toNatClampNeg) (xs (xi + 2 : Int32).toNatClampNeg) hh hwf) hr0 rfl kc_HR_digit kz_HR k_Lw_61 ki_HR_digit kv_HR_digit kd_HR_digit ⟨Nat.le_of_ble_eq_true rfl, Nat.le_of_ble_eq_true rfl⟩ hl.1 (Nat.le_of_ble_eq_true rfl) d_Lw_470 ⟨Nat.le_trans (Nat.add_le_add_right hce _) (Nat.le_of_ble_eq_true rfl), Nat.le_trans (Nat.add_le_add_right hsl _) (Nat.le_of_ble_eq_true rfl)⟩) (fun v_3 u_1 H locs hp_2 hW => ?_)
  obtain ⟨x1, tg1, hs1, hh1, he1, hk1⟩ := hp_2
  have hm1 := mo_kp hm hk1 he1
  obtain ⟨fst, ht0⟩ := mo_obj hm1
  refine lv_aload_n hx hb d_Lw_473 rfl (lv_at hl 2 rfl) ?_
  refine lv_aload_n hx hb d_Lw_474 rfl (lv_at hl 0 rfl) ?_
  refine lv_iload_n hx hb d_Lw_475 rfl (lv_at hl 3 rfl) ?_
  refine lv_iconst (v := 1) hx hb d_Lw_476 (by decide) ?_
  refine lv_iadd hx hb d_Lw_477 ?_
  refine va_sld hx hb hX hbl hbA hW.2.1 (lw_in (j := 1) hn (by omega) hL exi) d_Lw_478 ?_
  refine lv_aload_n hx hb d_Lw_479 rfl (lv_at hl 0 rfl) ?_
  refine lv_iload_n hx hb d_Lw_480 rfl (lv_at hl 3 rfl) ?_
  refine lv_iconst (v := 2) hx hb d_Lw_481 (by decide) ?_
  refine lv_iadd hx hb d_Lw_482 ?_
  refine va_sld hx hb hX hbl hbA hW.2.1 (lw_in (j := 2) hn (by omega) hL exi) d_Lw_483 ?_
  refine ct_goi hW (ct_runV (As := [.int (xs (xi + 1 : Int32).toNatClampNeg), .int (xs (xi + 2 : Int32).toNatClampNeg)]) (rest := [.int v_3]) (q := (R_Mo, F_Mo, 25)) S hE hW (c_Mo_digit l G _ _ tg1 t Ls Ps Ts ml md wd pl (xs (xi + 1 : Int32).toNatClampNeg) (xs (xi + 2 : Int32).toNatClampNeg) hm1 hwf) ht0 rfl kc_Mo_digit kz_Mo k_Lw_64 ki_Mo_digit kv_Mo_digit kd_Mo_digit ⟨Nat.le_of_ble_eq_true rfl, Nat.le_of_ble_eq_true rfl⟩ hl.1 (Nat.le_of_ble_eq_true rfl) d_Lw_484 ⟨Nat.le_trans (Nat.add_le_add_right (Nat.add_le_add_right hce _) _) (Nat.le_of_ble_eq_true rfl), Nat.le_trans (Nat.add_le_add_right (Nat.add_le_add_right hsl _) _) (Nat.le_of_ble_eq_true rfl)⟩) (fun v_6 u_4 H locs hp_5 hW => ?_)
  obtain ⟨x2, hs2, hm2, hk2⟩ := hp_5
  obtain ⟨ev9, ex9⟩ := on_digit hwf hs1 hs2
  subst ex9
  have hw2 := wk_digit hwf hs1
  refine lv_icmp_eq (tgt := 518) hx hb d_Lw_487 (by decide) (fun hbr => ?_) (fun hbr => ?_)
  · exact kk _ _ _ tg1 x1 _ _ (by show ce + 0 + 0 ≤ ce + 4; omega) (by show sl + 0 + 0 ≤ sl + 900; omega) ⟨hr_mk hh1 hw2 hk2, hm2, hw2⟩ hW ls (lv_sub hl [0, 1, 2, 3] rfl)
  · exact absurd ev9 hbr

set_option maxHeartbeats 4000000 in
set_option maxRecDepth 100000 in
theorem op_patterns {p_ : Program} {l : Launch} {e_ : Env} {s : State} {m : MethodId} {args : Array Value} {below : List Frame} {meth : Method} {c_ : Code} {Q : State → Prop} {G : ev_G} {b L n r t : Nat} {xs : Nat → Int32} {xi : Int32} (S : CallFix p_ m c_ code 4 s args lw_good "HyphenRowsLaw") (hE : ev_K G (fun q : Nat => s.heap.size ≤ q) s s.heap) (hX : va_X b L xs s s.heap) (hbl : b < s.heap.size) (hL : L ≤ 2560) (exi : xi = nI (5 * n)) (hn : 5 * n + 5 ≤ L) {ce sl : Nat} {w : wd_M} {tg : Nat → Nat} {x : hy_S} {H : Heap} {locs : List Loc} {ls : Array Slot} (hce : ce ≤ 599000) (hsl : sl ≤ 7000000) (hI : lw_I G w tg r t x) (hW : wd_W G.1 ev_cl (fun q : Nat => s.heap.size ≤ q) w s.heap H locs) (hl : lv_has ls 4 [(0, .ref b), (1, .ref r), (2, .ref t), (3, .int xi)]) (kk : ∀ (ce2 sl2 : Nat) (w2 : wd_M) (tg2 : Nat → Nat) (x2 : hy_S) (H : Heap) (locs : List Loc), ce2 ≤ ce + 4 → sl2 ≤ sl + 900 → lw_I G w2 tg2 r t x2 → wd_W G.1 ev_cl (fun q : Nat => s.heap.size ≤ q) w2 s.heap H locs → ∀ ls : Array Slot, lv_has ls 4 [(0, .ref b), (1, .ref r), (2, .ref t), (3, .int xi)] → W p_ l e_ room_1 s m args below meth c_ H locs ce2 sl2 Q (F0 m 518 ls [])) : W p_ l e_ room_1 s m args below meth c_ H locs ce sl Q (F0 m 492 ls []) := by
  have hx := S.1
  have hb := S.2.1
  have hK := hE.1
  have hbA : ¬ (fun q : Nat => s.heap.size ≤ q) b := Nat.not_le.mpr hbl
  obtain ⟨Ls, Ps, Ts, ml, md, wd, pl⟩ := x
  obtain ⟨hh, hm, hwf⟩ := hI
  obtain ⟨fsr, hr0⟩ := hr_obj hh
  skip
  refine lv_aload_n hx hb d_Lw_492 rfl (lv_at hl 1 rfl) ?_
  refine ct_goi hW (ct_runV (As := []) (rest := []) (q := (R_HR, F_HR, 13)) S hE hW (c_HR_patterns l G _ _ tg r Ls Ps Ts ml md wd pl  hh hwf) hr0 rfl kc_HR_patterns kz_HR k_Lw_65 ki_HR_patterns kv_HR_patterns kd_HR_patterns ⟨Nat.le_of_ble_eq_true rfl, Nat.le_of_ble_eq_true rfl⟩ hl.1 (Nat.le_of_ble_eq_true rfl) d_Lw_493 ⟨Nat.le_trans (Nat.add_le_add_right hce _) (Nat.le_of_ble_eq_true rfl), Nat.le_trans (Nat.add_le_add_right hsl _) (Nat.le_of_ble_eq_true rfl)⟩) (fun v_3 u_1 H locs hp_2 hW => ?_)
  obtain ⟨x1, tg1, hs1, hh1, he1, hk1⟩ := hp_2
  have hm1 := mo_kp hm hk1 he1
  obtain ⟨fst, ht0⟩ := mo_obj hm1
  refine lv_aload_n hx hb d_Lw_496 rfl (lv_at hl 2 rfl) ?_
  refine ct_goi hW (ct_runV (As := []) (rest := [.int v_3]) (q := (R_Mo, F_Mo, 25)) S hE hW (c_Mo_patterns l G _ _ tg1 t Ls Ps Ts ml md wd pl  hm1 hwf) ht0 rfl kc_Mo_patterns kz_Mo k_Lw_68 ki_Mo_patterns kv_Mo_patterns kd_Mo_patterns ⟨Nat.le_of_ble_eq_true rfl, Nat.le_of_ble_eq_true rfl⟩ hl.1 (Nat.le_of_ble_eq_true rfl) d_Lw_497 ⟨Nat.le_trans (Nat.add_le_add_right (Nat.add_le_add_right hce _) _) (Nat.le_of_ble_eq_true rfl), Nat.le_trans (Nat.add_le_add_right (Nat.add_le_add_right hsl _) _) (Nat.le_of_ble_eq_true rfl)⟩) (fun v_6 u_4 H locs hp_5 hW => ?_)
  obtain ⟨x2, hs2, hm2, hk2⟩ := hp_5
  obtain ⟨ev9, ex9⟩ := on_patterns hs1 hs2
  subst ex9
  have hw2 := wk_patterns hwf hs1
  refine lv_icmp_eq (tgt := 518) hx hb d_Lw_500 (by decide) (fun hbr => ?_) (fun hbr => ?_)
  · exact kk _ _ _ tg1 x1 _ _ (by show ce + 0 + 0 ≤ ce + 4; omega) (by show sl + 0 + 0 ≤ sl + 900; omega) ⟨hr_mk hh1 hw2 hk2, hm2, hw2⟩ hW ls (lv_sub hl [0, 1, 2, 3] rfl)
  · exact absurd ev9 hbr

set_option maxHeartbeats 4000000 in
set_option maxRecDepth 100000 in
theorem op_exceptions {p_ : Program} {l : Launch} {e_ : Env} {s : State} {m : MethodId} {args : Array Value} {below : List Frame} {meth : Method} {c_ : Code} {Q : State → Prop} {G : ev_G} {b L n r t : Nat} {xs : Nat → Int32} {xi : Int32} (S : CallFix p_ m c_ code 4 s args lw_good "HyphenRowsLaw") (hE : ev_K G (fun q : Nat => s.heap.size ≤ q) s s.heap) (hX : va_X b L xs s s.heap) (hbl : b < s.heap.size) (hL : L ≤ 2560) (exi : xi = nI (5 * n)) (hn : 5 * n + 5 ≤ L) {ce sl : Nat} {w : wd_M} {tg : Nat → Nat} {x : hy_S} {H : Heap} {locs : List Loc} {ls : Array Slot} (hce : ce ≤ 599000) (hsl : sl ≤ 7000000) (hI : lw_I G w tg r t x) (hW : wd_W G.1 ev_cl (fun q : Nat => s.heap.size ≤ q) w s.heap H locs) (hl : lv_has ls 4 [(0, .ref b), (1, .ref r), (2, .ref t), (3, .int xi)]) (kk : ∀ (ce2 sl2 : Nat) (w2 : wd_M) (tg2 : Nat → Nat) (x2 : hy_S) (H : Heap) (locs : List Loc), ce2 ≤ ce + 4 → sl2 ≤ sl + 900 → lw_I G w2 tg2 r t x2 → wd_W G.1 ev_cl (fun q : Nat => s.heap.size ≤ q) w2 s.heap H locs → ∀ ls : Array Slot, lv_has ls 4 [(0, .ref b), (1, .ref r), (2, .ref t), (3, .int xi)] → W p_ l e_ room_1 s m args below meth c_ H locs ce2 sl2 Q (F0 m 518 ls [])) : W p_ l e_ room_1 s m args below meth c_ H locs ce sl Q (F0 m 505 ls []) := by
  have hx := S.1
  have hb := S.2.1
  have hK := hE.1
  have hbA : ¬ (fun q : Nat => s.heap.size ≤ q) b := Nat.not_le.mpr hbl
  obtain ⟨Ls, Ps, Ts, ml, md, wd, pl⟩ := x
  obtain ⟨hh, hm, hwf⟩ := hI
  obtain ⟨fsr, hr0⟩ := hr_obj hh
  skip
  refine lv_aload_n hx hb d_Lw_505 rfl (lv_at hl 1 rfl) ?_
  refine ct_goi hW (ct_runV (As := []) (rest := []) (q := (R_HR, F_HR, 13)) S hE hW (c_HR_exceptions l G _ _ tg r Ls Ps Ts ml md wd pl  hh hwf) hr0 rfl kc_HR_exceptions kz_HR k_Lw_69 ki_HR_exceptions kv_HR_exceptions kd_HR_exceptions ⟨Nat.le_of_ble_eq_true rfl, Nat.le_of_ble_eq_true rfl⟩ hl.1 (Nat.le_of_ble_eq_true rfl) d_Lw_506 ⟨Nat.le_trans (Nat.add_le_add_right hce _) (Nat.le_of_ble_eq_true rfl), Nat.le_trans (Nat.add_le_add_right hsl _) (Nat.le_of_ble_eq_true rfl)⟩) (fun v_3 u_1 H locs hp_2 hW => ?_)
  obtain ⟨x1, tg1, hs1, hh1, he1, hk1⟩ := hp_2
  have hm1 := mo_kp hm hk1 he1
  obtain ⟨fst, ht0⟩ := mo_obj hm1
  refine lv_aload_n hx hb d_Lw_509 rfl (lv_at hl 2 rfl) ?_
  refine ct_goi hW (ct_runV (As := []) (rest := [.int v_3]) (q := (R_Mo, F_Mo, 25)) S hE hW (c_Mo_exceptions l G _ _ tg1 t Ls Ps Ts ml md wd pl  hm1 hwf) ht0 rfl kc_Mo_exceptions kz_Mo k_Lw_72 ki_Mo_exceptions kv_Mo_exceptions kd_Mo_exceptions ⟨Nat.le_of_ble_eq_true rfl, Nat.le_of_ble_eq_true rfl⟩ hl.1 (Nat.le_of_ble_eq_true rfl) d_Lw_510 ⟨Nat.le_trans (Nat.add_le_add_right (Nat.add_le_add_right hce _) _) (Nat.le_of_ble_eq_true rfl), Nat.le_trans (Nat.add_le_add_right (Nat.add_le_add_right hsl _) _) (Nat.le_of_ble_eq_true rfl)⟩) (fun v_6 u_4 H locs hp_5 hW => ?_)
  obtain ⟨x2, hs2, hm2, hk2⟩ := hp_5
  obtain ⟨ev9, ex9⟩ := on_exceptions hs1 hs2
  subst ex9
  have hw2 := wk_exceptions hwf hs1
  refine lv_icmp_eq (tgt := 518) hx hb d_Lw_513 (by decide) (fun hbr => ?_) (fun hbr => ?_)
  · exact kk _ _ _ tg1 x1 _ _ (by show ce + 0 + 0 ≤ ce + 4; omega) (by show sl + 0 + 0 ≤ sl + 900; omega) ⟨hr_mk hh1 hw2 hk2, hm2, hw2⟩ hW ls (lv_sub hl [0, 1, 2, 3] rfl)
  · exact absurd ev9 hbr

set_option maxHeartbeats 4000000 in
set_option maxRecDepth 100000 in
/-- THE LAW'S LOOP: at its head both hold one state -/
theorem lw_loop {p_ : Program} {l : Launch} {e_ : Env} {s : State} {m : MethodId} {below : List Frame} {meth : Method} {c_ : Code} {G : ev_G} {b L r t : Nat} {xs : Nat → Int32} (S : CallFix p_ m c_ code 4 s #[Value.ref b] lw_good "HyphenRowsLaw") (hE : ev_K G (fun q : Nat => s.heap.size ≤ q) s s.heap) (hX : va_X b L xs s s.heap) (hbl : b < s.heap.size) (hr : meth.sig.returnType = ret) (hlocks : meth.locks = false) (hL : L ≤ 2560) :
    ∀ (fu n : Nat) (xi : Int32) (ce sl : Nat) (w : wd_M) (tg : Nat → Nat) (x : hy_S) (H : Heap) (locs : List Loc) (ls : Array Slot), 513 ≤ n + fu → n ≤ 512 → xi = nI (5 * n) → ce ≤ 40 + 4 * n → sl ≤ 8000 + 900 * n → lw_I G w tg r t x → wd_W G.1 ev_cl (fun q : Nat => s.heap.size ≤ q) w s.heap H locs → lv_has ls 4 [(0, .ref b), (1, .ref r), (2, .ref t), (3, .int xi)] → W p_ l e_ room_1 s m #[Value.ref b] below meth c_ H locs ce sl (lw_Z below #[Value.ref b] s) (F0 m 18 ls []) := by
  have hx := S.1
  have hb := S.2.1
  have hK := hE.1
  have hbA : ¬ (fun q : Nat => s.heap.size ≤ q) b := Nat.not_le.mpr hbl
  intro fu
  induction fu with
  | zero =>
    intro n xi ce sl w tg x H locs ls hfu hn9
    exact absurd hfu (by omega)
  | succ fu ih =>
    intro n xi ce sl w tg x H locs ls hfu hn9 exi hce hsl hI hW hl
    refine lv_iload_n hx hb d_Lw_18 rfl (lv_at hl 3 rfl) ?_
    refine lv_aload_n hx hb d_Lw_19 rfl (lv_at hl 0 rfl) ?_
    refine va_slen hx hb hX hbl hbA hW.2.1 d_Lw_20 ?_
    refine lv_iconst (v := 5) hx hb d_Lw_21 (by decide) ?_
    refine lv_isub hx hb d_Lw_22 ?_
    refine lv_icmp_gt (tgt := 524) hx hb d_Lw_23 (by decide) (fun h23 => ?_) (fun h23 => ?_)
    · refine lv_iconst (v := 1) hx hb d_Lw_524 (by decide) ?_
      refine va_forget (fun q hq => hW.2.1.2.2 q hq) ?_
      refine W.widen (k := 600000) (n := 7302250) (by omega) (by omega) ?_
      exact lw_ret hx hb hr hlocks d_Lw_525
    · have h24 : ¬ (nI L - nI 5) < xi := h23
      have hn : 5 * n + 5 ≤ L := by have h9 := Int32.not_lt.mp h24; rw [exi, Int32.le_iff_toInt_le, nI_toInt (by omega), pk_sub_toInt (by omega) (by omega)] at h9; omega
      have hback : ∀ (ce2 sl2 : Nat) (w2 : wd_M) (tg2 : Nat → Nat) (x2 : hy_S) (H : Heap) (locs : List Loc), ce2 ≤ ce + 4 → sl2 ≤ sl + 900 → lw_I G w2 tg2 r t x2 → wd_W G.1 ev_cl (fun q : Nat => s.heap.size ≤ q) w2 s.heap H locs → ∀ ls : Array Slot, lv_has ls 4 [(0, .ref b), (1, .ref r), (2, .ref t), (3, .int xi)] → W p_ l e_ room_1 s m #[Value.ref b] below meth c_ H locs ce2 sl2 (lw_Z below #[Value.ref b] s) (F0 m 518 ls []) := by
        intro ce2 sl2 w2 tg2 x2 H locs hce2 hsl2 hI2 hW ls hl
        obtain ⟨xi2, exi2⟩ : ∃ y : Int32, y = xi + 5 := ⟨_, rfl⟩
        refine lv_iinc (v := xi2) (lv' := [(3, .int xi2), (0, .ref b), (1, .ref r), (2, .ref t)]) hx hb d_Lw_518 hl (k := 3) rfl (by rw [exi2]; rfl) (by decide) rfl (fun ls hl => ?_)
        refine lv_goto (tgt := 18) hx hb d_Lw_521 (by decide) ?_
        exact ih (n + 1) xi2 ce2 sl2 w2 tg2 x2 H locs _ (by omega) (by omega) (by rw [exi2, exi]; exact nI_add (5 * n) 5) (by omega) (by omega) hI2 hW (lv_sub hl [1, 2, 3, 0] rfl)
      refine lv_aload_n hx hb d_Lw_26 rfl (lv_at hl 0 rfl) ?_
      refine lv_iload_n hx hb d_Lw_27 rfl (lv_at hl 3 rfl) ?_
      refine va_sld hx hb hX hbl hbA hW.2.1 (lw_in0 hn hL exi) d_Lw_28 ?_
      refine lv_bipush (v := 15) hx hb d_Lw_29 (by decide) ?_
      refine lv_iand hx hb d_Lw_31 ?_
      refine lv_topi (fun x0 ex0 => ?_)
      by_cases hout : x0.toInt < 0 ∨ 13 < x0.toInt
      · refine lv_tableOut (tgt := 518) hx hb d_Lw_32 hout (by decide) ?_
        exact hback ce sl w tg x _ _ (by omega) (by omega) hI hW ls (lv_sub hl [0, 1, 2, 3] rfl)
      obtain ⟨j, hj, ej⟩ : ∃ j : Nat, j < 14 ∧ x0.toInt = (j : Int) := ⟨x0.toInt.toNat, by omega, by omega⟩
      match j, hj, ej with
      | 0, _, ej =>
        refine lv_tableIn (off := 72) (tgt := 104) hx hb d_Lw_32 (by omega) (by omega) (by rw [ej]; rfl) (by decide) ?_
        exact op_language S hE hX hbl hL exi hn (by omega) (by omega) hI hW (lv_sub hl [0, 1, 2, 3] rfl) hback
      | 1, _, ej =>
        refine lv_tableIn (off := 85) (tgt := 117) hx hb d_Lw_32 (by omega) (by omega) (by rw [ej]; rfl) (by decide) ?_
        exact op_code S hE hX hbl hL exi hn (by omega) (by omega) hI hW (lv_sub hl [0, 1, 2, 3] rfl) hback
      | 2, _, ej =>
        refine lv_tableIn (off := 154) (tgt := 186) hx hb d_Lw_32 (by omega) (by omega) (by rw [ej]; rfl) (by decide) ?_
        exact op_ends S hE hX hbl hL exi hn (by omega) (by omega) hI hW (lv_sub hl [0, 1, 2, 3] rfl) hback
      | 3, _, ej =>
        refine lv_tableIn (off := 223) (tgt := 255) hx hb d_Lw_32 (by omega) (by omega) (by rw [ej]; rfl) (by decide) ?_
        exact op_next S hE hX hbl hL exi hn (by omega) (by omega) hI hW (lv_sub hl [0, 1, 2, 3] rfl) hback
      | 4, _, ej =>
        refine lv_tableIn (off := 256) (tgt := 288) hx hb d_Lw_32 (by omega) (by omega) (by rw [ej]; rfl) (by decide) ?_
        exact op_pattern S hE hX hbl hL exi hn (by omega) (by omega) hI hW (lv_sub hl [0, 1, 2, 3] rfl) hback
      | 5, _, ej =>
        refine lv_tableIn (off := 289) (tgt := 321) hx hb d_Lw_32 (by omega) (by omega) (by rw [ej]; rfl) (by decide) ?_
        exact op_sign S hE hX hbl hL exi hn (by omega) (by omega) hI hW (lv_sub hl [0, 1, 2, 3] rfl) hback
      | 6, _, ej =>
        refine lv_tableIn (off := 312) (tgt := 344) hx hb d_Lw_32 (by omega) (by omega) (by rw [ej]; rfl) (by decide) ?_
        exact op_clear S hE hX hbl hL exi hn (by omega) (by omega) hI hW (lv_sub hl [0, 1, 2, 3] rfl) hback
      | 7, _, ej =>
        refine lv_tableIn (off := 325) (tgt := 357) hx hb d_Lw_32 (by omega) (by omega) (by rw [ej]; rfl) (by decide) ?_
        exact op_exception S hE hX hbl hL exi hn (by omega) (by omega) hI hW (lv_sub hl [0, 1, 2, 3] rfl) hback
      | 8, _, ej =>
        refine lv_tableIn (off := 358) (tgt := 390) hx hb d_Lw_32 (by omega) (by omega) (by rw [ej]; rfl) (by decide) ?_
        exact op_drop S hE hX hbl hL exi hn (by omega) (by omega) hI hW (lv_sub hl [0, 1, 2, 3] rfl) hback
      | 9, _, ej =>
        refine lv_tableIn (off := 381) (tgt := 413) hx hb d_Lw_32 (by omega) (by omega) (by rw [ej]; rfl) (by decide) ?_
        exact op_run S hE hX hbl hL exi hn (by omega) (by omega) hI hW (lv_sub hl [0, 1, 2, 3] rfl) hback
      | 10, _, ej =>
        refine lv_tableIn (off := 404) (tgt := 436) hx hb d_Lw_32 (by omega) (by omega) (by rw [ej]; rfl) (by decide) ?_
        exact op_at S hE hX hbl hL exi hn (by omega) (by omega) hI hW (lv_sub hl [0, 1, 2, 3] rfl) hback
      | 11, _, ej =>
        refine lv_tableIn (off := 427) (tgt := 459) hx hb d_Lw_32 (by omega) (by omega) (by rw [ej]; rfl) (by decide) ?_
        exact op_digit S hE hX hbl hL exi hn (by omega) (by omega) hI hW (lv_sub hl [0, 1, 2, 3] rfl) hback
      | 12, _, ej =>
        refine lv_tableIn (off := 460) (tgt := 492) hx hb d_Lw_32 (by omega) (by omega) (by rw [ej]; rfl) (by decide) ?_
        exact op_patterns S hE hX hbl hL exi hn (by omega) (by omega) hI hW (lv_sub hl [0, 1, 2, 3] rfl) hback
      | 13, _, ej =>
        refine lv_tableIn (off := 473) (tgt := 505) hx hb d_Lw_32 (by omega) (by omega) (by rw [ej]; rfl) (by decide) ?_
        exact op_exceptions S hE hX hbl hL exi hn (by omega) (by omega) hI hW (lv_sub hl [0, 1, 2, 3] rfl) hback
      | j + 14, hj, _ => exact absurd hj (by omega)

set_option maxHeartbeats 4000000 in
set_option maxRecDepth 100000 in
/-- THE LAW, from its entry -/
theorem whole_start {p : Program} {e : Env} {s : State} {m : MethodId} {below : List Frame} {meth : Method} {c : Code} (l : Launch) {b L : Nat} {xs : Nat → Int32} (hL : L ≤ 2560) (C0 : lw_At p s m meth c b L xs) : W p l e room_1 s m #[Value.ref b] below meth c s.heap [] 0 0 (lw_Z below #[Value.ref b] s) (entryFrame m ([Value.ref b] : List Value).toArray 4) := by
  obtain ⟨G, hE⟩ := lw_env C0
  obtain ⟨hx, hb, hr, hml, hown, hts, hX, hbl, hlocks, hgv⟩ := id C0
  have S : CallFix p m c code 4 s #[Value.ref b] lw_good "HyphenRowsLaw" := ⟨hx, hb, hml, hown, fun w h => hts w (lw_good_tbl w h)⟩
  have hK := hE.1
  have hW : wd_W G.1 ev_cl (fun q : Nat => s.heap.size ≤ q) (fun _ => none) s.heap s.heap [] := ⟨⟨[], fun a => ⟨fun h => (by cases h), fun h => absurd rfl h⟩, fun k q h => (by simp [va_pl] at h), ⟨fun i j p q h => (by simp [va_pl] at h), fun k q h => (by simp [va_pl] at h)⟩⟩, va_S.rf, fun q h => h⟩
  have hl := lv_entry ([.ref b]) (n := 4) (Nat.le_of_ble_eq_true rfl)
  rw [lg_entry_eq]
  generalize (lg_sl ([.ref b]) ++ List.replicate (4 - (lg_sl ([.ref b])).length) Slot.unset).toArray = ls at hl ⊢
  have hl : lv_has ls 4 [(0, .ref b)] := hl
  refine wd_new S i_HR t_HR t_HR_ok k_Lw_7 kt_HR kz_HR hK hW (ci := 0) rfl (fs := [.null, .null, .null, .int 0, .null, .null, .int 0, .null, .int 0, .null, .null, .null, .int 0]) (fun j hj => by match j, hj with
    | 0, _ => rfl
    | 1, _ => rfl
    | 2, _ => rfl
    | 3, _ => rfl
    | 4, _ => rfl
    | 5, _ => rfl
    | 6, _ => rfl
    | 7, _ => rfl
    | 8, _ => rfl
    | 9, _ => rfl
    | 10, _ => rfl
    | 11, _ => rfl
    | 12, _ => rfl
    | j + 13, h => exact absurd h (by omega)) (Nat.le_of_ble_eq_true rfl) (Nat.le_of_ble_eq_true rfl) d_Lw_0 (fun r H hrn w1 ew1 hW => ?_)
  have hr0 := wd_here ew1
  refine lv_dup hx hb d_Lw_3 rfl ?_
  refine ct_gov hW (ct_runI (As := []) (rest := [.ref r]) S hE hW (c_HR_init l G _ _ (fun _ => 0) r hr0) kc_HR_init kz_HR k_Lw_9 ki_HR_init rfl kd_HR_init ⟨Nat.le_of_ble_eq_true rfl, Nat.le_of_ble_eq_true rfl⟩ hl.1 (Nat.le_of_ble_eq_true rfl) d_Lw_4 ⟨Nat.le_of_ble_eq_true rfl, Nat.le_of_ble_eq_true rfl⟩) (fun u_1 H locs hp_2 hW => ?_)
  obtain ⟨tg2, hh, -, -⟩ := hp_2
  refine lv_astore_n (lv' := [(1, .ref r), (0, .ref b)]) hx hb d_Lw_7 rfl hl (by decide) rfl (fun ls hl => ?_)
  refine wd_new S i_Mo t_Mo t_Mo_ok k_Lw_10 kt_Mo kz_Mo hK hW (ci := 5) rfl (fs := [.int 0, .null, .null, .null, .null, .null, .int 0, .null, .null, .int 0, .int 0, .null, .null, .null, .null, .int 0, .null, .null, .null, .null, .int 0, .null, .null, .int 0, .null]) (fun j hj => by match j, hj with
    | 0, _ => rfl
    | 1, _ => rfl
    | 2, _ => rfl
    | 3, _ => rfl
    | 4, _ => rfl
    | 5, _ => rfl
    | 6, _ => rfl
    | 7, _ => rfl
    | 8, _ => rfl
    | 9, _ => rfl
    | 10, _ => rfl
    | 11, _ => rfl
    | 12, _ => rfl
    | 13, _ => rfl
    | 14, _ => rfl
    | 15, _ => rfl
    | 16, _ => rfl
    | 17, _ => rfl
    | 18, _ => rfl
    | 19, _ => rfl
    | 20, _ => rfl
    | 21, _ => rfl
    | 22, _ => rfl
    | 23, _ => rfl
    | 24, _ => rfl
    | j + 25, h => exact absurd h (by omega)) (Nat.le_of_ble_eq_true rfl) (Nat.le_of_ble_eq_true rfl) d_Lw_8 (fun t H htn w3 ew3 hW => ?_)
  have ht0 := wd_here ew3
  refine lv_dup hx hb d_Lw_11 rfl ?_
  refine ct_gov hW (ct_runI (As := []) (rest := [.ref t]) S hE hW (c_Mo_init l G _ _ tg2 t ht0) kc_Mo_init kz_Mo k_Lw_12 ki_Mo_init rfl kd_Mo_init ⟨Nat.le_of_ble_eq_true rfl, Nat.le_of_ble_eq_true rfl⟩ hl.1 (Nat.le_of_ble_eq_true rfl) d_Lw_12 ⟨Nat.le_of_ble_eq_true rfl, Nat.le_of_ble_eq_true rfl⟩) (fun u_4 H locs hp_5 hW => ?_)
  obtain ⟨tg3, hm, hx3, hk3⟩ := hp_5
  have hwf : wf_S (([], [], [], [], [], [], []) : hy_S) := ⟨by decide, by decide, by decide, rfl, by decide, by decide, by decide, by decide, fun y hy => (by simp at hy), fun y hy => (by simp at hy), fun y hy => (by simp at hy), fun y hy => (by simp at hy), fun y hy => (by simp at hy), fun y hy => (by simp at hy), fun y hy => (by simp at hy)⟩
  have hnt : ∀ q, u_1 q ≠ none → q ≠ t := fun q hq z => hq (by rw [z]; exact htn)
  have hwk : ∀ q, u_1 q ≠ none → w3 q = u_1 q := fun q hq => by rw [ew3, va_up_ne _ _ (hnt q hq)]
  have hh3 : hr_S G u_4 tg3 r ([], [], [], [], [], [], []) := hr_fr (w := u_1) (tg := tg2) hh hwf (fun q hq => (hk3 q (by rw [hwk q hq]; exact hq) (hnt q hq)).trans (hwk q hq)) (fun q hq => hx3 q (by rw [hwk q hq]; exact hq) (hnt q hq)) (wd_z0 hE hW)
  refine lv_astore_n (lv' := [(2, .ref t), (1, .ref r), (0, .ref b)]) hx hb d_Lw_15 rfl hl (by decide) rfl (fun ls hl => ?_)
  refine lv_iconst (v := 0) hx hb d_Lw_16 (by decide) ?_
  refine lv_istore_n (lv' := [(3, .int 0), (2, .ref t), (1, .ref r), (0, .ref b)]) hx hb d_Lw_17 rfl hl (by decide) rfl (fun ls hl => ?_)
  exact lw_loop S hE hX hbl hr hlocks hL 513 0 0 _ _ _ tg3 ([], [], [], [], [], [], []) _ _ _ (by omega) (by omega) nI_0.symm (Nat.le_of_ble_eq_true rfl) (Nat.le_of_ble_eq_true rfl) ⟨hh3, hm, hwf⟩ hW (lv_sub hl [3, 2, 1, 0] rfl)
