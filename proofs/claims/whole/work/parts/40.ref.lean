/-! THE REFERENCE: how it holds its state; its small calls. -/

def mo_c (G : ev_G) (w : wd_M) (t : Nat) (C : Nat → Nat) (M : Nat → Nat → Int32) (ln mk pn tn en sn qn : Int32) : Prop :=
  w t = some (.inr (5, [.int ln, .ref (C 0), .ref (C 1), .ref (C 2), .ref (C 3), .ref (C 4), .int mk, .ref (C 5), .ref (C 6), .int pn, .int tn, .ref (C 7), .ref (C 8), .ref (C 9), .ref (C 10), .int en, .ref (C 11), .ref (C 12), .ref (C 13), .ref (C 14), .int sn, .ref (C 15), .ref (C 16), .int qn, .ref (C 17)])) ∧ w (C 0) = some (.inl (G.2.1 0, 1024, .inl (M 0))) ∧ w (C 1) = some (.inl (G.2.1 1, 1024, .inl (M 1))) ∧ w (C 2) = some (.inl (G.2.1 0, 4, .inl (M 2))) ∧ w (C 3) = some (.inl (G.2.1 0, 4, .inl (M 3))) ∧ w (C 4) = some (.inl (G.2.1 1, 4, .inl (M 4))) ∧ w (C 5) = some (.inl (G.2.1 0, 12, .inl (M 5))) ∧ w (C 6) = some (.inl (G.2.1 0, 13, .inl (M 6))) ∧ w (C 7) = some (.inl (G.2.1 0, 150, .inl (M 7))) ∧ w (C 8) = some (.inl (G.2.1 0, 150, .inl (M 8))) ∧ w (C 9) = some (.inl (G.2.1 0, 1800, .inl (M 9))) ∧ w (C 10) = some (.inl (G.2.1 0, 1950, .inl (M 10))) ∧ w (C 11) = some (.inl (G.2.1 0, 40, .inl (M 11))) ∧ w (C 12) = some (.inl (G.2.1 0, 40, .inl (M 12))) ∧ w (C 13) = some (.inl (G.2.1 0, 1200, .inl (M 13))) ∧ w (C 14) = some (.inl (G.2.1 0, 40, .inl (M 14))) ∧ w (C 15) = some (.inl (G.2.1 0, 30, .inl (M 15))) ∧ w (C 16) = some (.inl (G.2.1 0, 32, .inl (M 16))) ∧ w (C 17) = some (.inl (G.2.1 0, 32, .inl (M 17)))
def mo_g (tg : Nat → Nat) (t : Nat) (C : Nat → Nat) : Prop := tg t = 500 ∧ ∀ i, i < 18 → tg (C i) = 501 + i
/-- the languages, in the reference's arrays -/
def mo_l (Ls : List hy_L) (M : Nat → Nat → Int32) : Prop := (∀ (i : Nat) (lg : hy_L), Ls[i]? = some lg → (∀ s, s < 256 → M 0 (256 * i + s) = lg.1 s ∧ M 1 (256 * i + s) = lg.2.1 s) ∧ M 2 i = nI lg.2.2.1 ∧ M 3 i = nI lg.2.2.2.1 ∧ M 4 i = lg.2.2.2.2) ∧ ∀ i, Ls.length ≤ i → i < 4 → (∀ s, s < 256 → M 0 (256 * i + s) = 0 ∧ M 1 (256 * i + s) = 0) ∧ M 4 i = 0
def mo_p (Ps : List hy_P) (M : Nat → Nat → Int32) : Prop := ∀ (k : Nat) (p : hy_P), Ps[k]? = some p → M 7 k = nI p.1 ∧ M 8 k = nI p.2.1.length ∧ (∀ (i : Nat) (x : Int32), p.2.1[i]? = some x → M 9 (12 * k + i) = x) ∧ ∀ (i : Nat) (x : Int32), p.2.2[i]? = some x → M 10 (13 * k + i) = x
def mo_t (Ts : List hy_T) (M : Nat → Nat → Int32) : Prop := ∀ (k : Nat) (q : hy_T), Ts[k]? = some q → M 11 k = nI q.1 ∧ M 12 k = nI q.2.1.length ∧ (∀ (i : Nat) (x : Int32), q.2.1[i]? = some x → M 13 (30 * k + i) = x) ∧ M 14 k = q.2.2
/-- THE REFERENCE HOLDS THE STATE -/
def mo_ (G : ev_G) (w : wd_M) (tg : Nat → Nat) (t : Nat) (Ls : List hy_L) (Ps : List hy_P) (Ts : List hy_T) (ml md wd : List Int32) (pl : List Nat) : Prop :=
  ∃ (C : Nat → Nat) (M : Nat → Nat → Int32), mo_c G w t C M (nI Ls.length) (nI ml.length) (nI Ps.length) (nI (hy_tot Ps)) (nI Ts.length) (nI wd.length) (nI pl.length) ∧ mo_g tg t C ∧ mo_l Ls M ∧ mo_p Ps M ∧ mo_t Ts M ∧ li_ ml (M 5) ∧ li_ md (M 6) ∧ li_ wd (M 15) ∧ li_ (pl.map nI) (M 17)
def mo_S (G : ev_G) (w : wd_M) (tg : Nat → Nat) (t : Nat) (x : hy_S) : Prop := mo_ G w tg t x.1 x.2.1 x.2.2.1 x.2.2.2.1 x.2.2.2.2.1 x.2.2.2.2.2.1 x.2.2.2.2.2.2
def mk_ (w u : wd_M) (tg : Nat → Nat) : Prop := (∀ q, ¬ (500 ≤ tg q ∧ tg q < 600) → u q = w q) ∧ ∀ q, u q = none ↔ w q = none
def mq_ (G : ev_G) (w : wd_M) (tg : Nat → Nat) (t : Nat) (sp : Int32 → hy_S → Prop) (v : Int32) (u : wd_M) : Prop := ∃ x : hy_S, sp v x ∧ mo_S G u tg t x ∧ mk_ w u tg
theorem mk_rf {w : wd_M} {tg : Nat → Nat} : mk_ w w tg := ⟨fun _ _ => rfl, fun _ => Iff.rfl⟩
theorem mk_up {w w1 w2 : wd_M} {tg : Nat → Nat} {a : Nat} {x y : va_E} (h : mk_ w w1 tg) (ha : w1 a = some y) (e1 : w2 = va_up w1 a (some x)) (ht : 500 ≤ tg a ∧ tg a < 600) : mk_ w w2 tg := ⟨fun q hq => by rw [e1, va_up_ne _ _ (fun z => hq (by rw [z]; exact ht))]; exact h.1 q hq, fun q => by rw [e1]; exact (up_dom ha).trans (h.2 q)⟩
theorem mo_lc {Ls : List hy_L} {M M2 : Nat → Nat → Int32} (h : mo_l Ls M) (e : ∀ k, k < 5 → M2 k = M k) : mo_l Ls M2 := by
  unfold mo_l at h ⊢
  rw [e 0 (by omega), e 1 (by omega), e 2 (by omega), e 3 (by omega), e 4 (by omega)]
  exact h
theorem mo_pc {Ps : List hy_P} {M M2 : Nat → Nat → Int32} (h : mo_p Ps M) (e : ∀ k, 7 ≤ k → k < 11 → M2 k = M k) : mo_p Ps M2 := by
  unfold mo_p at h ⊢
  rw [e 7 (by omega) (by omega), e 8 (by omega) (by omega), e 9 (by omega) (by omega), e 10 (by omega) (by omega)]
  exact h
theorem mo_tc {Ts : List hy_T} {M M2 : Nat → Nat → Int32} (h : mo_t Ts M) (e : ∀ k, 11 ≤ k → k < 15 → M2 k = M k) : mo_t Ts M2 := by
  unfold mo_t at h ⊢
  rw [e 11 (by omega) (by omega), e 12 (by omega) (by omega), e 13 (by omega) (by omega), e 14 (by omega) (by omega)]
  exact h

set_option maxHeartbeats 4000000 in
set_option maxRecDepth 100000 in
/-- isLanguage(x) -/
theorem c_Mo_isLanguage (l : Launch) (G : ev_G) (w : wd_M) (sz : Nat) (t : Nat) (C : Nat → Nat) (M : Nat → Nat → Int32) (mk pn tn en sn qn : Int32) (n : Nat) (x : Int32) (hc : mo_c G w t C M (nI n) mk pn tn en sn qn) : ct_i l y_Mo_isLanguage b_Mo_isLanguage 2 (some FieldType.boolean) (rm_ 0 0 0) G w sz [.ref t, .int x] (fun v u => bl_ v (nm_ x n) ∧ u = w) := by
  refine ct_enter (by decide +kernel) (Nat.le_of_ble_eq_true rfl) ?_
  intro p_ e_ s m below meth c_ hsz S hr hlocks hname hE hW ls hl
  have S : CallFix p_ m c_ b_Mo_isLanguage 2 s _ lw_good "HyphenRowsModel" := S
  have hx := S.1
  have hb := S.2.1
  have hK := hE.1
  have hl : lv_has ls 2 [(0, .ref t), (1, .int x)] := hl
  obtain ⟨ht0, -⟩ := id hc
  refine lv_iload_n hx hb d_Mo_isLanguage_0 rfl (lv_at hl 1 rfl) ?_
  refine lv_if_lt (tgt := 16) hx hb d_Mo_isLanguage_1 (by decide) (fun h1 => ?_) (fun h1 => ?_)
  · refine lv_iconst (v := 0) hx hb d_Mo_isLanguage_16 (by decide) ?_
    exact ct_iret S hr rfl hlocks hW (⟨Or.inr ⟨rfl, fun q => q.1 h1⟩, rfl⟩) (Nat.le_refl _) (Nat.le_refl _) d_Mo_isLanguage_17
  · refine lv_iload_n hx hb d_Mo_isLanguage_4 rfl (lv_at hl 1 rfl) ?_
    refine lv_aload_n hx hb d_Mo_isLanguage_5 rfl (lv_at hl 0 rfl) ?_
    refine wd_get S i_Mo hK hW ht0 rfl 0 (by decide) k_Mo_65 rfl rfl d_Mo_isLanguage_6 ?_
    refine lv_icmp_ge (tgt := 16) hx hb d_Mo_isLanguage_9 (by decide) (fun hq => ?_) (fun hq => ?_)
    · refine lv_iconst (v := 0) hx hb d_Mo_isLanguage_16 (by decide) ?_
      exact ct_iret S hr rfl hlocks hW (⟨Or.inr ⟨rfl, fun q => q.2 hq⟩, rfl⟩) (Nat.le_refl _) (Nat.le_refl _) d_Mo_isLanguage_17
    · refine lv_iconst (v := 1) hx hb d_Mo_isLanguage_12 (by decide) ?_
      refine lv_goto (tgt := 17) hx hb d_Mo_isLanguage_13 (by decide) ?_
      exact ct_iret S hr rfl hlocks hW (⟨Or.inl ⟨rfl, h1, hq⟩, rfl⟩) (Nat.le_refl _) (Nat.le_refl _) d_Mo_isLanguage_17

set_option maxHeartbeats 4000000 in
set_option maxRecDepth 100000 in
/-- the reference: patterns -/
theorem c_Mo_patterns (l : Launch) (G : ev_G) (w : wd_M) (sz : Nat) (tg : Nat → Nat) (t : Nat) (Ls : List hy_L) (Ps : List hy_P) (Ts : List hy_T) (ml md wd : List Int32) (pl : List Nat) (h : mo_ G w tg t Ls Ps Ts ml md wd pl) (hwf : hy_wf Ls Ps Ts ml md wd pl) : ct_i l y_Mo_patterns b_Mo_patterns 1 (some FieldType.int) (rm_ 1 0 0) G w sz [.ref t] (mq_ G w tg t (sp_patterns (Ls, Ps, Ts, ml, md, wd, pl))) := by
  refine ct_enter (by decide +kernel) (Nat.le_of_ble_eq_true rfl) ?_
  intro p_ e_ s m below meth c_ hsz S hr hlocks hname hE hW ls hl
  have S : CallFix p_ m c_ b_Mo_patterns 1 s _ lw_good "HyphenRowsModel" := S
  have hx := S.1
  have hb := S.2.1
  have hK := hE.1
  have hl : lv_has ls 1 [(0, .ref t)] := hl
  obtain ⟨C, M, hc, hT, hl0, hp0, hq0, hml, hmd, hwd, hpl⟩ := id h
  obtain ⟨ht0, c0, c1, c2, c3, c4, c5, c6, c7, c8, c9, c10, c11, c12, c13, c14, c15, c16, c17⟩ := id hc
  obtain ⟨wL, wP, wT, wm, wml, wwd, wpl, wtot, wmx, wdx, wws, wplx, wlg, wps, wts⟩ := id hwf
  have hmk : mk_ w w tg := mk_rf
  refine lv_aload_n hx hb d_Mo_patterns_0 rfl (lv_at hl 0 rfl) ?_
  refine wd_get S i_Mo hK hW ht0 rfl 9 (by decide) k_Mo_80 rfl rfl d_Mo_patterns_1 ?_
  exact ct_iret S hr rfl hlocks hW (⟨_, ⟨rfl, rfl⟩, h, mk_rf⟩) (Nat.le_of_ble_eq_true rfl) (Nat.le_of_ble_eq_true rfl) d_Mo_patterns_4

set_option maxHeartbeats 4000000 in
set_option maxRecDepth 100000 in
/-- the reference: exceptions -/
theorem c_Mo_exceptions (l : Launch) (G : ev_G) (w : wd_M) (sz : Nat) (tg : Nat → Nat) (t : Nat) (Ls : List hy_L) (Ps : List hy_P) (Ts : List hy_T) (ml md wd : List Int32) (pl : List Nat) (h : mo_ G w tg t Ls Ps Ts ml md wd pl) (hwf : hy_wf Ls Ps Ts ml md wd pl) : ct_i l y_Mo_exceptions b_Mo_exceptions 1 (some FieldType.int) (rm_ 1 0 0) G w sz [.ref t] (mq_ G w tg t (sp_exceptions (Ls, Ps, Ts, ml, md, wd, pl))) := by
  refine ct_enter (by decide +kernel) (Nat.le_of_ble_eq_true rfl) ?_
  intro p_ e_ s m below meth c_ hsz S hr hlocks hname hE hW ls hl
  have S : CallFix p_ m c_ b_Mo_exceptions 1 s _ lw_good "HyphenRowsModel" := S
  have hx := S.1
  have hb := S.2.1
  have hK := hE.1
  have hl : lv_has ls 1 [(0, .ref t)] := hl
  obtain ⟨C, M, hc, hT, hl0, hp0, hq0, hml, hmd, hwd, hpl⟩ := id h
  obtain ⟨ht0, c0, c1, c2, c3, c4, c5, c6, c7, c8, c9, c10, c11, c12, c13, c14, c15, c16, c17⟩ := id hc
  obtain ⟨wL, wP, wT, wm, wml, wwd, wpl, wtot, wmx, wdx, wws, wplx, wlg, wps, wts⟩ := id hwf
  have hmk : mk_ w w tg := mk_rf
  refine lv_aload_n hx hb d_Mo_exceptions_0 rfl (lv_at hl 0 rfl) ?_
  refine wd_get S i_Mo hK hW ht0 rfl 15 (by decide) k_Mo_97 rfl rfl d_Mo_exceptions_1 ?_
  exact ct_iret S hr rfl hlocks hW (⟨_, ⟨rfl, rfl⟩, h, mk_rf⟩) (Nat.le_of_ble_eq_true rfl) (Nat.le_of_ble_eq_true rfl) d_Mo_exceptions_4

set_option maxHeartbeats 4000000 in
set_option maxRecDepth 100000 in
/-- the reference: clear -/
theorem c_Mo_clear (l : Launch) (G : ev_G) (w : wd_M) (sz : Nat) (tg : Nat → Nat) (t : Nat) (Ls : List hy_L) (Ps : List hy_P) (Ts : List hy_T) (ml md wd : List Int32) (pl : List Nat) (h : mo_ G w tg t Ls Ps Ts ml md wd pl) (hwf : hy_wf Ls Ps Ts ml md wd pl) : ct_i l y_Mo_clear b_Mo_clear 2 (some FieldType.int) (rm_ 1 0 0) G w sz [.ref t] (mq_ G w tg t (sp_clear (Ls, Ps, Ts, ml, md, wd, pl))) := by
  refine ct_enter (by decide +kernel) (Nat.le_of_ble_eq_true rfl) ?_
  intro p_ e_ s m below meth c_ hsz S hr hlocks hname hE hW ls hl
  have S : CallFix p_ m c_ b_Mo_clear 2 s _ lw_good "HyphenRowsModel" := S
  have hx := S.1
  have hb := S.2.1
  have hK := hE.1
  have hl : lv_has ls 2 [(0, .ref t)] := hl
  obtain ⟨C, M, hc, hT, hl0, hp0, hq0, hml, hmd, hwd, hpl⟩ := id h
  obtain ⟨ht0, c0, c1, c2, c3, c4, c5, c6, c7, c8, c9, c10, c11, c12, c13, c14, c15, c16, c17⟩ := id hc
  obtain ⟨wL, wP, wT, wm, wml, wwd, wpl, wtot, wmx, wdx, wws, wplx, wlg, wps, wts⟩ := id hwf
  have hmk : mk_ w w tg := mk_rf
  refine lv_aload_n hx hb d_Mo_clear_0 rfl (lv_at hl 0 rfl) ?_
  refine wd_get S i_Mo hK hW ht0 rfl 20 (by decide) k_Mo_94 rfl rfl d_Mo_clear_1 ?_
  refine lv_topi (fun x_1 ex_1 => ?_)
  refine lv_istore_n (lv' := [(1, .int x_1), (0, .ref t)]) hx hb d_Mo_clear_4 rfl hl (by decide) rfl (fun ls hl => ?_)
  refine lv_aload_n hx hb d_Mo_clear_5 rfl (lv_at hl 1 rfl) ?_
  refine lv_iconst (v := 0) hx hb d_Mo_clear_6 (by decide) ?_
  refine wd_put S i_Mo t_Mo t_Mo_ok n_Mo hK hW ht0 rfl 20 (by decide) k_Mo_94 rfl rfl rfl rfl (Nat.le_of_ble_eq_true rfl) d_Mo_clear_7 (fun H locs w_2 ew_2 hW => ?_)
  have hmk := mk_up hmk ht0 ew_2 (by rw [hT.1]; omega)
  have c0 := wd_keep ew_2 (wd_ne c0 ht0 (by simp)) c0
  have c1 := wd_keep ew_2 (wd_ne c1 ht0 (by simp)) c1
  have c2 := wd_keep ew_2 (wd_ne c2 ht0 (by simp)) c2
  have c3 := wd_keep ew_2 (wd_ne c3 ht0 (by simp)) c3
  have c4 := wd_keep ew_2 (wd_ne c4 ht0 (by simp)) c4
  have c5 := wd_keep ew_2 (wd_ne c5 ht0 (by simp)) c5
  have c6 := wd_keep ew_2 (wd_ne c6 ht0 (by simp)) c6
  have c7 := wd_keep ew_2 (wd_ne c7 ht0 (by simp)) c7
  have c8 := wd_keep ew_2 (wd_ne c8 ht0 (by simp)) c8
  have c9 := wd_keep ew_2 (wd_ne c9 ht0 (by simp)) c9
  have c10 := wd_keep ew_2 (wd_ne c10 ht0 (by simp)) c10
  have c11 := wd_keep ew_2 (wd_ne c11 ht0 (by simp)) c11
  have c12 := wd_keep ew_2 (wd_ne c12 ht0 (by simp)) c12
  have c13 := wd_keep ew_2 (wd_ne c13 ht0 (by simp)) c13
  have c14 := wd_keep ew_2 (wd_ne c14 ht0 (by simp)) c14
  have c15 := wd_keep ew_2 (wd_ne c15 ht0 (by simp)) c15
  have c16 := wd_keep ew_2 (wd_ne c16 ht0 (by simp)) c16
  have c17 := wd_keep ew_2 (wd_ne c17 ht0 (by simp)) c17
  have ht0 : w_2 t = some (.inr (5, [.int (nI Ls.length), .ref (C 0), .ref (C 1), .ref (C 2), .ref (C 3), .ref (C 4), .int (nI ml.length), .ref (C 5), .ref (C 6), .int (nI Ps.length), .int (nI (hy_tot Ps)), .ref (C 7), .ref (C 8), .ref (C 9), .ref (C 10), .int (nI Ts.length), .ref (C 11), .ref (C 12), .ref (C 13), .ref (C 14), .int 0, .ref (C 15), .ref (C 16), .int (nI pl.length), .ref (C 17)])) := wd_here ew_2
  refine lv_iload_n hx hb d_Mo_clear_10 rfl (lv_at hl 0 rfl) ?_
  have hcF : mo_c G w_2 t C (fun k9 => M k9) (nI Ls.length) (nI ml.length) (nI Ps.length) (nI (hy_tot Ps)) (nI Ts.length) (nI ([] : List Int32).length) (nI pl.length) := ⟨ht0, c0, c1, c2, c3, c4, c5, c6, c7, c8, c9, c10, c11, c12, c13, c14, c15, c16, c17⟩
  exact ct_iret S hr rfl hlocks hW (⟨(Ls, Ps, Ts, ml, md, [], pl), ⟨ex_1, rfl⟩, ⟨C, (fun k9 => M k9), hcF, hT, hl0, hp0, hq0, hml, hmd, li_nil, hpl⟩, hmk⟩) (Nat.le_of_ble_eq_true rfl) (Nat.le_of_ble_eq_true rfl) d_Mo_clear_11

set_option maxHeartbeats 4000000 in
set_option maxRecDepth 100000 in
/-- the reference: at -/
theorem c_Mo_at (l : Launch) (G : ev_G) (w : wd_M) (sz : Nat) (tg : Nat → Nat) (t : Nat) (Ls : List hy_L) (Ps : List hy_P) (Ts : List hy_T) (ml md wd : List Int32) (pl : List Nat) (x : Int32) (h : mo_ G w tg t Ls Ps Ts ml md wd pl) (hwf : hy_wf Ls Ps Ts ml md wd pl) : ct_i l y_Mo_at b_Mo_at 2 (some FieldType.int) (rm_ 1 0 0) G w sz [.ref t, .int x] (mq_ G w tg t (sp_at x (Ls, Ps, Ts, ml, md, wd, pl))) := by
  refine ct_enter (by decide +kernel) (Nat.le_of_ble_eq_true rfl) ?_
  intro p_ e_ s m below meth c_ hsz S hr hlocks hname hE hW ls hl
  have S : CallFix p_ m c_ b_Mo_at 2 s _ lw_good "HyphenRowsModel" := S
  have hx := S.1
  have hb := S.2.1
  have hK := hE.1
  have hl : lv_has ls 2 [(0, .ref t), (1, .int x)] := hl
  obtain ⟨C, M, hc, hT, hl0, hp0, hq0, hml, hmd, hwd, hpl⟩ := id h
  obtain ⟨ht0, c0, c1, c2, c3, c4, c5, c6, c7, c8, c9, c10, c11, c12, c13, c14, c15, c16, c17⟩ := id hc
  obtain ⟨wL, wP, wT, wm, wml, wwd, wpl, wtot, wmx, wdx, wws, wplx, wlg, wps, wts⟩ := id hwf
  have hmk : mk_ w w tg := mk_rf
  refine lv_iload_n hx hb d_Mo_at_0 rfl (lv_at hl 1 rfl) ?_
  refine lv_if_lt (tgt := 12) hx hb d_Mo_at_1 (by decide) (fun h1 => ?_) (fun h1 => ?_)
  · refine lv_iconst (v := -1) hx hb d_Mo_at_12 (by decide) ?_
    refine lv_goto (tgt := 22) hx hb d_Mo_at_13 (by decide) ?_
    exact ct_iret S hr rfl hlocks hW (⟨_, ⟨rfl, Or.inl ⟨fun q => q.1 h1, rfl⟩⟩, h, mk_rf⟩) (Nat.le_of_ble_eq_true rfl) (Nat.le_of_ble_eq_true rfl) d_Mo_at_22
  · refine lv_iload_n hx hb d_Mo_at_4 rfl (lv_at hl 1 rfl) ?_
    refine lv_aload_n hx hb d_Mo_at_5 rfl (lv_at hl 0 rfl) ?_
    refine wd_get S i_Mo hK hW ht0 rfl 23 (by decide) k_Mo_110 rfl rfl d_Mo_at_6 ?_
    refine lv_icmp_lt (tgt := 16) hx hb d_Mo_at_9 (by decide) (fun h9 => ?_) (fun h9 => ?_)
    · obtain ⟨k, hk, rfl⟩ := nm_of (n := pl.length) ⟨h1, Int32.not_le.mpr h9⟩ (by omega)
      have hpk : pl[k]? = some pl[k] := List.getElem?_eq_getElem hk
      refine lv_aload_n hx hb d_Mo_at_16 rfl (lv_at hl 0 rfl) ?_
      refine wd_get S i_Mo hK hW ht0 rfl 24 (by decide) k_Mo_62 rfl rfl d_Mo_at_17 ?_
      refine lv_iload_n hx hb d_Mo_at_20 rfl (lv_at hl 1 rfl) ?_
      refine wd_iald S hK hW 0 c17 rfl (vp_in_nI (by omega) (by omega)) d_Mo_at_21 ?_
      rw [nI_clamp (by omega), hpl k (nI pl[k]) (by rw [List.getElem?_map, hpk]; rfl)]
      exact ct_iret S hr rfl hlocks hW (⟨_, ⟨rfl, Or.inr ⟨k, pl[k], rfl, hpk, rfl⟩⟩, h, mk_rf⟩) (Nat.le_of_ble_eq_true rfl) (Nat.le_of_ble_eq_true rfl) d_Mo_at_22
    · refine lv_iconst (v := -1) hx hb d_Mo_at_12 (by decide) ?_
      refine lv_goto (tgt := 22) hx hb d_Mo_at_13 (by decide) ?_
      exact ct_iret S hr rfl hlocks hW (⟨_, ⟨rfl, Or.inl ⟨fun q => q.2 (Int32.not_lt.mp h9), rfl⟩⟩, h, mk_rf⟩) (Nat.le_of_ble_eq_true rfl) (Nat.le_of_ble_eq_true rfl) d_Mo_at_22

set_option maxHeartbeats 4000000 in
set_option maxRecDepth 100000 in
/-- the reference: sign -/
theorem c_Mo_sign (l : Launch) (G : ev_G) (w : wd_M) (sz : Nat) (tg : Nat → Nat) (t : Nat) (Ls : List hy_L) (Ps : List hy_P) (Ts : List hy_T) (ml md wd : List Int32) (pl : List Nat) (x : Int32) (h : mo_ G w tg t Ls Ps Ts ml md wd pl) (hwf : hy_wf Ls Ps Ts ml md wd pl) : ct_i l y_Mo_sign b_Mo_sign 2 (some FieldType.int) (rm_ 1 0 0) G w sz [.ref t, .int x] (mq_ G w tg t (sp_sign x (Ls, Ps, Ts, ml, md, wd, pl))) := by
  refine ct_enter (by decide +kernel) (Nat.le_of_ble_eq_true rfl) ?_
  intro p_ e_ s m below meth c_ hsz S hr hlocks hname hE hW ls hl
  have S : CallFix p_ m c_ b_Mo_sign 2 s _ lw_good "HyphenRowsModel" := S
  have hx := S.1
  have hb := S.2.1
  have hK := hE.1
  have hl : lv_has ls 2 [(0, .ref t), (1, .int x)] := hl
  obtain ⟨C, M, hc, hT, hl0, hp0, hq0, hml, hmd, hwd, hpl⟩ := id h
  obtain ⟨ht0, c0, c1, c2, c3, c4, c5, c6, c7, c8, c9, c10, c11, c12, c13, c14, c15, c16, c17⟩ := id hc
  obtain ⟨wL, wP, wT, wm, wml, wwd, wpl, wtot, wmx, wdx, wws, wplx, wlg, wps, wts⟩ := id hwf
  have hmk : mk_ w w tg := mk_rf
  refine lv_iload_n hx hb d_Mo_sign_0 rfl (lv_at hl 1 rfl) ?_
  refine lv_iconst (v := 0) hx hb d_Mo_sign_1 (by decide) ?_
  refine lv_sipush (v := 255) hx hb d_Mo_sign_2 (by decide) ?_
  refine ct_goi hW (ct_runS (As := [.int x, .int 0, .int 255]) (rest := []) S hE hW (c_Mo_in l G _ _ x 0 255) kc_Mo_in kz_Mo k_Mo_73 ks_Mo_in kd_Mo_in ⟨Nat.le_of_ble_eq_true rfl, Nat.le_of_ble_eq_true rfl⟩ hl.1 (Nat.le_of_ble_eq_true rfl) d_Mo_sign_5 ⟨Nat.le_of_ble_eq_true rfl, Nat.le_of_ble_eq_true rfl⟩) (fun v_3 u_1 H locs hp_2 hW => ?_)
  obtain ⟨hv, hu_4⟩ := hp_2
  rw [hu_4] at hW
  refine lv_if_ne (tgt := 13) hx hb d_Mo_sign_8 (by decide) (fun h8 => ?_) (fun h8 => ?_)
  · have hok : ok_s x := bl_t hv h8
    refine lv_aload_n hx hb d_Mo_sign_13 rfl (lv_at hl 0 rfl) ?_
    refine wd_get S i_Mo hK hW ht0 rfl 20 (by decide) k_Mo_94 rfl rfl d_Mo_sign_14 ?_
    refine lv_bipush (v := 30) hx hb d_Mo_sign_17 (by decide) ?_
    refine lv_icmp_ne (tgt := 25) hx hb d_Mo_sign_19 (by decide) (fun h19 => ?_) (fun h19 => ?_)
    · have hlt : wd.length < 30 := Nat.lt_of_le_of_ne wwd (fun q => h19 (by rw [q]; rfl))
      refine lv_aload_n hx hb d_Mo_sign_25 rfl (lv_at hl 0 rfl) ?_
      refine wd_get S i_Mo hK hW ht0 rfl 21 (by decide) k_Mo_56 rfl rfl d_Mo_sign_26 ?_
      refine lv_aload_n hx hb d_Mo_sign_29 rfl (lv_at hl 0 rfl) ?_
      refine wd_get S i_Mo hK hW ht0 rfl 20 (by decide) k_Mo_94 rfl rfl d_Mo_sign_30 ?_
      refine lv_iload_n hx hb d_Mo_sign_33 rfl (lv_at hl 1 rfl) ?_
      refine wd_iast S hK hW 0 c15 rfl (vp_in_nI (by omega) (by omega)) d_Mo_sign_34 (fun H locs w_5 ew_5 hW => ?_)
      have hmk := mk_up hmk c15 ew_5 (by rw [hT.2 15 (by omega)]; omega)
      have ht0 := wd_keep ew_5 (wd_ne ht0 c15 (by simp)) ht0
      have c0 := wd_keep ew_5 (tg_ne (tg := tg) (by rw [hT.2 0 (by omega), hT.2 15 (by omega)]; omega)) c0
      have c1 := wd_keep ew_5 (tg_ne (tg := tg) (by rw [hT.2 1 (by omega), hT.2 15 (by omega)]; omega)) c1
      have c2 := wd_keep ew_5 (tg_ne (tg := tg) (by rw [hT.2 2 (by omega), hT.2 15 (by omega)]; omega)) c2
      have c3 := wd_keep ew_5 (tg_ne (tg := tg) (by rw [hT.2 3 (by omega), hT.2 15 (by omega)]; omega)) c3
      have c4 := wd_keep ew_5 (tg_ne (tg := tg) (by rw [hT.2 4 (by omega), hT.2 15 (by omega)]; omega)) c4
      have c5 := wd_keep ew_5 (tg_ne (tg := tg) (by rw [hT.2 5 (by omega), hT.2 15 (by omega)]; omega)) c5
      have c6 := wd_keep ew_5 (tg_ne (tg := tg) (by rw [hT.2 6 (by omega), hT.2 15 (by omega)]; omega)) c6
      have c7 := wd_keep ew_5 (tg_ne (tg := tg) (by rw [hT.2 7 (by omega), hT.2 15 (by omega)]; omega)) c7
      have c8 := wd_keep ew_5 (tg_ne (tg := tg) (by rw [hT.2 8 (by omega), hT.2 15 (by omega)]; omega)) c8
      have c9 := wd_keep ew_5 (tg_ne (tg := tg) (by rw [hT.2 9 (by omega), hT.2 15 (by omega)]; omega)) c9
      have c10 := wd_keep ew_5 (tg_ne (tg := tg) (by rw [hT.2 10 (by omega), hT.2 15 (by omega)]; omega)) c10
      have c11 := wd_keep ew_5 (tg_ne (tg := tg) (by rw [hT.2 11 (by omega), hT.2 15 (by omega)]; omega)) c11
      have c12 := wd_keep ew_5 (tg_ne (tg := tg) (by rw [hT.2 12 (by omega), hT.2 15 (by omega)]; omega)) c12
      have c13 := wd_keep ew_5 (tg_ne (tg := tg) (by rw [hT.2 13 (by omega), hT.2 15 (by omega)]; omega)) c13
      have c14 := wd_keep ew_5 (tg_ne (tg := tg) (by rw [hT.2 14 (by omega), hT.2 15 (by omega)]; omega)) c14
      have c16 := wd_keep ew_5 (tg_ne (tg := tg) (by rw [hT.2 16 (by omega), hT.2 15 (by omega)]; omega)) c16
      have c17 := wd_keep ew_5 (tg_ne (tg := tg) (by rw [hT.2 17 (by omega), hT.2 15 (by omega)]; omega)) c17
      have c15 : w_5 (C 15) = some (.inl (G.2.1 0, 30, .inl (upd (M 15) ((nI wd.length) : Int32).toNatClampNeg x))) := wd_here ew_5
      rw [nI_clamp (by omega)] at c15
      refine lv_aload_n hx hb d_Mo_sign_35 rfl (lv_at hl 0 rfl) ?_
      refine lv_dup hx hb d_Mo_sign_36 rfl ?_
      refine wd_get S i_Mo hK hW ht0 rfl 20 (by decide) k_Mo_94 rfl rfl d_Mo_sign_37 ?_
      refine lv_iconst (v := 1) hx hb d_Mo_sign_40 (by decide) ?_
      refine lv_iadd hx hb d_Mo_sign_41 ?_
      refine lv_topi (fun nl enl => ?_)
      rw [nI_1] at enl
      refine wd_put S i_Mo t_Mo t_Mo_ok n_Mo hK hW ht0 rfl 20 (by decide) k_Mo_94 rfl rfl rfl rfl (Nat.le_of_ble_eq_true rfl) d_Mo_sign_42 (fun H locs w_6 ew_6 hW => ?_)
      have hmk := mk_up hmk ht0 ew_6 (by rw [hT.1]; omega)
      have c0 := wd_keep ew_6 (wd_ne c0 ht0 (by simp)) c0
      have c1 := wd_keep ew_6 (wd_ne c1 ht0 (by simp)) c1
      have c2 := wd_keep ew_6 (wd_ne c2 ht0 (by simp)) c2
      have c3 := wd_keep ew_6 (wd_ne c3 ht0 (by simp)) c3
      have c4 := wd_keep ew_6 (wd_ne c4 ht0 (by simp)) c4
      have c5 := wd_keep ew_6 (wd_ne c5 ht0 (by simp)) c5
      have c6 := wd_keep ew_6 (wd_ne c6 ht0 (by simp)) c6
      have c7 := wd_keep ew_6 (wd_ne c7 ht0 (by simp)) c7
      have c8 := wd_keep ew_6 (wd_ne c8 ht0 (by simp)) c8
      have c9 := wd_keep ew_6 (wd_ne c9 ht0 (by simp)) c9
      have c10 := wd_keep ew_6 (wd_ne c10 ht0 (by simp)) c10
      have c11 := wd_keep ew_6 (wd_ne c11 ht0 (by simp)) c11
      have c12 := wd_keep ew_6 (wd_ne c12 ht0 (by simp)) c12
      have c13 := wd_keep ew_6 (wd_ne c13 ht0 (by simp)) c13
      have c14 := wd_keep ew_6 (wd_ne c14 ht0 (by simp)) c14
      have c15 := wd_keep ew_6 (wd_ne c15 ht0 (by simp)) c15
      have c16 := wd_keep ew_6 (wd_ne c16 ht0 (by simp)) c16
      have c17 := wd_keep ew_6 (wd_ne c17 ht0 (by simp)) c17
      have ht0 : w_6 t = some (.inr (5, [.int (nI Ls.length), .ref (C 0), .ref (C 1), .ref (C 2), .ref (C 3), .ref (C 4), .int (nI ml.length), .ref (C 5), .ref (C 6), .int (nI Ps.length), .int (nI (hy_tot Ps)), .ref (C 7), .ref (C 8), .ref (C 9), .ref (C 10), .int (nI Ts.length), .ref (C 11), .ref (C 12), .ref (C 13), .ref (C 14), .int nl, .ref (C 15), .ref (C 16), .int (nI pl.length), .ref (C 17)])) := wd_here ew_6
      refine lv_aload_n hx hb d_Mo_sign_45 rfl (lv_at hl 0 rfl) ?_
      refine wd_get S i_Mo hK hW ht0 rfl 20 (by decide) k_Mo_94 rfl rfl d_Mo_sign_46 ?_
      rw [enl] at ht0
      rw [enl]
      have hcF : mo_c G w_6 t C (fun k9 => if k9 = 15 then upd (M 15) wd.length x else M k9) (nI Ls.length) (nI ml.length) (nI Ps.length) (nI (hy_tot Ps)) (nI Ts.length) (nI (wd ++ [x]).length) (nI pl.length) := by rw [List.length_append]; exact ⟨ht0, c0, c1, c2, c3, c4, c5, c6, c7, c8, c9, c10, c11, c12, c13, c14, c15, c16, c17⟩
      exact ct_iret S hr rfl hlocks hW (⟨(Ls, Ps, Ts, ml, md, wd ++ [x], pl), Or.inr (Or.inr ⟨hok, hlt, rfl, rfl⟩), ⟨C, (fun k9 => if k9 = 15 then upd (M 15) wd.length x else M k9), hcF, hT, (mo_lc hl0 (fun k9 h2 => by show (if k9 = 15 then upd (M 15) wd.length x else M k9) = M k9; rw [if_neg (by omega)])), (mo_pc hp0 (fun k9 h1 h2 => by show (if k9 = 15 then upd (M 15) wd.length x else M k9) = M k9; rw [if_neg (by omega)])), (mo_tc hq0 (fun k9 h1 h2 => by show (if k9 = 15 then upd (M 15) wd.length x else M k9) = M k9; rw [if_neg (by omega)])), hml, hmd, li_put hwd, hpl⟩, hmk⟩) (Nat.le_of_ble_eq_true rfl) (Nat.le_of_ble_eq_true rfl) d_Mo_sign_49
    · refine lv_bipush (v := -2) hx hb d_Mo_sign_22 (by decide) ?_
      exact ct_iret S hr rfl hlocks hW (⟨_, Or.inr (Or.inl ⟨hok, fun q => absurd ((nI_eq (a := wd.length) (b := 30) (by omega) (by omega)).mp h19) (by have q : wd.length < 30 := q; omega), rfl, rfl⟩), h, mk_rf⟩) (Nat.le_of_ble_eq_true rfl) (Nat.le_of_ble_eq_true rfl) d_Mo_sign_24
  · refine lv_iconst (v := -1) hx hb d_Mo_sign_11 (by decide) ?_
    exact ct_iret S hr rfl hlocks hW (⟨_, Or.inl ⟨fun q => bl_f hv h8 q, rfl, rfl⟩, h, mk_rf⟩) (Nat.le_of_ble_eq_true rfl) (Nat.le_of_ble_eq_true rfl) d_Mo_sign_12

set_option maxHeartbeats 4000000 in
set_option maxRecDepth 100000 in
/-- the reference: next -/
theorem c_Mo_next (l : Launch) (G : ev_G) (w : wd_M) (sz : Nat) (tg : Nat → Nat) (t : Nat) (Ls : List hy_L) (Ps : List hy_P) (Ts : List hy_T) (ml md wd : List Int32) (pl : List Nat) (x d : Int32) (h : mo_ G w tg t Ls Ps Ts ml md wd pl) (hwf : hy_wf Ls Ps Ts ml md wd pl) : ct_i l y_Mo_next b_Mo_next 3 (some FieldType.int) (rm_ 1 0 0) G w sz [.ref t, .int x, .int d] (mq_ G w tg t (sp_next x d (Ls, Ps, Ts, ml, md, wd, pl))) := by
  refine ct_enter (by decide +kernel) (Nat.le_of_ble_eq_true rfl) ?_
  intro p_ e_ s m below meth c_ hsz S hr hlocks hname hE hW ls hl
  have S : CallFix p_ m c_ b_Mo_next 3 s _ lw_good "HyphenRowsModel" := S
  have hx := S.1
  have hb := S.2.1
  have hK := hE.1
  have hl : lv_has ls 3 [(0, .ref t), (1, .int x), (2, .int d)] := hl
  obtain ⟨C, M, hc, hT, hl0, hp0, hq0, hml, hmd, hwd, hpl⟩ := id h
  obtain ⟨ht0, c0, c1, c2, c3, c4, c5, c6, c7, c8, c9, c10, c11, c12, c13, c14, c15, c16, c17⟩ := id hc
  obtain ⟨wL, wP, wT, wm, wml, wwd, wpl, wtot, wmx, wdx, wws, wplx, wlg, wps, wts⟩ := id hwf
  have hmk : mk_ w w tg := mk_rf
  refine lv_iload_n hx hb d_Mo_next_0 rfl (lv_at hl 1 rfl) ?_
  refine lv_iconst (v := 0) hx hb d_Mo_next_1 (by decide) ?_
  refine lv_bipush (v := 30) hx hb d_Mo_next_2 (by decide) ?_
  refine ct_goi hW (ct_runS (As := [.int x, .int 0, .int 30]) (rest := []) S hE hW (c_Mo_in l G _ _ x 0 30) kc_Mo_in kz_Mo k_Mo_73 ks_Mo_in kd_Mo_in ⟨Nat.le_of_ble_eq_true rfl, Nat.le_of_ble_eq_true rfl⟩ hl.1 (Nat.le_of_ble_eq_true rfl) d_Mo_next_4 ⟨Nat.le_of_ble_eq_true rfl, Nat.le_of_ble_eq_true rfl⟩) (fun v_3 u_1 H locs hp_2 hW => ?_)
  obtain ⟨hv, hu_4⟩ := hp_2
  rw [hu_4] at hW
  refine lv_if_eq (tgt := 20) hx hb d_Mo_next_7 (by decide) (fun h7 => ?_) (fun h7 => ?_)
  · refine lv_iconst (v := -1) hx hb d_Mo_next_20 (by decide) ?_
    exact ct_iret S hr rfl hlocks hW (⟨_, Or.inl ⟨fun q => bl_f hv h7 q.1, rfl, rfl⟩, h, mk_rf⟩) (Nat.le_of_ble_eq_true rfl) (Nat.le_of_ble_eq_true rfl) d_Mo_next_21
  · refine lv_iload_n hx hb d_Mo_next_10 rfl (lv_at hl 2 rfl) ?_
    refine lv_iconst (v := 0) hx hb d_Mo_next_11 (by decide) ?_
    refine lv_bipush (v := 9) hx hb d_Mo_next_12 (by decide) ?_
    refine ct_goi hW (ct_runS (As := [.int d, .int 0, .int 9]) (rest := []) S hE hW (c_Mo_in l G _ _ d 0 9) kc_Mo_in kz_Mo k_Mo_73 ks_Mo_in kd_Mo_in ⟨Nat.le_of_ble_eq_true rfl, Nat.le_of_ble_eq_true rfl⟩ hl.1 (Nat.le_of_ble_eq_true rfl) d_Mo_next_14 ⟨Nat.le_of_ble_eq_true rfl, Nat.le_of_ble_eq_true rfl⟩) (fun v_7 u_5 H locs hp_6 hW => ?_)
    obtain ⟨hv2, hu_8⟩ := hp_6
    rw [hu_8] at hW
    refine lv_if_ne (tgt := 22) hx hb d_Mo_next_17 (by decide) (fun h17 => ?_) (fun h17 => ?_)
    · have hok : ok_l x ∧ ok_d d := ⟨bl_t hv h7, bl_t hv2 h17⟩
      refine lv_aload_n hx hb d_Mo_next_22 rfl (lv_at hl 0 rfl) ?_
      refine wd_get S i_Mo hK hW ht0 rfl 6 (by decide) k_Mo_77 rfl rfl d_Mo_next_23 ?_
      refine lv_bipush (v := 12) hx hb d_Mo_next_26 (by decide) ?_
      refine lv_icmp_ne (tgt := 34) hx hb d_Mo_next_28 (by decide) (fun h28 => ?_) (fun h28 => ?_)
      · have hlt : ml.length < 12 := Nat.lt_of_le_of_ne wml (fun q => h28 (by rw [q]; rfl))
        refine lv_aload_n hx hb d_Mo_next_34 rfl (lv_at hl 0 rfl) ?_
        refine wd_get S i_Mo hK hW ht0 rfl 7 (by decide) k_Mo_26 rfl rfl d_Mo_next_35 ?_
        refine lv_aload_n hx hb d_Mo_next_38 rfl (lv_at hl 0 rfl) ?_
        refine wd_get S i_Mo hK hW ht0 rfl 6 (by decide) k_Mo_77 rfl rfl d_Mo_next_39 ?_
        refine lv_iload_n hx hb d_Mo_next_42 rfl (lv_at hl 1 rfl) ?_
        refine wd_iast S hK hW 0 c5 rfl (vp_in_nI (by omega) (by omega)) d_Mo_next_43 (fun H locs w_9 ew_9 hW => ?_)
        have hmk := mk_up hmk c5 ew_9 (by rw [hT.2 5 (by omega)]; omega)
        have ht0 := wd_keep ew_9 (wd_ne ht0 c5 (by simp)) ht0
        have c0 := wd_keep ew_9 (tg_ne (tg := tg) (by rw [hT.2 0 (by omega), hT.2 5 (by omega)]; omega)) c0
        have c1 := wd_keep ew_9 (tg_ne (tg := tg) (by rw [hT.2 1 (by omega), hT.2 5 (by omega)]; omega)) c1
        have c2 := wd_keep ew_9 (tg_ne (tg := tg) (by rw [hT.2 2 (by omega), hT.2 5 (by omega)]; omega)) c2
        have c3 := wd_keep ew_9 (tg_ne (tg := tg) (by rw [hT.2 3 (by omega), hT.2 5 (by omega)]; omega)) c3
        have c4 := wd_keep ew_9 (tg_ne (tg := tg) (by rw [hT.2 4 (by omega), hT.2 5 (by omega)]; omega)) c4
        have c6 := wd_keep ew_9 (tg_ne (tg := tg) (by rw [hT.2 6 (by omega), hT.2 5 (by omega)]; omega)) c6
        have c7 := wd_keep ew_9 (tg_ne (tg := tg) (by rw [hT.2 7 (by omega), hT.2 5 (by omega)]; omega)) c7
        have c8 := wd_keep ew_9 (tg_ne (tg := tg) (by rw [hT.2 8 (by omega), hT.2 5 (by omega)]; omega)) c8
        have c9 := wd_keep ew_9 (tg_ne (tg := tg) (by rw [hT.2 9 (by omega), hT.2 5 (by omega)]; omega)) c9
        have c10 := wd_keep ew_9 (tg_ne (tg := tg) (by rw [hT.2 10 (by omega), hT.2 5 (by omega)]; omega)) c10
        have c11 := wd_keep ew_9 (tg_ne (tg := tg) (by rw [hT.2 11 (by omega), hT.2 5 (by omega)]; omega)) c11
        have c12 := wd_keep ew_9 (tg_ne (tg := tg) (by rw [hT.2 12 (by omega), hT.2 5 (by omega)]; omega)) c12
        have c13 := wd_keep ew_9 (tg_ne (tg := tg) (by rw [hT.2 13 (by omega), hT.2 5 (by omega)]; omega)) c13
        have c14 := wd_keep ew_9 (tg_ne (tg := tg) (by rw [hT.2 14 (by omega), hT.2 5 (by omega)]; omega)) c14
        have c15 := wd_keep ew_9 (tg_ne (tg := tg) (by rw [hT.2 15 (by omega), hT.2 5 (by omega)]; omega)) c15
        have c16 := wd_keep ew_9 (tg_ne (tg := tg) (by rw [hT.2 16 (by omega), hT.2 5 (by omega)]; omega)) c16
        have c17 := wd_keep ew_9 (tg_ne (tg := tg) (by rw [hT.2 17 (by omega), hT.2 5 (by omega)]; omega)) c17
        have c5 : w_9 (C 5) = some (.inl (G.2.1 0, 12, .inl (upd (M 5) ((nI ml.length) : Int32).toNatClampNeg x))) := wd_here ew_9
        rw [nI_clamp (by omega)] at c5
        refine lv_aload_n hx hb d_Mo_next_44 rfl (lv_at hl 0 rfl) ?_
        refine wd_get S i_Mo hK hW ht0 rfl 8 (by decide) k_Mo_29 rfl rfl d_Mo_next_45 ?_
        refine lv_aload_n hx hb d_Mo_next_48 rfl (lv_at hl 0 rfl) ?_
        refine wd_get S i_Mo hK hW ht0 rfl 6 (by decide) k_Mo_77 rfl rfl d_Mo_next_49 ?_
        refine lv_iload_n hx hb d_Mo_next_52 rfl (lv_at hl 2 rfl) ?_
        refine wd_iast S hK hW 0 c6 rfl (vp_in_nI (by omega) (by omega)) d_Mo_next_53 (fun H locs w_10 ew_10 hW => ?_)
        have hmk := mk_up hmk c6 ew_10 (by rw [hT.2 6 (by omega)]; omega)
        have ht0 := wd_keep ew_10 (wd_ne ht0 c6 (by simp)) ht0
        have c0 := wd_keep ew_10 (tg_ne (tg := tg) (by rw [hT.2 0 (by omega), hT.2 6 (by omega)]; omega)) c0
        have c1 := wd_keep ew_10 (tg_ne (tg := tg) (by rw [hT.2 1 (by omega), hT.2 6 (by omega)]; omega)) c1
        have c2 := wd_keep ew_10 (tg_ne (tg := tg) (by rw [hT.2 2 (by omega), hT.2 6 (by omega)]; omega)) c2
        have c3 := wd_keep ew_10 (tg_ne (tg := tg) (by rw [hT.2 3 (by omega), hT.2 6 (by omega)]; omega)) c3
        have c4 := wd_keep ew_10 (tg_ne (tg := tg) (by rw [hT.2 4 (by omega), hT.2 6 (by omega)]; omega)) c4
        have c5 := wd_keep ew_10 (tg_ne (tg := tg) (by rw [hT.2 5 (by omega), hT.2 6 (by omega)]; omega)) c5
        have c7 := wd_keep ew_10 (tg_ne (tg := tg) (by rw [hT.2 7 (by omega), hT.2 6 (by omega)]; omega)) c7
        have c8 := wd_keep ew_10 (tg_ne (tg := tg) (by rw [hT.2 8 (by omega), hT.2 6 (by omega)]; omega)) c8
        have c9 := wd_keep ew_10 (tg_ne (tg := tg) (by rw [hT.2 9 (by omega), hT.2 6 (by omega)]; omega)) c9
        have c10 := wd_keep ew_10 (tg_ne (tg := tg) (by rw [hT.2 10 (by omega), hT.2 6 (by omega)]; omega)) c10
        have c11 := wd_keep ew_10 (tg_ne (tg := tg) (by rw [hT.2 11 (by omega), hT.2 6 (by omega)]; omega)) c11
        have c12 := wd_keep ew_10 (tg_ne (tg := tg) (by rw [hT.2 12 (by omega), hT.2 6 (by omega)]; omega)) c12
        have c13 := wd_keep ew_10 (tg_ne (tg := tg) (by rw [hT.2 13 (by omega), hT.2 6 (by omega)]; omega)) c13
        have c14 := wd_keep ew_10 (tg_ne (tg := tg) (by rw [hT.2 14 (by omega), hT.2 6 (by omega)]; omega)) c14
        have c15 := wd_keep ew_10 (tg_ne (tg := tg) (by rw [hT.2 15 (by omega), hT.2 6 (by omega)]; omega)) c15
        have c16 := wd_keep ew_10 (tg_ne (tg := tg) (by rw [hT.2 16 (by omega), hT.2 6 (by omega)]; omega)) c16
        have c17 := wd_keep ew_10 (tg_ne (tg := tg) (by rw [hT.2 17 (by omega), hT.2 6 (by omega)]; omega)) c17
        have c6 : w_10 (C 6) = some (.inl (G.2.1 0, 13, .inl (upd (M 6) ((nI ml.length) : Int32).toNatClampNeg d))) := wd_here ew_10
        rw [nI_clamp (by omega)] at c6
        refine lv_aload_n hx hb d_Mo_next_54 rfl (lv_at hl 0 rfl) ?_
        refine lv_dup hx hb d_Mo_next_55 rfl ?_
        refine wd_get S i_Mo hK hW ht0 rfl 6 (by decide) k_Mo_77 rfl rfl d_Mo_next_56 ?_
        refine lv_iconst (v := 1) hx hb d_Mo_next_59 (by decide) ?_
        refine lv_iadd hx hb d_Mo_next_60 ?_
        refine lv_topi (fun nl enl => ?_)
        rw [nI_1] at enl
        refine wd_put S i_Mo t_Mo t_Mo_ok n_Mo hK hW ht0 rfl 6 (by decide) k_Mo_77 rfl rfl rfl rfl (Nat.le_of_ble_eq_true rfl) d_Mo_next_61 (fun H locs w_11 ew_11 hW => ?_)
        have hmk := mk_up hmk ht0 ew_11 (by rw [hT.1]; omega)
        have c0 := wd_keep ew_11 (wd_ne c0 ht0 (by simp)) c0
        have c1 := wd_keep ew_11 (wd_ne c1 ht0 (by simp)) c1
        have c2 := wd_keep ew_11 (wd_ne c2 ht0 (by simp)) c2
        have c3 := wd_keep ew_11 (wd_ne c3 ht0 (by simp)) c3
        have c4 := wd_keep ew_11 (wd_ne c4 ht0 (by simp)) c4
        have c5 := wd_keep ew_11 (wd_ne c5 ht0 (by simp)) c5
        have c6 := wd_keep ew_11 (wd_ne c6 ht0 (by simp)) c6
        have c7 := wd_keep ew_11 (wd_ne c7 ht0 (by simp)) c7
        have c8 := wd_keep ew_11 (wd_ne c8 ht0 (by simp)) c8
        have c9 := wd_keep ew_11 (wd_ne c9 ht0 (by simp)) c9
        have c10 := wd_keep ew_11 (wd_ne c10 ht0 (by simp)) c10
        have c11 := wd_keep ew_11 (wd_ne c11 ht0 (by simp)) c11
        have c12 := wd_keep ew_11 (wd_ne c12 ht0 (by simp)) c12
        have c13 := wd_keep ew_11 (wd_ne c13 ht0 (by simp)) c13
        have c14 := wd_keep ew_11 (wd_ne c14 ht0 (by simp)) c14
        have c15 := wd_keep ew_11 (wd_ne c15 ht0 (by simp)) c15
        have c16 := wd_keep ew_11 (wd_ne c16 ht0 (by simp)) c16
        have c17 := wd_keep ew_11 (wd_ne c17 ht0 (by simp)) c17
        have ht0 : w_11 t = some (.inr (5, [.int (nI Ls.length), .ref (C 0), .ref (C 1), .ref (C 2), .ref (C 3), .ref (C 4), .int nl, .ref (C 5), .ref (C 6), .int (nI Ps.length), .int (nI (hy_tot Ps)), .ref (C 7), .ref (C 8), .ref (C 9), .ref (C 10), .int (nI Ts.length), .ref (C 11), .ref (C 12), .ref (C 13), .ref (C 14), .int (nI wd.length), .ref (C 15), .ref (C 16), .int (nI pl.length), .ref (C 17)])) := wd_here ew_11
        refine lv_aload_n hx hb d_Mo_next_64 rfl (lv_at hl 0 rfl) ?_
        refine wd_get S i_Mo hK hW ht0 rfl 6 (by decide) k_Mo_77 rfl rfl d_Mo_next_65 ?_
        rw [enl] at ht0
        rw [enl]
        have hmd2 : li_ (md ++ [d]) (upd (M 6) ml.length d) := by rw [wm]; exact li_put hmd
        have hcF : mo_c G w_11 t C (fun k9 => if k9 = 6 then upd (M 6) ml.length d else if k9 = 5 then upd (M 5) ml.length x else M k9) (nI Ls.length) (nI (ml ++ [x]).length) (nI Ps.length) (nI (hy_tot Ps)) (nI Ts.length) (nI wd.length) (nI pl.length) := by rw [List.length_append]; exact ⟨ht0, c0, c1, c2, c3, c4, c5, c6, c7, c8, c9, c10, c11, c12, c13, c14, c15, c16, c17⟩
        exact ct_iret S hr rfl hlocks hW (⟨(Ls, Ps, Ts, ml ++ [x], md ++ [d], wd, pl), Or.inr (Or.inr ⟨hok, hlt, rfl, rfl⟩), ⟨C, (fun k9 => if k9 = 6 then upd (M 6) ml.length d else if k9 = 5 then upd (M 5) ml.length x else M k9), hcF, hT, (mo_lc hl0 (fun k9 h2 => by show (if k9 = 6 then upd (M 6) ml.length d else if k9 = 5 then upd (M 5) ml.length x else M k9) = M k9; rw [if_neg (by omega), if_neg (by omega)])), (mo_pc hp0 (fun k9 h1 h2 => by show (if k9 = 6 then upd (M 6) ml.length d else if k9 = 5 then upd (M 5) ml.length x else M k9) = M k9; rw [if_neg (by omega), if_neg (by omega)])), (mo_tc hq0 (fun k9 h1 h2 => by show (if k9 = 6 then upd (M 6) ml.length d else if k9 = 5 then upd (M 5) ml.length x else M k9) = M k9; rw [if_neg (by omega), if_neg (by omega)])), li_put hml, hmd2, hwd, hpl⟩, hmk⟩) (Nat.le_of_ble_eq_true rfl) (Nat.le_of_ble_eq_true rfl) d_Mo_next_68
      · refine lv_bipush (v := -2) hx hb d_Mo_next_31 (by decide) ?_
        exact ct_iret S hr rfl hlocks hW (⟨_, Or.inr (Or.inl ⟨hok, fun q => absurd ((nI_eq (a := ml.length) (b := 12) (by omega) (by omega)).mp h28) (by have q : ml.length < 12 := q; omega), rfl, rfl⟩), h, mk_rf⟩) (Nat.le_of_ble_eq_true rfl) (Nat.le_of_ble_eq_true rfl) d_Mo_next_33
    · refine lv_iconst (v := -1) hx hb d_Mo_next_20 (by decide) ?_
      exact ct_iret S hr rfl hlocks hW (⟨_, Or.inl ⟨fun q => bl_f hv2 h17 q.2, rfl, rfl⟩, h, mk_rf⟩) (Nat.le_of_ble_eq_true rfl) (Nat.le_of_ble_eq_true rfl) d_Mo_next_21
