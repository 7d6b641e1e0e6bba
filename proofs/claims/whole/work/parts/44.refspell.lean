/-! THE REFERENCE: spell, exceptionOf. -/

set_option maxHeartbeats 4000000 in
set_option maxRecDepth 100000 in
/-- the loop of spell -/
theorem lo_Mo_spell {p_ : Program} {l : Launch} {e_ : Env} {s : State} {m : MethodId} {args : Array Value} {below : List Frame} {meth : Method} {c_ : Code} {Q : State → Prop} {G : ev_G} {A : Nat → Prop} (S : CallFix p_ m c_ b_Mo_spell 4 s args lw_good "HyphenRowsModel") (hE : ev_K G A s s.heap) {w : wd_M} {t : Nat} {C : Nat → Nat} {M : Nat → Nat → Int32} {ln mk pn tn en qn : Int32} {tg : Nat → Nat} {i : Nat} {lg : hy_L} {wd : List Int32} (hc : mo_c G w t C M ln mk pn tn en (nI wd.length) qn) (hT : mo_g tg t C) (m01 : ∀ s, s < 256 → M 0 (256 * i + s) = lg.1 s) (hi4 : i < 4) (hpos : ∀ s : Nat, 0 ≤ lg.1 s) (hwd : li_ wd (M 15)) (wwd : wd.length ≤ 30) (wws : ∀ x ∈ wd, ∃ s : Nat, s < 256 ∧ x = nI s) (kk : ∀ (sm : Int32) (g : Nat → Int32) (w1 : wd_M) (H : Heap) (locs : List Loc), bl_ sm (True ∧ ∀ j, j < wd.length → ∀ x, wd[j]? = some x → ¬ lg.1 x.toNatClampNeg = 0) → g 0 = 0 → g (wd.length + 1) = 0 → (∀ (j : Nat) (x : Int32), j < wd.length → wd[j]? = some x → g (j + 1) = lg.1 x.toNatClampNeg) → w1 = va_up w (C 16) (some (.inl (G.2.1 0, 32, .inl g))) → wd_W G.1 ev_cl A w1 s.heap H locs → ∀ ls : Array Slot, lv_has ls 4 [(0, .ref t), (2, .int sm)] → W p_ l e_ (rm_ 0 0 0) s m args below meth c_ H locs 0 0 Q (F0 m 83 ls [])) :
    ∀ (fu : Nat) (k : Nat) (xi : Int32) (sm : Int32) (g : Nat → Int32) (w1 : wd_M) (H : Heap) (locs : List Loc) (ls : Array Slot), wd.length < k + fu → k ≤ wd.length → xi = nI k → bl_ sm (True ∧ ∀ j, j < k → ∀ x, wd[j]? = some x → ¬ lg.1 x.toNatClampNeg = 0) → g 0 = 0 → g (wd.length + 1) = 0 → (∀ (j : Nat) (x : Int32), j < k → wd[j]? = some x → g (j + 1) = lg.1 x.toNatClampNeg) → w1 = va_up w (C 16) (some (.inl (G.2.1 0, 32, .inl g))) → wd_W G.1 ev_cl A w1 s.heap H locs → lv_has ls 4 [(0, .ref t), (1, .int (nI i)), (2, .int sm), (3, .int xi)] → W p_ l e_ (rm_ 0 0 0) s m args below meth c_ H locs 0 0 Q (F0 m 23 ls []) := by
  have hx := S.1
  have hb := S.2.1
  have hK := hE.1
  intro fu
  induction fu with
  | zero =>
    intro k xi sm g w1 H locs ls hfu hk exi hsm g0 gl hg ew hW hl
    exact absurd hfu (by omega)
  | succ fu ih =>
    intro k xi sm g w1 H locs ls hfu hk exi hsm g0 gl hg ew hW hl
    obtain ⟨ht0, c0, -, -, -, -, -, -, -, -, -, -, -, -, -, -, c15, c16, -⟩ := id hc
    have ht0 := wd_keep ew (wd_ne ht0 c16 (by simp)) ht0
    have c0 := wd_keep ew (tg_ne (tg := tg) (by rw [hT.2 0 (by omega), hT.2 16 (by omega)]; omega)) c0
    have c15 := wd_keep ew (tg_ne (tg := tg) (by rw [hT.2 15 (by omega), hT.2 16 (by omega)]; omega)) c15
    have c16 := wd_here ew
    refine lv_iload_n hx hb d_Mo_spell_23 rfl (lv_at hl 3 rfl) ?_
    refine lv_aload_n hx hb d_Mo_spell_24 rfl (lv_at hl 0 rfl) ?_
    refine wd_get S i_Mo hK hW ht0 rfl 20 (by decide) k_Mo_94 rfl rfl d_Mo_spell_25 ?_
    refine lv_icmp_ge (tgt := 83) hx hb d_Mo_spell_28 (by decide) (fun h28 => ?_) (fun h28 => ?_)
    · have hin9 : k = wd.length := by rw [exi] at h28; have := (nI_leI (by omega) (by omega)).mp h28; omega
      subst hin9
      exact kk sm g w1 H locs hsm g0 gl hg ew hW ls (lv_sub hl [0, 2] rfl)
    · have hlt : k < wd.length := by rw [exi] at h28; exact Nat.lt_of_not_le (fun q => h28 (nI_le q (by omega)))
      obtain ⟨s0, hs0⟩ : ∃ s0, wd[k]? = some s0 := ⟨_, List.getElem?_eq_getElem hlt⟩
      obtain ⟨sn, hsn, es0⟩ := wws s0 (List.mem_of_getElem? hs0)
      have hin : vp_in xi 30 := by rw [exi]; exact vp_in_nI (by omega) (by omega)
      have hcl : xi.toNatClampNeg = k := by rw [exi]; exact nI_clamp (by omega)
      have hk1 : xi + 1 = nI (k + 1) := by rw [exi]; exact nI_1 k
      refine lv_aload_n hx hb d_Mo_spell_31 rfl (lv_at hl 0 rfl) ?_
      refine wd_get S i_Mo hK hW ht0 rfl 22 (by decide) k_Mo_59 rfl rfl d_Mo_spell_32 ?_
      refine lv_iload_n hx hb d_Mo_spell_35 rfl (lv_at hl 3 rfl) ?_
      refine lv_iconst (v := 1) hx hb d_Mo_spell_36 (by decide) ?_
      refine lv_iadd hx hb d_Mo_spell_37 ?_
      refine lv_aload_n hx hb d_Mo_spell_38 rfl (lv_at hl 0 rfl) ?_
      refine wd_get S i_Mo hK hW ht0 rfl 1 (by decide) k_Mo_7 rfl rfl d_Mo_spell_39 ?_
      refine lv_sipush (v := 256) hx hb d_Mo_spell_42 (by decide) ?_
      refine lv_iload_n hx hb d_Mo_spell_45 rfl (lv_at hl 1 rfl) ?_
      refine lv_imul hx hb d_Mo_spell_46 ?_
      refine lv_aload_n hx hb d_Mo_spell_47 rfl (lv_at hl 0 rfl) ?_
      refine wd_get S i_Mo hK hW ht0 rfl 21 (by decide) k_Mo_56 rfl rfl d_Mo_spell_48 ?_
      refine lv_iload_n hx hb d_Mo_spell_51 rfl (lv_at hl 3 rfl) ?_
      refine wd_iald S hK hW 0 c15 rfl hin d_Mo_spell_52 ?_
      rw [hcl, show M 15 k = nI sn from (hwd k s0 hs0).trans es0]
      refine lv_iadd hx hb d_Mo_spell_53 ?_
      rw [ix_256]
      refine wd_iald S hK hW 0 c0 rfl (vp_in_nI (by omega) (by omega)) d_Mo_spell_54 ?_
      rw [nI_clamp (by omega), m01 sn hsn, hk1]
      refine lv_topi (fun y0 ey0 => ?_)
      refine wd_iast S hK hW 0 c16 rfl (vp_in_nI (by omega) (by omega)) d_Mo_spell_55 (fun H locs w_1 ew_1 hW => ?_)
      have ht0 := wd_keep ew_1 (wd_ne ht0 c16 (by simp)) ht0
      have c0 := wd_keep ew_1 (wd_ne c0 c16 (by simp)) c0
      have c15 := wd_keep ew_1 (wd_ne c15 c16 (by simp)) c15
      have c16 : w_1 (C 16) = some (.inl (G.2.1 0, 32, .inl (upd g ((nI (k + 1)) : Int32).toNatClampNeg y0))) := wd_here ew_1
      rw [nI_clamp (by omega)] at c16
      have ew2 : w_1 = va_up w (C 16) (some (.inl (G.2.1 0, 32, .inl (upd g (k + 1) y0)))) := by rw [ew_1, ew, nI_clamp (by omega)]; exact bx_uu _ _ _ _
      have hg2 : ∀ (j : Nat) (x : Int32), j < k + 1 → wd[j]? = some x → upd g (k + 1) y0 (j + 1) = lg.1 x.toNatClampNeg := fun j x hj hx => by
        by_cases hjk : j = k
        · subst hjk; rw [hs0] at hx; cases hx; rw [pk_us, ey0, es0, nI_clamp (by omega)]
        · rw [pk_un (by omega)]; exact hg j x (by omega) hx
      have hp1 : (∀ x, wd[k]? = some x → ¬ lg.1 x.toNatClampNeg = 0) ↔ ¬ y0 = 0 := ⟨fun q => by have h9 := q s0 hs0; rw [es0, nI_clamp (by omega), ← ey0] at h9; exact h9, fun q x hx => by rw [hs0] at hx; cases hx; rw [es0, nI_clamp (by omega), ← ey0]; exact q⟩
      have hy0 : 0 ≤ y0 := by rw [ey0]; exact hpos sn
      refine lv_iload_n hx hb d_Mo_spell_56 rfl (lv_at hl 2 rfl) ?_
      refine lv_if_eq (tgt := 75) hx hb d_Mo_spell_57 (by decide) (fun h57 => ?_) (fun h57 => ?_)
      · refine lv_iconst (v := 0) hx hb d_Mo_spell_75 (by decide) ?_
        refine lv_istore_n (lv' := [(2, .int 0), (0, .ref t), (1, .int (nI i)), (3, .int xi)]) hx hb d_Mo_spell_76 rfl hl (by decide) rfl (fun ls hl => ?_)
        obtain ⟨xi2, exi2⟩ : ∃ y : Int32, y = xi + 1 := ⟨_, rfl⟩
        refine lv_iinc (v := xi2) (lv' := [(3, .int xi2), (2, .int 0), (0, .ref t), (1, .int (nI i))]) hx hb d_Mo_spell_77 hl (k := 3) rfl (by rw [exi2]; rfl) (by decide) rfl (fun ls hl => ?_)
        refine lv_goto (tgt := 23) hx hb d_Mo_spell_80 (by decide) ?_
        exact ih (k + 1) xi2 0 (upd g (k + 1) y0) _ _ _ _ (by omega) (by omega) (by rw [exi2, exi]; exact nI_1 k) (Or.inr ⟨rfl, fun q => bl_f hsm h57 ⟨trivial, fun j hj => q.2 j (by omega)⟩⟩) (by rw [pk_un (by omega)]; exact g0) (by rw [pk_un (by omega)]; exact gl) hg2 ew2 hW (lv_sub hl [2, 3, 1, 0] rfl)
      · refine lv_aload_n hx hb d_Mo_spell_60 rfl (lv_at hl 0 rfl) ?_
        refine wd_get S i_Mo hK hW ht0 rfl 22 (by decide) k_Mo_59 rfl rfl d_Mo_spell_61 ?_
        refine lv_iload_n hx hb d_Mo_spell_64 rfl (lv_at hl 3 rfl) ?_
        refine lv_iconst (v := 1) hx hb d_Mo_spell_65 (by decide) ?_
        refine lv_iadd hx hb d_Mo_spell_66 ?_
        rw [hk1]
        refine wd_iald S hK hW 0 c16 rfl (vp_in_nI (by omega) (by omega)) d_Mo_spell_67 ?_
        rw [nI_clamp (by omega), pk_us]
        refine lv_if_le (tgt := 75) hx hb d_Mo_spell_68 (by decide) (fun h68 => ?_) (fun h68 => ?_)
        · refine lv_iconst (v := 0) hx hb d_Mo_spell_75 (by decide) ?_
          refine lv_istore_n (lv' := [(2, .int 0), (0, .ref t), (1, .int (nI i)), (3, .int xi)]) hx hb d_Mo_spell_76 rfl hl (by decide) rfl (fun ls hl => ?_)
          obtain ⟨xi2, exi2⟩ : ∃ y : Int32, y = xi + 1 := ⟨_, rfl⟩
          refine lv_iinc (v := xi2) (lv' := [(3, .int xi2), (2, .int 0), (0, .ref t), (1, .int (nI i))]) hx hb d_Mo_spell_77 hl (k := 3) rfl (by rw [exi2]; rfl) (by decide) rfl (fun ls hl => ?_)
          refine lv_goto (tgt := 23) hx hb d_Mo_spell_80 (by decide) ?_
          exact ih (k + 1) xi2 0 (upd g (k + 1) y0) _ _ _ _ (by omega) (by omega) (by rw [exi2, exi]; exact nI_1 k) (bl_al0 (P := fun j => ∀ x, wd[j]? = some x → ¬ lg.1 x.toNatClampNeg = 0) (fun q => hp1.mp q (Int32.le_antisymm h68 hy0))) (by rw [pk_un (by omega)]; exact g0) (by rw [pk_un (by omega)]; exact gl) hg2 ew2 hW (lv_sub hl [2, 3, 1, 0] rfl)
        · refine lv_iconst (v := 1) hx hb d_Mo_spell_71 (by decide) ?_
          refine lv_goto (tgt := 76) hx hb d_Mo_spell_72 (by decide) ?_
          refine lv_istore_n (lv' := [(2, .int 1), (0, .ref t), (1, .int (nI i)), (3, .int xi)]) hx hb d_Mo_spell_76 rfl hl (by decide) rfl (fun ls hl => ?_)
          obtain ⟨xi2, exi2⟩ : ∃ y : Int32, y = xi + 1 := ⟨_, rfl⟩
          refine lv_iinc (v := xi2) (lv' := [(3, .int xi2), (2, .int 1), (0, .ref t), (1, .int (nI i))]) hx hb d_Mo_spell_77 hl (k := 3) rfl (by rw [exi2]; rfl) (by decide) rfl (fun ls hl => ?_)
          refine lv_goto (tgt := 23) hx hb d_Mo_spell_80 (by decide) ?_
          exact ih (k + 1) xi2 1 (upd g (k + 1) y0) _ _ _ _ (by omega) (by omega) (by rw [exi2, exi]; exact nI_1 k) (bl_al1 (P := fun j => ∀ x, wd[j]? = some x → ¬ lg.1 x.toNatClampNeg = 0) hsm h57 (hp1.mpr (fun q => h68 (by rw [q]; exact Int32.le_refl _)))) (by rw [pk_un (by omega)]; exact g0) (by rw [pk_un (by omega)]; exact gl) hg2 ew2 hW (lv_sub hl [2, 3, 1, 0] rfl)

set_option maxHeartbeats 4000000 in
set_option maxRecDepth 100000 in
/-- spell(language): the row holds the letters -/
theorem c_Mo_spell (l : Launch) (G : ev_G) (w : wd_M) (sz : Nat) (t : Nat) (C : Nat → Nat) (M : Nat → Nat → Int32) (ln mk pn tn en qn : Int32) (tg : Nat → Nat) (i : Nat) (lg : hy_L) (wd : List Int32) (hc : mo_c G w t C M ln mk pn tn en (nI wd.length) qn) (hT : mo_g tg t C) (m01 : ∀ s, s < 256 → M 0 (256 * i + s) = lg.1 s) (hi4 : i < 4) (hpos : ∀ s : Nat, 0 ≤ lg.1 s) (hwd : li_ wd (M 15)) (wwd : wd.length ≤ 30) (wws : ∀ x ∈ wd, ∃ s : Nat, s < 256 ∧ x = nI s) : ct_i l y_Mo_spell b_Mo_spell 4 (some FieldType.boolean) (rm_ 0 0 0) G w sz [.ref t, .int (nI i)] (fun v u => bl_ v (hy_sp lg wd) ∧ ∃ g : Nat → Int32, u = va_up w (C 16) (some (.inl (G.2.1 0, 32, .inl g))) ∧ li_ (hy_row (hy_let lg wd)) g) := by
  refine ct_enter (by decide +kernel) (Nat.le_of_ble_eq_true rfl) ?_
  intro p_ e_ s m below meth c_ hsz S hr hlocks hname hE hW ls hl
  have S : CallFix p_ m c_ b_Mo_spell 4 s _ lw_good "HyphenRowsModel" := S
  have hx := S.1
  have hb := S.2.1
  have hK := hE.1
  have hl : lv_has ls 4 [(0, .ref t), (1, .int (nI i))] := hl
  obtain ⟨ht0, -, -, -, -, -, -, -, -, -, -, -, -, -, -, -, -, c16, -⟩ := id hc
  refine lv_iconst (v := 1) hx hb d_Mo_spell_0 (by decide) ?_
  refine lv_istore_n (lv' := [(2, .int 1), (0, .ref t), (1, .int (nI i))]) hx hb d_Mo_spell_1 rfl hl (by decide) rfl (fun ls hl => ?_)
  refine lv_aload_n hx hb d_Mo_spell_2 rfl (lv_at hl 1 rfl) ?_
  refine wd_get S i_Mo hK hW ht0 rfl 22 (by decide) k_Mo_59 rfl rfl d_Mo_spell_3 ?_
  refine lv_iconst (v := 0) hx hb d_Mo_spell_6 (by decide) ?_
  refine lv_iconst (v := 0) hx hb d_Mo_spell_7 (by decide) ?_
  refine wd_iast S hK hW 0 c16 rfl (vp_in_nI (n := 0) (by omega) (by omega)) d_Mo_spell_8 (fun H locs w_1 ew_1 hW => ?_)
  have ht0 := wd_keep ew_1 (wd_ne ht0 c16 (by simp)) ht0
  have c16 : w_1 (C 16) = some (.inl (G.2.1 0, 32, .inl (upd (M 16) (0 : Int32).toNatClampNeg 0))) := wd_here ew_1
  rw [show (0 : Int32).toNatClampNeg = 0 from rfl] at c16
  refine lv_aload_n hx hb d_Mo_spell_9 rfl (lv_at hl 1 rfl) ?_
  refine wd_get S i_Mo hK hW ht0 rfl 22 (by decide) k_Mo_59 rfl rfl d_Mo_spell_10 ?_
  refine lv_aload_n hx hb d_Mo_spell_13 rfl (lv_at hl 1 rfl) ?_
  refine wd_get S i_Mo hK hW ht0 rfl 20 (by decide) k_Mo_94 rfl rfl d_Mo_spell_14 ?_
  refine lv_iconst (v := 1) hx hb d_Mo_spell_17 (by decide) ?_
  refine lv_iadd hx hb d_Mo_spell_18 ?_
  refine lv_iconst (v := 0) hx hb d_Mo_spell_19 (by decide) ?_
  rw [nI_1]
  refine wd_iast S hK hW 0 c16 rfl (vp_in_nI (by omega) (by omega)) d_Mo_spell_20 (fun H locs w_2 ew_2 hW => ?_)
  have ht0 := wd_keep ew_2 (wd_ne ht0 c16 (by simp)) ht0
  have c16 : w_2 (C 16) = some (.inl (G.2.1 0, 32, .inl (upd (upd (M 16) 0 0) ((nI (wd.length + 1)) : Int32).toNatClampNeg 0))) := wd_here ew_2
  refine lv_iconst (v := 0) hx hb d_Mo_spell_21 (by decide) ?_
  refine lv_istore_n (lv' := [(3, .int 0), (2, .int 1), (0, .ref t), (1, .int (nI i))]) hx hb d_Mo_spell_22 rfl hl (by decide) rfl (fun ls hl => ?_)
  refine lo_Mo_spell S hE hc hT m01 hi4 hpos hwd wwd wws (fun sm g w1 H locs hsm g0 gl hg ew hW ls hl => ?_) (wd.length + 1) 0 0 1 (upd (upd (M 16) 0 0) (wd.length + 1) 0) _ _ _ _ (by omega) (Nat.zero_le _) nI_0.symm (Or.inl ⟨rfl, trivial, fun j hj => absurd hj (Nat.not_lt_zero j)⟩) (by rw [pk_un (by omega), pk_us]) pk_us (fun j x hj => absurd hj (Nat.not_lt_zero j)) (by rw [ew_2, ew_1, nI_clamp (by omega)]; exact bx_uu _ _ _ _) hW (lv_sub hl [2, 3, 1, 0] rfl)
  have hll : (hy_let lg wd).length = wd.length := List.length_map _
  have hiff : (True ∧ ∀ j, j < wd.length → ∀ x, wd[j]? = some x → ¬ lg.1 x.toNatClampNeg = 0) ↔ hy_sp lg wd := ⟨fun q x hx => by obtain ⟨s9, hs9, rfl⟩ := List.mem_map.mp hx; obtain ⟨j, hj⟩ := List.getElem?_of_mem hs9; exact q.2 j (List.getElem?_eq_some_iff.mp hj).1 s9 hj, fun q => ⟨trivial, fun j _ x hx => q _ (List.mem_map.mpr ⟨x, List.mem_of_getElem? hx, rfl⟩)⟩⟩
  have hrow : li_ (hy_row (hy_let lg wd)) g := fun j x hx => by
    cases j with
    | zero => cases hx; exact g0
    | succ j =>
      have hx : (hy_let lg wd ++ [0])[j]? = some x := hx
      by_cases hj : j < wd.length
      · rw [List.getElem?_append_left (by omega)] at hx; unfold hy_let at hx; rw [List.getElem?_map] at hx; obtain ⟨s9, hs9, rfl⟩ := Option.map_eq_some_iff.mp hx; exact hg j s9 hj hs9
      · rw [List.getElem?_append_right (by omega)] at hx
        have h1 : j - (hy_let lg wd).length < 1 := (List.getElem?_eq_some_iff.mp hx).1
        have h2 : j = wd.length := by omega
        subst h2; rw [hll, Nat.sub_self] at hx; cases hx; exact gl
  refine lv_iload_n hx hb d_Mo_spell_83 rfl (lv_at hl 1 rfl) ?_
  exact ct_iret S hr (bl_01 hsm) hlocks hW (⟨bl_i hsm hiff, g, ew, hrow⟩) (Nat.le_refl _) (Nat.le_refl _) d_Mo_spell_84

set_option maxHeartbeats 4000000 in
set_option maxRecDepth 100000 in
/-- the inner loop of exceptionOf -/
theorem lo_Mo_exceptionOfB {p_ : Program} {l : Launch} {e_ : Env} {s : State} {m : MethodId} {args : Array Value} {below : List Frame} {meth : Method} {c_ : Code} {Q : State → Prop} {G : ev_G} {A : Nat → Prop} (S : CallFix p_ m c_ b_Mo_exceptionOf 5 s args lw_good "HyphenRowsModel") (hE : ev_K G A s s.heap) {w : wd_M} {H : Heap} {locs : List Loc} {t : Nat} {C : Nat → Nat} {M : Nat → Nat → Int32} {ln mk pn tn qn : Int32} {lx : Nat} {lt : List Int32} {Ts : List hy_T} {i : Nat} {q : hy_T} (hW : wd_W G.1 ev_cl A w s.heap H locs) (hc : mo_c G w t C M ln mk pn tn (nI Ts.length) (nI lt.length) qn) (hq0 : mo_t Ts M) (hrt : li_ lt (fun j => M 16 (j + 1))) (hlt30 : lt.length ≤ 30) (wT : Ts.length ≤ 40) (wts : ∀ t ∈ Ts, t.1 < 4 ∧ t.2.1.length ≤ 30) (hlx : lx < 4) (hi40 : i < 40) (kk : ∀ sm : Int32, bl_ sm ((q.1 = lx ∧ q.2.1.length = lt.length) ∧ ∀ j, j < lt.length → M 13 (30 * i + j) = M 16 (j + 1)) → ∀ ls : Array Slot, lv_has ls 5 [(0, .ref t), (1, .int (nI lx)), (2, .int (nI i)), (3, .int sm)] → W p_ l e_ (rm_ 0 0 0) s m args below meth c_ H locs 0 0 Q (F0 m 97 ls [])) :
    ∀ (fu : Nat) (k : Nat) (xi : Int32) (sm : Int32) (ls : Array Slot), lt.length < k + fu → k ≤ lt.length → xi = nI k → bl_ sm ((q.1 = lx ∧ q.2.1.length = lt.length) ∧ ∀ j, j < k → M 13 (30 * i + j) = M 16 (j + 1)) → lv_has ls 5 [(0, .ref t), (1, .int (nI lx)), (2, .int (nI i)), (3, .int sm), (4, .int xi)] → W p_ l e_ (rm_ 0 0 0) s m args below meth c_ H locs 0 0 Q (F0 m 48 ls []) := by
  have hx := S.1
  have hb := S.2.1
  have hK := hE.1
  intro fu
  induction fu with
  | zero =>
    intro k xi sm ls hfu hk exi hsm hl
    exact absurd hfu (by omega)
  | succ fu ih =>
    intro k xi sm ls hfu hk exi hsm hl
    obtain ⟨ht0, -, -, -, -, -, -, -, -, -, -, -, -, -, c13, -, -, c16, -⟩ := id hc
    refine lv_iload hx hb d_Mo_exceptionOf_48 (lv_at hl 4 rfl) ?_
    refine lv_aload_n hx hb d_Mo_exceptionOf_50 rfl (lv_at hl 0 rfl) ?_
    refine wd_get S i_Mo hK hW ht0 rfl 20 (by decide) k_Mo_94 rfl rfl d_Mo_exceptionOf_51 ?_
    refine lv_icmp_ge (tgt := 97) hx hb d_Mo_exceptionOf_54 (by decide) (fun h54 => ?_) (fun h54 => ?_)
    · have hin9 : k = lt.length := by rw [exi] at h54; have := (nI_leI (by omega) (by omega)).mp h54; omega
      subst hin9
      exact kk sm hsm ls (lv_sub hl [0, 1, 2, 3] rfl)
    · have hlt : k < lt.length := by rw [exi] at h54; exact Nat.lt_of_not_le (fun q => h54 (nI_le q (by omega)))
      refine lv_iload_n hx hb d_Mo_exceptionOf_57 rfl (lv_at hl 3 rfl) ?_
      refine lv_if_eq (tgt := 97) hx hb d_Mo_exceptionOf_58 (by decide) (fun h58 => ?_) (fun h58 => ?_)
      · exact kk sm (bl_alx hsm h58 hk) ls (lv_sub hl [0, 1, 2, 3] rfl)
      · refine lv_aload_n hx hb d_Mo_exceptionOf_61 rfl (lv_at hl 0 rfl) ?_
        refine wd_get S i_Mo hK hW ht0 rfl 18 (by decide) k_Mo_50 rfl rfl d_Mo_exceptionOf_62 ?_
        refine lv_bipush (v := 30) hx hb d_Mo_exceptionOf_65 (by decide) ?_
        refine lv_iload_n hx hb d_Mo_exceptionOf_67 rfl (lv_at hl 2 rfl) ?_
        refine lv_imul hx hb d_Mo_exceptionOf_68 ?_
        refine lv_iload hx hb d_Mo_exceptionOf_69 (lv_at hl 4 rfl) ?_
        refine lv_iadd hx hb d_Mo_exceptionOf_71 ?_
        rw [show (30 : Int32) * nI i + xi = nI (30 * i + k) from by rw [exi]; exact ix_30 i k]
        refine wd_iald S hK hW 0 c13 rfl (vp_in_nI (by omega) (by omega)) d_Mo_exceptionOf_72 ?_
        rw [nI_clamp (by omega)]
        refine lv_aload_n hx hb d_Mo_exceptionOf_73 rfl (lv_at hl 0 rfl) ?_
        refine wd_get S i_Mo hK hW ht0 rfl 22 (by decide) k_Mo_59 rfl rfl d_Mo_exceptionOf_74 ?_
        refine lv_iload hx hb d_Mo_exceptionOf_77 (lv_at hl 4 rfl) ?_
        refine lv_iconst (v := 1) hx hb d_Mo_exceptionOf_79 (by decide) ?_
        refine lv_iadd hx hb d_Mo_exceptionOf_80 ?_
        rw [show xi + 1 = nI (k + 1) from by rw [exi]; exact nI_1 k]
        refine wd_iald S hK hW 0 c16 rfl (vp_in_nI (by omega) (by omega)) d_Mo_exceptionOf_81 ?_
        rw [nI_clamp (by omega)]
        refine lv_icmp_ne (tgt := 89) hx hb d_Mo_exceptionOf_82 (by decide) (fun h82 => ?_) (fun h82 => ?_)
        · refine lv_iconst (v := 0) hx hb d_Mo_exceptionOf_89 (by decide) ?_
          refine lv_istore_n (lv' := [(3, .int 0), (0, .ref t), (1, .int (nI lx)), (2, .int (nI i)), (4, .int xi)]) hx hb d_Mo_exceptionOf_90 rfl hl (by decide) rfl (fun ls hl => ?_)
          obtain ⟨xi2, exi2⟩ : ∃ y : Int32, y = xi + 1 := ⟨_, rfl⟩
          refine lv_iinc (v := xi2) (lv' := [(4, .int xi2), (3, .int 0), (0, .ref t), (1, .int (nI lx)), (2, .int (nI i))]) hx hb d_Mo_exceptionOf_91 hl (k := 4) rfl (by rw [exi2]; rfl) (by decide) rfl (fun ls hl => ?_)
          refine lv_goto (tgt := 48) hx hb d_Mo_exceptionOf_94 (by decide) ?_
          exact ih (k + 1) xi2 0 _ (by omega) (by omega) (by rw [exi2, exi]; exact nI_1 k) (bl_al0 h82) (lv_sub hl [2, 3, 4, 1, 0] rfl)
        · refine lv_iconst (v := 1) hx hb d_Mo_exceptionOf_85 (by decide) ?_
          refine lv_goto (tgt := 90) hx hb d_Mo_exceptionOf_86 (by decide) ?_
          refine lv_istore_n (lv' := [(3, .int 1), (0, .ref t), (1, .int (nI lx)), (2, .int (nI i)), (4, .int xi)]) hx hb d_Mo_exceptionOf_90 rfl hl (by decide) rfl (fun ls hl => ?_)
          obtain ⟨xi2, exi2⟩ : ∃ y : Int32, y = xi + 1 := ⟨_, rfl⟩
          refine lv_iinc (v := xi2) (lv' := [(4, .int xi2), (3, .int 1), (0, .ref t), (1, .int (nI lx)), (2, .int (nI i))]) hx hb d_Mo_exceptionOf_91 hl (k := 4) rfl (by rw [exi2]; rfl) (by decide) rfl (fun ls hl => ?_)
          refine lv_goto (tgt := 48) hx hb d_Mo_exceptionOf_94 (by decide) ?_
          exact ih (k + 1) xi2 1 _ (by omega) (by omega) (by rw [exi2, exi]; exact nI_1 k) (bl_al1 hsm h58 h82) (lv_sub hl [2, 3, 4, 1, 0] rfl)

set_option maxHeartbeats 4000000 in
set_option maxRecDepth 100000 in
/-- the loop of exceptionOf -/
theorem lo_Mo_exceptionOf {p_ : Program} {l : Launch} {e_ : Env} {s : State} {m : MethodId} {args : Array Value} {below : List Frame} {meth : Method} {c_ : Code} {Q : State → Prop} {G : ev_G} {A : Nat → Prop} (S : CallFix p_ m c_ b_Mo_exceptionOf 5 s args lw_good "HyphenRowsModel") (hE : ev_K G A s s.heap) {w : wd_M} {H : Heap} {locs : List Loc} {t : Nat} {C : Nat → Nat} {M : Nat → Nat → Int32} {ln mk pn tn qn : Int32} {lx : Nat} {lt : List Int32} {Ts : List hy_T} (hW : wd_W G.1 ev_cl A w s.heap H locs) (hc : mo_c G w t C M ln mk pn tn (nI Ts.length) (nI lt.length) qn) (hq0 : mo_t Ts M) (hrt : li_ lt (fun j => M 16 (j + 1))) (hlt30 : lt.length ≤ 30) (wT : Ts.length ≤ 40) (wts : ∀ t ∈ Ts, t.1 < 4 ∧ t.2.1.length ≤ 30) (hlx : lx < 4) (kk : ∀ k : Nat, k ≤ Ts.length → (∀ (j : Nat) (q : hy_T), j < k → Ts[j]? = some q → ¬ hy_tm lx lt q) → (k < Ts.length → ∃ q, Ts[k]? = some q ∧ hy_tm lx lt q) → ∀ xi : Int32, xi = nI k → ∀ ls : Array Slot, lv_has ls 5 [(0, .ref t), (2, .int xi)] → W p_ l e_ (rm_ 0 0 0) s m args below meth c_ H locs 0 0 Q (F0 m 112 ls [])) :
    ∀ (fu : Nat) (i : Nat) (xi : Int32) (f : Nat) (fl : Int32) (ls : Array Slot), Ts.length + 1 < (i + f) + fu → i ≤ Ts.length → f ≤ 1 → xi = nI i → (∀ (j : Nat) (q : hy_T), j < i → Ts[j]? = some q → ¬ hy_tm lx lt q) → ((f = 0 ∧ fl = 0) ∨ ((f = 1 ∧ fl = 1) ∧ ∃ q, Ts[i]? = some q ∧ hy_tm lx lt q)) → lv_has ls 5 [(0, .ref t), (1, .int (nI lx)), (2, .int xi), (3, .int fl)] → W p_ l e_ (rm_ 0 0 0) s m args below meth c_ H locs 0 0 Q (F0 m 4 ls []) := by
  have hx := S.1
  have hb := S.2.1
  have hK := hE.1
  intro fu
  induction fu with
  | zero =>
    intro i xi f fl ls hfu hi hf1 exi hinv hfl hl
    exact absurd hfu (by omega)
  | succ fu ih =>
    intro i xi f fl ls hfu hi hf1 exi hinv hfl hl
    obtain ⟨ht0, -, -, -, -, -, -, -, -, -, -, -, c11, c12, -⟩ := id hc
    refine lv_iload_n hx hb d_Mo_exceptionOf_4 rfl (lv_at hl 2 rfl) ?_
    refine lv_aload_n hx hb d_Mo_exceptionOf_5 rfl (lv_at hl 0 rfl) ?_
    refine wd_get S i_Mo hK hW ht0 rfl 15 (by decide) k_Mo_97 rfl rfl d_Mo_exceptionOf_6 ?_
    refine lv_icmp_ge (tgt := 112) hx hb d_Mo_exceptionOf_9 (by decide) (fun h9 => ?_) (fun h9 => ?_)
    · have hin9 : i = Ts.length := by rw [exi] at h9; have := (nI_leI (by omega) (by omega)).mp h9; omega
      exact kk i hi hinv (fun z => by omega) xi exi ls (lv_sub hl [0, 2] rfl)
    · have hlt : i < Ts.length := by rw [exi] at h9; exact Nat.lt_of_not_le (fun q => h9 (nI_le q (by omega)))
      refine lv_iload_n hx hb d_Mo_exceptionOf_12 rfl (lv_at hl 3 rfl) ?_
      refine lv_if_ne (tgt := 112) hx hb d_Mo_exceptionOf_13 (by decide) (fun h13 => ?_) (fun h13 => ?_)
      · exact kk i hi hinv (fun _ => (hfl.resolve_left (fun z => h13 z.2)).2) xi exi ls (lv_sub hl [0, 2] rfl)
      · have hf0 : f = 0 := hfl.elim (fun z => z.1) (fun z => absurd h13 (by rw [z.1.2]; decide))
        obtain ⟨q, hqi⟩ : ∃ q, Ts[i]? = some q := ⟨_, List.getElem?_eq_getElem hlt⟩
        obtain ⟨m11, m12, m13, m14⟩ := hq0 i q hqi
        have hqm := wts q (List.mem_of_getElem? hqi)
        rw [exi] at hl
        refine lv_aload_n hx hb d_Mo_exceptionOf_16 rfl (lv_at hl 0 rfl) ?_
        refine wd_get S i_Mo hK hW ht0 rfl 16 (by decide) k_Mo_44 rfl rfl d_Mo_exceptionOf_17 ?_
        refine lv_iload_n hx hb d_Mo_exceptionOf_20 rfl (lv_at hl 2 rfl) ?_
        refine wd_iald S hK hW 0 c11 rfl (vp_in_nI (by omega) (by omega)) d_Mo_exceptionOf_21 ?_
        rw [nI_clamp (by omega), m11]
        refine lv_iload_n hx hb d_Mo_exceptionOf_22 rfl (lv_at hl 1 rfl) ?_
        refine lv_icmp_ne (tgt := 43) hx hb d_Mo_exceptionOf_23 (by decide) (fun h23 => ?_) (fun h23 => ?_)
        · refine lv_iconst (v := 0) hx hb d_Mo_exceptionOf_43 (by decide) ?_
          refine lv_istore_n (lv' := [(3, .int 0), (0, .ref t), (1, .int (nI lx)), (2, .int (nI i))]) hx hb d_Mo_exceptionOf_44 rfl hl (by decide) rfl (fun ls hl => ?_)
          refine lv_iconst (v := 0) hx hb d_Mo_exceptionOf_45 (by decide) ?_
          refine lv_istore (lv' := [(4, .int 0), (3, .int 0), (0, .ref t), (1, .int (nI lx)), (2, .int (nI i))]) hx hb d_Mo_exceptionOf_46 hl (by decide) rfl (fun ls hl => ?_)
          refine lo_Mo_exceptionOfB (q := q) (i := i) S hE hW hc hq0 hrt hlt30 wT wts hlx (by omega) (fun sm hsm ls hl => ?_) (lt.length + 1) 0 0 0 _ (by omega) (Nat.zero_le _) nI_0.symm (Or.inr ⟨rfl, fun z => h23 (by rw [z.1.1])⟩) (lv_sub hl [2, 3, 4, 1, 0] rfl)
          have hiff : ((q.1 = lx ∧ q.2.1.length = lt.length) ∧ ∀ j, j < lt.length → M 13 (30 * i + j) = M 16 (j + 1)) ↔ hy_tm lx lt q := ⟨fun z => ⟨z.1.1, li_one (f := fun j => M 13 (30 * i + j)) (g := fun j => M 16 (j + 1)) m13 hrt z.1.2 (fun j hj => z.2 j (by omega))⟩, fun z => ⟨⟨z.1, by rw [z.2]⟩, fun j hj => (m13 j lt[j] (by rw [z.2]; exact List.getElem?_eq_getElem hj)).trans (hrt j lt[j] (List.getElem?_eq_getElem hj)).symm⟩⟩
          have hsm := bl_i hsm hiff
          refine lv_iload_n hx hb d_Mo_exceptionOf_97 rfl (lv_at hl 2 rfl) ?_
          refine lv_iload_n hx hb d_Mo_exceptionOf_98 rfl (lv_at hl 3 rfl) ?_
          refine lv_if_eq (tgt := 106) hx hb d_Mo_exceptionOf_99 (by decide) (fun h99 => ?_) (fun h99 => ?_)
          · refine lv_iconst (v := 1) hx hb d_Mo_exceptionOf_106 (by decide) ?_
            refine lv_iadd hx hb d_Mo_exceptionOf_107 ?_
            refine lv_topi (fun x2 ex2 => ?_)
            refine lv_istore_n (lv' := [(2, .int x2), (0, .ref t), (1, .int (nI lx)), (3, .int sm)]) hx hb d_Mo_exceptionOf_108 rfl hl (by decide) rfl (fun ls hl => ?_)
            refine lv_goto (tgt := 4) hx hb d_Mo_exceptionOf_109 (by decide) ?_
            exact ih (i + 1) x2 0 0 _ (by omega) (by omega) (by omega) (by rw [ex2]; exact nI_1 i) (lt_inv hinv hqi (bl_f hsm h99)) (Or.inl ⟨rfl, rfl⟩) (by rw [h99] at hl; exact (lv_sub hl [1, 2, 0, 3] rfl))
          · have hs1 : sm = 1 := hsm.elim (fun z => z.1) (fun z => absurd z.1 h99)
            refine lv_iconst (v := 0) hx hb d_Mo_exceptionOf_102 (by decide) ?_
            refine lv_goto (tgt := 107) hx hb d_Mo_exceptionOf_103 (by decide) ?_
            refine lv_iadd hx hb d_Mo_exceptionOf_107 ?_
            refine lv_topi (fun x2 ex2 => ?_)
            refine lv_istore_n (lv' := [(2, .int x2), (0, .ref t), (1, .int (nI lx)), (3, .int sm)]) hx hb d_Mo_exceptionOf_108 rfl hl (by decide) rfl (fun ls hl => ?_)
            refine lv_goto (tgt := 4) hx hb d_Mo_exceptionOf_109 (by decide) ?_
            exact ih i x2 1 1 _ (by omega) hi (by omega) (by rw [ex2]; exact Int32.add_zero _) hinv (Or.inr ⟨⟨rfl, rfl⟩, q, hqi, bl_t hsm h99⟩) (by rw [hs1] at hl; exact (lv_sub hl [1, 2, 0, 3] rfl))
        · refine lv_aload_n hx hb d_Mo_exceptionOf_26 rfl (lv_at hl 0 rfl) ?_
          refine wd_get S i_Mo hK hW ht0 rfl 17 (by decide) k_Mo_47 rfl rfl d_Mo_exceptionOf_27 ?_
          refine lv_iload_n hx hb d_Mo_exceptionOf_30 rfl (lv_at hl 2 rfl) ?_
          refine wd_iald S hK hW 0 c12 rfl (vp_in_nI (by omega) (by omega)) d_Mo_exceptionOf_31 ?_
          rw [nI_clamp (by omega), m12]
          refine lv_aload_n hx hb d_Mo_exceptionOf_32 rfl (lv_at hl 0 rfl) ?_
          refine wd_get S i_Mo hK hW ht0 rfl 20 (by decide) k_Mo_94 rfl rfl d_Mo_exceptionOf_33 ?_
          refine lv_icmp_ne (tgt := 43) hx hb d_Mo_exceptionOf_36 (by decide) (fun h36 => ?_) (fun h36 => ?_)
          · refine lv_iconst (v := 0) hx hb d_Mo_exceptionOf_43 (by decide) ?_
            refine lv_istore_n (lv' := [(3, .int 0), (0, .ref t), (1, .int (nI lx)), (2, .int (nI i))]) hx hb d_Mo_exceptionOf_44 rfl hl (by decide) rfl (fun ls hl => ?_)
            refine lv_iconst (v := 0) hx hb d_Mo_exceptionOf_45 (by decide) ?_
            refine lv_istore (lv' := [(4, .int 0), (3, .int 0), (0, .ref t), (1, .int (nI lx)), (2, .int (nI i))]) hx hb d_Mo_exceptionOf_46 hl (by decide) rfl (fun ls hl => ?_)
            refine lo_Mo_exceptionOfB (q := q) (i := i) S hE hW hc hq0 hrt hlt30 wT wts hlx (by omega) (fun sm hsm ls hl => ?_) (lt.length + 1) 0 0 0 _ (by omega) (Nat.zero_le _) nI_0.symm (Or.inr ⟨rfl, fun z => h36 (by rw [z.1.2])⟩) (lv_sub hl [2, 3, 4, 1, 0] rfl)
            have hiff : ((q.1 = lx ∧ q.2.1.length = lt.length) ∧ ∀ j, j < lt.length → M 13 (30 * i + j) = M 16 (j + 1)) ↔ hy_tm lx lt q := ⟨fun z => ⟨z.1.1, li_one (f := fun j => M 13 (30 * i + j)) (g := fun j => M 16 (j + 1)) m13 hrt z.1.2 (fun j hj => z.2 j (by omega))⟩, fun z => ⟨⟨z.1, by rw [z.2]⟩, fun j hj => (m13 j lt[j] (by rw [z.2]; exact List.getElem?_eq_getElem hj)).trans (hrt j lt[j] (List.getElem?_eq_getElem hj)).symm⟩⟩
            have hsm := bl_i hsm hiff
            refine lv_iload_n hx hb d_Mo_exceptionOf_97 rfl (lv_at hl 2 rfl) ?_
            refine lv_iload_n hx hb d_Mo_exceptionOf_98 rfl (lv_at hl 3 rfl) ?_
            refine lv_if_eq (tgt := 106) hx hb d_Mo_exceptionOf_99 (by decide) (fun h99 => ?_) (fun h99 => ?_)
            · refine lv_iconst (v := 1) hx hb d_Mo_exceptionOf_106 (by decide) ?_
              refine lv_iadd hx hb d_Mo_exceptionOf_107 ?_
              refine lv_topi (fun x2 ex2 => ?_)
              refine lv_istore_n (lv' := [(2, .int x2), (0, .ref t), (1, .int (nI lx)), (3, .int sm)]) hx hb d_Mo_exceptionOf_108 rfl hl (by decide) rfl (fun ls hl => ?_)
              refine lv_goto (tgt := 4) hx hb d_Mo_exceptionOf_109 (by decide) ?_
              exact ih (i + 1) x2 0 0 _ (by omega) (by omega) (by omega) (by rw [ex2]; exact nI_1 i) (lt_inv hinv hqi (bl_f hsm h99)) (Or.inl ⟨rfl, rfl⟩) (by rw [h99] at hl; exact (lv_sub hl [1, 2, 0, 3] rfl))
            · have hs1 : sm = 1 := hsm.elim (fun z => z.1) (fun z => absurd z.1 h99)
              refine lv_iconst (v := 0) hx hb d_Mo_exceptionOf_102 (by decide) ?_
              refine lv_goto (tgt := 107) hx hb d_Mo_exceptionOf_103 (by decide) ?_
              refine lv_iadd hx hb d_Mo_exceptionOf_107 ?_
              refine lv_topi (fun x2 ex2 => ?_)
              refine lv_istore_n (lv' := [(2, .int x2), (0, .ref t), (1, .int (nI lx)), (3, .int sm)]) hx hb d_Mo_exceptionOf_108 rfl hl (by decide) rfl (fun ls hl => ?_)
              refine lv_goto (tgt := 4) hx hb d_Mo_exceptionOf_109 (by decide) ?_
              exact ih i x2 1 1 _ (by omega) hi (by omega) (by rw [ex2]; exact Int32.add_zero _) hinv (Or.inr ⟨⟨rfl, rfl⟩, q, hqi, bl_t hsm h99⟩) (by rw [hs1] at hl; exact (lv_sub hl [1, 2, 0, 3] rfl))
          · refine lv_iconst (v := 1) hx hb d_Mo_exceptionOf_39 (by decide) ?_
            refine lv_goto (tgt := 44) hx hb d_Mo_exceptionOf_40 (by decide) ?_
            refine lv_istore_n (lv' := [(3, .int 1), (0, .ref t), (1, .int (nI lx)), (2, .int (nI i))]) hx hb d_Mo_exceptionOf_44 rfl hl (by decide) rfl (fun ls hl => ?_)
            refine lv_iconst (v := 0) hx hb d_Mo_exceptionOf_45 (by decide) ?_
            refine lv_istore (lv' := [(4, .int 0), (3, .int 1), (0, .ref t), (1, .int (nI lx)), (2, .int (nI i))]) hx hb d_Mo_exceptionOf_46 hl (by decide) rfl (fun ls hl => ?_)
            refine lo_Mo_exceptionOfB (q := q) (i := i) S hE hW hc hq0 hrt hlt30 wT wts hlx (by omega) (fun sm hsm ls hl => ?_) (lt.length + 1) 0 0 1 _ (by omega) (Nat.zero_le _) nI_0.symm (Or.inl ⟨rfl, ⟨(nI_eq (by omega) (by omega)).mp h23, (nI_eq (by omega) (by omega)).mp h36⟩, lt_0⟩) (lv_sub hl [2, 3, 4, 1, 0] rfl)
            have hiff : ((q.1 = lx ∧ q.2.1.length = lt.length) ∧ ∀ j, j < lt.length → M 13 (30 * i + j) = M 16 (j + 1)) ↔ hy_tm lx lt q := ⟨fun z => ⟨z.1.1, li_one (f := fun j => M 13 (30 * i + j)) (g := fun j => M 16 (j + 1)) m13 hrt z.1.2 (fun j hj => z.2 j (by omega))⟩, fun z => ⟨⟨z.1, by rw [z.2]⟩, fun j hj => (m13 j lt[j] (by rw [z.2]; exact List.getElem?_eq_getElem hj)).trans (hrt j lt[j] (List.getElem?_eq_getElem hj)).symm⟩⟩
            have hsm := bl_i hsm hiff
            refine lv_iload_n hx hb d_Mo_exceptionOf_97 rfl (lv_at hl 2 rfl) ?_
            refine lv_iload_n hx hb d_Mo_exceptionOf_98 rfl (lv_at hl 3 rfl) ?_
            refine lv_if_eq (tgt := 106) hx hb d_Mo_exceptionOf_99 (by decide) (fun h99 => ?_) (fun h99 => ?_)
            · refine lv_iconst (v := 1) hx hb d_Mo_exceptionOf_106 (by decide) ?_
              refine lv_iadd hx hb d_Mo_exceptionOf_107 ?_
              refine lv_topi (fun x2 ex2 => ?_)
              refine lv_istore_n (lv' := [(2, .int x2), (0, .ref t), (1, .int (nI lx)), (3, .int sm)]) hx hb d_Mo_exceptionOf_108 rfl hl (by decide) rfl (fun ls hl => ?_)
              refine lv_goto (tgt := 4) hx hb d_Mo_exceptionOf_109 (by decide) ?_
              exact ih (i + 1) x2 0 0 _ (by omega) (by omega) (by omega) (by rw [ex2]; exact nI_1 i) (lt_inv hinv hqi (bl_f hsm h99)) (Or.inl ⟨rfl, rfl⟩) (by rw [h99] at hl; exact (lv_sub hl [1, 2, 0, 3] rfl))
            · have hs1 : sm = 1 := hsm.elim (fun z => z.1) (fun z => absurd z.1 h99)
              refine lv_iconst (v := 0) hx hb d_Mo_exceptionOf_102 (by decide) ?_
              refine lv_goto (tgt := 107) hx hb d_Mo_exceptionOf_103 (by decide) ?_
              refine lv_iadd hx hb d_Mo_exceptionOf_107 ?_
              refine lv_topi (fun x2 ex2 => ?_)
              refine lv_istore_n (lv' := [(2, .int x2), (0, .ref t), (1, .int (nI lx)), (3, .int sm)]) hx hb d_Mo_exceptionOf_108 rfl hl (by decide) rfl (fun ls hl => ?_)
              refine lv_goto (tgt := 4) hx hb d_Mo_exceptionOf_109 (by decide) ?_
              exact ih i x2 1 1 _ (by omega) hi (by omega) (by rw [ex2]; exact Int32.add_zero _) hinv (Or.inr ⟨⟨rfl, rfl⟩, q, hqi, bl_t hsm h99⟩) (by rw [hs1] at hl; exact (lv_sub hl [1, 2, 0, 3] rfl))

set_option maxHeartbeats 4000000 in
set_option maxRecDepth 100000 in
/-- exceptionOf(lx) -/
theorem c_Mo_exceptionOf (l : Launch) (G : ev_G) (w : wd_M) (sz : Nat) (t : Nat) (C : Nat → Nat) (M : Nat → Nat → Int32) (ln mk pn tn qn : Int32) (lx : Nat) (lt : List Int32) (Ts : List hy_T) (hc : mo_c G w t C M ln mk pn tn (nI Ts.length) (nI lt.length) qn) (hq0 : mo_t Ts M) (hrt : li_ lt (fun j => M 16 (j + 1))) (hlt30 : lt.length ≤ 30) (wT : Ts.length ≤ 40) (wts : ∀ t ∈ Ts, t.1 < 4 ∧ t.2.1.length ≤ 30) (hlx : lx < 4) : ct_i l y_Mo_exceptionOf b_Mo_exceptionOf 5 (some FieldType.int) (rm_ 0 0 0) G w sz [.ref t, .int (nI lx)] (fun v u => ∃ k : Nat, v = nI k ∧ k ≤ Ts.length ∧ (∀ (j : Nat) (q : hy_T), j < k → Ts[j]? = some q → ¬ hy_tm lx lt q) ∧ (k < Ts.length → ∃ q, Ts[k]? = some q ∧ hy_tm lx lt q) ∧ u = w) := by
  refine ct_enter (by decide +kernel) (Nat.le_of_ble_eq_true rfl) ?_
  intro p_ e_ s m below meth c_ hsz S hr hlocks hname hE hW ls hl
  have S : CallFix p_ m c_ b_Mo_exceptionOf 5 s _ lw_good "HyphenRowsModel" := S
  have hx := S.1
  have hb := S.2.1
  have hK := hE.1
  have hl : lv_has ls 5 [(0, .ref t), (1, .int (nI lx))] := hl
  refine lv_iconst (v := 0) hx hb d_Mo_exceptionOf_0 (by decide) ?_
  refine lv_istore_n (lv' := [(2, .int 0), (0, .ref t), (1, .int (nI lx))]) hx hb d_Mo_exceptionOf_1 rfl hl (by decide) rfl (fun ls hl => ?_)
  refine lv_iconst (v := 0) hx hb d_Mo_exceptionOf_2 (by decide) ?_
  refine lv_istore_n (lv' := [(3, .int 0), (2, .int 0), (0, .ref t), (1, .int (nI lx))]) hx hb d_Mo_exceptionOf_3 rfl hl (by decide) rfl (fun ls hl => ?_)
  refine lo_Mo_exceptionOf S hE hW hc hq0 hrt hlt30 wT wts hlx (fun k hk hno hyes xi exi ls hl => ?_) (Ts.length + 2) 0 0 0 0 _ (by omega) (Nat.zero_le _) (by omega) nI_0.symm (fun j q hj => absurd hj (Nat.not_lt_zero j)) (Or.inl ⟨rfl, rfl⟩) (lv_sub hl [2, 3, 1, 0] rfl)
  refine lv_iload_n hx hb d_Mo_exceptionOf_112 rfl (lv_at hl 1 rfl) ?_
  exact ct_iret S hr rfl hlocks hW (⟨k, exi, hk, hno, hyes, rfl⟩) (Nat.le_refl _) (Nat.le_refl _) d_Mo_exceptionOf_113
