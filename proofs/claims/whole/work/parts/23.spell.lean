/-! THE CLASS: spelling the word; the digits of the row. -/

set_option maxHeartbeats 4000000 in
set_option maxRecDepth 100000 in
/-- staysWhole(language) -/
theorem c_HR_staysWhole (l : Launch) (G : ev_G) (w : wd_M) (sz : Nat) (r : Nat) (B : Nat → Nat) (F : Nat → Nat → Int32) (tot mn pn : Int32) (a b z : Nat) (lg : hy_L) (wd : List Int32) (hc : hr_c G w r B F tot mn (nI wd.length) pn)(hla : la_1 G w a b z lg)(hwd : li_ wd (F 5)) (hwl : wd.length ≤ 30) (hws : ∀ x ∈ wd, ∃ s : Nat, s < 256 ∧ x = nI s) : ct_i l y_HR_staysWhole b_HR_staysWhole 2 (some FieldType.boolean) (rm_ 0 0 0) G w sz [.ref r, .ref a] (fun v u => bl_ v (hy_wh lg wd) ∧ u = w) := by
  refine ct_enter (by decide +kernel) (Nat.le_of_ble_eq_true rfl) ?_
  intro p_ e_ s m below meth c_ hsz S hr hlocks hname hE hW ls hl
  have S : CallFix p_ m c_ b_HR_staysWhole 2 s _ lw_good "HyphenRows" := S
  have hx := S.1
  have hb := S.2.1
  have hK := hE.1
  have hl : lv_has ls 2 [(0, .ref r), (1, .ref a)] := hl
  obtain ⟨hr0, a3, a4, a5, a6, a7, a8⟩ := id hc
  obtain ⟨q1, q2, q3⟩ := id hla
  refine lv_aload_n hx hb d_HR_staysWhole_0 rfl (lv_at hl 0 rfl) ?_
  refine wd_get S i_HR hK hW hr0 rfl 8 (by decide) k_HR_39 rfl rfl d_HR_staysWhole_1 ?_
  refine lv_if_le (tgt := 32) hx hb d_HR_staysWhole_4 (by decide) (fun h4 => ?_) (fun h4 => ?_)
  · refine lv_iconst (v := 0) hx hb d_HR_staysWhole_32 (by decide) ?_
    exact ct_iret S hr rfl hlocks hW (⟨Or.inr ⟨rfl, fun q => by obtain ⟨-, s9, e9, -⟩ := q; have h9 := (List.getElem?_eq_some_iff.mp e9).1; have h8 := (nI_leI (a := wd.length) (b := 0) (by omega) (by omega)).mp h4; omega⟩, rfl⟩) (Nat.le_refl _) (Nat.le_refl _) d_HR_staysWhole_33
  · have hpos : 0 < wd.length := Nat.pos_of_ne_zero (fun q => h4 (by rw [q]; exact Int32.le_refl _))
    obtain ⟨s0, hs0⟩ : ∃ s0, wd[0]? = some s0 := ⟨_, List.getElem?_eq_getElem hpos⟩
    obtain ⟨sn, hsn, es0⟩ := hws s0 (List.mem_of_getElem? hs0)
    refine lv_aload_n hx hb d_HR_staysWhole_7 rfl (lv_at hl 1 rfl) ?_
    refine wd_get S i_La hK hW q1 rfl 4 (by decide) k_HR_95 rfl rfl d_HR_staysWhole_8 ?_
    refine lv_if_eq (tgt := 32) hx hb d_HR_staysWhole_11 (by decide) (fun h11 => ?_) (fun h11 => ?_)
    · refine lv_iconst (v := 0) hx hb d_HR_staysWhole_32 (by decide) ?_
      exact ct_iret S hr rfl hlocks hW (⟨Or.inr ⟨rfl, fun q => q.1 h11⟩, rfl⟩) (Nat.le_refl _) (Nat.le_refl _) d_HR_staysWhole_33
    · refine lv_aload_n hx hb d_HR_staysWhole_14 rfl (lv_at hl 1 rfl) ?_
      refine wd_get S i_La hK hW q1 rfl 1 (by decide) k_HR_82 rfl rfl d_HR_staysWhole_15 ?_
      refine lv_aload_n hx hb d_HR_staysWhole_18 rfl (lv_at hl 0 rfl) ?_
      refine wd_get S i_HR hK hW hr0 rfl 7 (by decide) k_HR_36 rfl rfl d_HR_staysWhole_19 ?_
      refine lv_iconst (v := 0) hx hb d_HR_staysWhole_22 (by decide) ?_
      refine wd_iald S hK hW 0 a5 rfl (vp_in_nI (n := 0) (by omega) (by omega)) d_HR_staysWhole_23 ?_
      rw [show F 5 ((0 : Int32)).toNatClampNeg = nI sn from (hwd 0 s0 hs0).trans es0]
      refine wd_zald S hK hW 1 q3 rfl (vp_in_nI hsn (by omega)) d_HR_staysWhole_24 ?_
      refine lv_if_eq (tgt := 32) hx hb d_HR_staysWhole_25 (by decide) (fun h25 => ?_) (fun h25 => ?_)
      · refine lv_iconst (v := 0) hx hb d_HR_staysWhole_32 (by decide) ?_
        exact ct_iret S hr rfl hlocks hW (⟨Or.inr ⟨rfl, fun q => by obtain ⟨-, s9, e9, n9⟩ := q; rw [hs0] at e9; cases e9; exact n9 (by rw [es0]; exact h25)⟩, rfl⟩) (Nat.le_refl _) (Nat.le_refl _) d_HR_staysWhole_33
      · refine lv_iconst (v := 1) hx hb d_HR_staysWhole_28 (by decide) ?_
        refine lv_goto (tgt := 33) hx hb d_HR_staysWhole_29 (by decide) ?_
        exact ct_iret S hr rfl hlocks hW (⟨Or.inl ⟨rfl, h11, s0, hs0, by rw [es0]; exact h25⟩, rfl⟩) (Nat.le_refl _) (Nat.le_refl _) d_HR_staysWhole_33

def sp_v (lg : hy_L) (wd : List Int32) (g : Nat → Int32) (n : Nat) : Prop := ∀ (j : Nat) (x : Int32), j < n → wd[j]? = some x → g (j + 1) = lg.1 x.toNatClampNeg ∧ ¬ lg.1 x.toNatClampNeg = 0
theorem sp_inv {lg : hy_L} {wd : List Int32} {g : Nat → Int32} {i : Nat} {s x : Int32} (h : sp_v lg wd g i) (hs : wd[i]? = some s) (hx : x = lg.1 s.toNatClampNeg) (h0 : ¬ x = 0) : sp_v lg wd (upd g (i + 1) x) (i + 1) := by
  intro j y hj hy
  by_cases hji : j = i
  · subst hji
    rw [hs] at hy
    cases hy
    rw [pk_us, hx]
    exact ⟨rfl, by rw [← hx]; exact h0⟩
  · rw [pk_un (by omega)]
    exact h j y (by omega) hy
/-- the row, once it is spelled -/
theorem sp_row {lg : hy_L} {wd : List Int32} {g : Nat → Int32} (h : sp_v lg wd g wd.length) (h0 : g 0 = 0) : hy_sp lg wd ∧ li_ (hy_row (hy_let lg wd)) (upd g (wd.length + 1) 0) := by
  have hl : (hy_let lg wd).length = wd.length := List.length_map _
  refine ⟨fun x hx => ?_, fun i x hx => ?_⟩
  · obtain ⟨s, hs, rfl⟩ := List.mem_map.mp hx
    obtain ⟨j, hj⟩ := List.getElem?_of_mem hs
    exact (h j s (List.getElem?_eq_some_iff.mp hj).1 hj).2
  · cases i with
    | zero =>
      cases hx
      rw [pk_un (by omega)]
      exact h0
    | succ i =>
      have hx : (hy_let lg wd ++ [0])[i]? = some x := hx
      by_cases hi : i < wd.length
      · rw [List.getElem?_append_left (by omega)] at hx
        unfold hy_let at hx
        rw [List.getElem?_map] at hx
        obtain ⟨s, hs, rfl⟩ := Option.map_eq_some_iff.mp hx
        rw [pk_un (by omega)]
        exact (h i s hi hs).1
      · rw [List.getElem?_append_right (by omega)] at hx
        have h1 : i - (hy_let lg wd).length < 1 := (List.getElem?_eq_some_iff.mp hx).1
        have h2 : i = wd.length := by omega
        subst h2
        rw [hl, Nat.sub_self] at hx
        cases hx
        exact pk_us

set_option maxHeartbeats 4000000 in
set_option maxRecDepth 100000 in
/-- the loop of spellWord -/
theorem lo_HR_spellWord {p_ : Program} {l : Launch} {e_ : Env} {s : State} {m : MethodId} {args : Array Value} {below : List Frame} {meth : Method} {c_ : Code} {Q : State → Prop} {G : ev_G} {A : Nat → Prop} (S : CallFix p_ m c_ b_HR_spellWord 4 s args lw_good "HyphenRows") (hE : ev_K G A s s.heap) {w : wd_M} {r a b z : Nat} {B : Nat → Nat} {F : Nat → Nat → Int32} {tot mn pn : Int32} {lg : hy_L} {wd : List Int32} (hc : hr_c G w r B F tot mn (nI wd.length) pn)(hla : la_1 G w a b z lg)(hwd : li_ wd (F 5)) (hwl : wd.length ≤ 30) (hws : ∀ x ∈ wd, ∃ s : Nat, s < 256 ∧ x = nI s) (kk : ∀ (g : Nat → Int32) (w1 : wd_M) (H : Heap) (locs : List Loc), sp_v lg wd g wd.length → g 0 = 0 → w1 = va_up w (B 6) (some (.inl (G.2.1 0, 32, .inl g))) → wd_W G.1 ev_cl A w1 s.heap H locs → ∀ ls : Array Slot, lv_has ls 4 [(0, .ref r), (1, .ref a)] → W p_ l e_ (rm_ 0 0 0) s m args below meth c_ H locs 0 0 Q (F0 m 50 ls [])) (kf : ∀ (i : Nat) (s0 : Int32), wd[i]? = some s0 → lg.1 s0.toNatClampNeg = 0 → ∀ (g : Nat → Int32) (w1 : wd_M) (H : Heap) (locs : List Loc), w1 = va_up w (B 6) (some (.inl (G.2.1 0, 32, .inl g))) → wd_W G.1 ev_cl A w1 s.heap H locs → ∀ ls : Array Slot, lv_has ls 4 [(0, .ref r), (1, .ref a)] → W p_ l e_ (rm_ 0 0 0) s m args below meth c_ H locs 0 0 Q (F0 m 33 ls [])) :
    ∀ (fu : Nat) (i : Nat) (xi : Int32) (g : Nat → Int32) (w1 : wd_M) (H : Heap) (locs : List Loc) (ls : Array Slot), wd.length < i + fu → i ≤ wd.length → xi = nI i → sp_v lg wd g i → g 0 = 0 → w1 = va_up w (B 6) (some (.inl (G.2.1 0, 32, .inl g))) → wd_W G.1 ev_cl A w1 s.heap H locs → lv_has ls 4 [(0, .ref r), (1, .ref a), (2, .int xi)] → W p_ l e_ (rm_ 0 0 0) s m args below meth c_ H locs 0 0 Q (F0 m 9 ls []) := by
  have hx := S.1
  have hb := S.2.1
  have hK := hE.1
  intro fu
  induction fu with
  | zero =>
    intro i xi g w1 H locs ls hfu hi exi hinv g0 ew hW hl
    exact absurd hfu (by omega)
  | succ fu ih =>
    intro i xi g w1 H locs ls hfu hi exi hinv g0 ew hW hl
    obtain ⟨hr0, a3, a4, a5, a6, a7, a8⟩ := id hc
    obtain ⟨q1, q2, q3⟩ := id hla
    have a0 := a6
    have hr0 := wd_keep ew (wd_ne hr0 a0 (by simp)) hr0
    have a5 := wd_keep ew (wd_ne a5 a0 (by simp)) a5
    have q1 := wd_keep ew (wd_ne q1 a0 (by simp)) q1
    have q2 := wd_keep ew (wd_ne q2 a0 (by simp)) q2
    have a6 := wd_here ew
    refine lv_iload_n hx hb d_HR_spellWord_9 rfl (lv_at hl 2 rfl) ?_
    refine lv_aload_n hx hb d_HR_spellWord_10 rfl (lv_at hl 0 rfl) ?_
    refine wd_get S i_HR hK hW hr0 rfl 8 (by decide) k_HR_39 rfl rfl d_HR_spellWord_11 ?_
    refine lv_icmp_ge (tgt := 50) hx hb d_HR_spellWord_14 (by decide) (fun h14 => ?_) (fun h14 => ?_)
    · exact kk g w1 H locs (by rw [exi] at h14; have := (nI_leI (by omega) (by omega)).mp h14; rw [show i = wd.length by omega] at hinv; exact hinv) g0 ew hW ls (lv_sub hl [0, 1] rfl)
    · have hlt : i < wd.length := by rw [exi] at h14; exact Nat.lt_of_not_le (fun q => h14 (nI_le q (by omega)))
      obtain ⟨s0, hs0⟩ : ∃ s0, wd[i]? = some s0 := ⟨_, List.getElem?_eq_getElem hlt⟩
      obtain ⟨sn, hsn, es0⟩ := hws s0 (List.mem_of_getElem? hs0)
      have hcl : xi.toNatClampNeg = i := by rw [exi]; exact nI_clamp (by omega)
      have hin : vp_in xi 30 := by rw [exi]; exact vp_in_nI (by omega) (by omega)
      refine lv_aload_n hx hb d_HR_spellWord_17 rfl (lv_at hl 1 rfl) ?_
      refine wd_get S i_La hK hW q1 rfl 0 (by decide) k_HR_79 rfl rfl d_HR_spellWord_18 ?_
      refine lv_aload_n hx hb d_HR_spellWord_21 rfl (lv_at hl 0 rfl) ?_
      refine wd_get S i_HR hK hW hr0 rfl 7 (by decide) k_HR_36 rfl rfl d_HR_spellWord_22 ?_
      refine lv_iload_n hx hb d_HR_spellWord_25 rfl (lv_at hl 2 rfl) ?_
      refine wd_iald S hK hW 0 a5 rfl hin d_HR_spellWord_26 ?_
      rw [hcl, show F 5 i = nI sn from (hwd i s0 hs0).trans es0]
      refine wd_iald S hK hW 0 q2 rfl (vp_in_nI hsn (by omega)) d_HR_spellWord_27 ?_
      refine lv_topi (fun x3 ex3 => ?_)
      rw [nI_clamp (by omega)] at ex3
      refine lv_istore_n (lv' := [(3, .int x3), (0, .ref r), (1, .ref a), (2, .int xi)]) hx hb d_HR_spellWord_28 rfl hl (by decide) rfl (fun ls hl => ?_)
      refine lv_iload_n hx hb d_HR_spellWord_29 rfl (lv_at hl 0 rfl) ?_
      refine lv_if_ne (tgt := 35) hx hb d_HR_spellWord_30 (by decide) (fun h30 => ?_) (fun h30 => ?_)
      · refine lv_aload_n hx hb d_HR_spellWord_35 rfl (lv_at hl 1 rfl) ?_
        refine wd_get S i_HR hK hW hr0 rfl 9 (by decide) k_HR_42 rfl rfl d_HR_spellWord_36 ?_
        refine lv_iload_n hx hb d_HR_spellWord_39 rfl (lv_at hl 3 rfl) ?_
        refine lv_iconst (v := 1) hx hb d_HR_spellWord_40 (by decide) ?_
        refine lv_iadd hx hb d_HR_spellWord_41 ?_
        refine lv_iload_n hx hb d_HR_spellWord_42 rfl (lv_at hl 0 rfl) ?_
        rw [show xi + 1 = nI (i + 1) from by rw [exi]; exact nI_1 i]
        refine wd_iast S hK hW 0 a6 rfl (vp_in_nI (by omega) (by omega)) d_HR_spellWord_43 (fun H locs w_1 ew_1 hW => ?_)
        have hr0 := wd_keep ew_1 (wd_ne hr0 a6 (by simp)) hr0
        have a5 := wd_keep ew_1 (wd_ne a5 a6 (by simp)) a5
        have q1 := wd_keep ew_1 (wd_ne q1 a6 (by simp)) q1
        have q2 := wd_keep ew_1 (wd_ne q2 a6 (by simp)) q2
        have a6 : w_1 (B 6) = some (.inl (G.2.1 0, 32, .inl (upd g ((nI (i + 1)) : Int32).toNatClampNeg x3))) := wd_here ew_1
        obtain ⟨xi2, exi2⟩ : ∃ y : Int32, y = xi + 1 := ⟨_, rfl⟩
        refine lv_iinc (v := xi2) (lv' := [(2, .int xi2), (3, .int x3), (0, .ref r), (1, .ref a)]) hx hb d_HR_spellWord_44 hl (k := 3) rfl (by rw [exi2]; rfl) (by decide) rfl (fun ls hl => ?_)
        refine lv_goto (tgt := 9) hx hb d_HR_spellWord_47 (by decide) ?_
        exact ih (i + 1) xi2 (upd g (nI (i + 1)).toNatClampNeg x3) _ _ _ _ (by omega) hlt (by rw [exi2, exi]; exact nI_1 i) (by rw [nI_clamp (by omega)]; exact sp_inv hinv hs0 (by rw [ex3, es0, nI_clamp (by omega)]) h30) (by rw [nI_clamp (by omega), pk_un (by omega)]; exact g0) (by rw [ew_1, ew]; exact bx_uu _ _ _ _) hW (lv_sub hl [2, 3, 0] rfl)
      · exact kf i s0 hs0 (by rw [es0, nI_clamp (by omega), ← ex3]; exact h30) g w1 H locs ew hW ls (lv_sub hl [1, 2] rfl)

set_option maxHeartbeats 4000000 in
set_option maxRecDepth 100000 in
/-- spellWord(language): the row holds the letters, if every sign has one -/
theorem c_HR_spellWord (l : Launch) (G : ev_G) (w : wd_M) (sz : Nat) (r : Nat) (B : Nat → Nat) (F : Nat → Nat → Int32) (tot mn pn : Int32) (a b z : Nat) (lg : hy_L) (wd : List Int32) (hc : hr_c G w r B F tot mn (nI wd.length) pn)(hla : la_1 G w a b z lg)(hwd : li_ wd (F 5)) (hwl : wd.length ≤ 30) (hws : ∀ x ∈ wd, ∃ s : Nat, s < 256 ∧ x = nI s) : ct_i l y_HR_spellWord b_HR_spellWord 4 (some FieldType.boolean) (rm_ 0 0 0) G w sz [.ref r, .ref a] (fun v u => bl_ v (hy_sp lg wd) ∧ ∃ g : Nat → Int32, u = va_up w (B 6) (some (.inl (G.2.1 0, 32, .inl g))) ∧ (hy_sp lg wd → li_ (hy_row (hy_let lg wd)) g)) := by
  refine ct_enter (by decide +kernel) (Nat.le_of_ble_eq_true rfl) ?_
  intro p_ e_ s m below meth c_ hsz S hr hlocks hname hE hW ls hl
  have S : CallFix p_ m c_ b_HR_spellWord 4 s _ lw_good "HyphenRows" := S
  have hx := S.1
  have hb := S.2.1
  have hK := hE.1
  have hl : lv_has ls 4 [(0, .ref r), (1, .ref a)] := hl
  obtain ⟨hr0, a3, a4, a5, a6, a7, a8⟩ := id hc
  obtain ⟨q1, q2, q3⟩ := id hla
  refine lv_aload_n hx hb d_HR_spellWord_0 rfl (lv_at hl 0 rfl) ?_
  refine wd_get S i_HR hK hW hr0 rfl 9 (by decide) k_HR_42 rfl rfl d_HR_spellWord_1 ?_
  refine lv_iconst (v := 0) hx hb d_HR_spellWord_4 (by decide) ?_
  refine lv_iconst (v := 0) hx hb d_HR_spellWord_5 (by decide) ?_
  refine wd_iast S hK hW 0 a6 rfl (vp_in_nI (n := 0) (by omega) (by omega)) d_HR_spellWord_6 (fun H locs w_1 ew_1 hW => ?_)
  have hr0 := wd_keep ew_1 (wd_ne hr0 a6 (by simp)) hr0
  have a6 : w_1 (B 6) = some (.inl (G.2.1 0, 32, .inl (upd (F 6) (0 : Int32).toNatClampNeg 0))) := wd_here ew_1
  refine lv_iconst (v := 0) hx hb d_HR_spellWord_7 (by decide) ?_
  refine lv_istore_n (lv' := [(2, .int 0), (0, .ref r), (1, .ref a)]) hx hb d_HR_spellWord_8 rfl hl (by decide) rfl (fun ls hl => ?_)
  refine lo_HR_spellWord S hE hc hla hwd hwl hws (fun g w1 H locs hinv g0 ew hW ls hl => ?_) (fun i s0 hs0 hz g w1 H locs ew hW ls hl => ?_) (wd.length + 1) 0 0 (upd (F 6) (Int32.toNatClampNeg 0) 0) _ _ _ _ (by omega) (Nat.zero_le _) nI_0.symm (fun j x hj => absurd hj (Nat.not_lt_zero j)) pk_us ew_1 hW (lv_sub hl [1, 2, 0] rfl)
  · obtain ⟨hr0, a3, a4, a5, a6, a7, a8⟩ := id hc
    have hr0 := wd_keep ew (wd_ne hr0 a6 (by simp)) hr0
    have a6 := wd_here ew
    refine lv_aload_n hx hb d_HR_spellWord_50 rfl (lv_at hl 0 rfl) ?_
    refine wd_get S i_HR hK hW hr0 rfl 9 (by decide) k_HR_42 rfl rfl d_HR_spellWord_51 ?_
    refine lv_aload_n hx hb d_HR_spellWord_54 rfl (lv_at hl 0 rfl) ?_
    refine wd_get S i_HR hK hW hr0 rfl 8 (by decide) k_HR_39 rfl rfl d_HR_spellWord_55 ?_
    refine lv_iconst (v := 1) hx hb d_HR_spellWord_58 (by decide) ?_
    refine lv_iadd hx hb d_HR_spellWord_59 ?_
    refine lv_iconst (v := 0) hx hb d_HR_spellWord_60 (by decide) ?_
    rw [nI_1]
    refine wd_iast S hK hW 0 a6 rfl (vp_in_nI (by omega) (by omega)) d_HR_spellWord_61 (fun H locs w_2 ew_2 hW => ?_)
    have hr0 := wd_keep ew_2 (wd_ne hr0 a6 (by simp)) hr0
    have a6 : w_2 (B 6) = some (.inl (G.2.1 0, 32, .inl (upd g ((nI (wd.length + 1)) : Int32).toNatClampNeg 0))) := wd_here ew_2
    refine lv_iconst (v := 1) hx hb d_HR_spellWord_62 (by decide) ?_
    exact ct_iret S hr rfl hlocks hW (⟨Or.inl ⟨rfl, (sp_row hinv g0).1⟩, upd g (nI (wd.length + 1)).toNatClampNeg 0, by rw [ew_2, ew]; exact bx_uu _ _ _ _, fun _ => by rw [nI_clamp (by omega)]; exact (sp_row hinv g0).2⟩) (Nat.le_refl _) (Nat.le_refl _) d_HR_spellWord_63
  · refine lv_iconst (v := 0) hx hb d_HR_spellWord_33 (by decide) ?_
    exact ct_iret S hr rfl hlocks hW (⟨Or.inr ⟨rfl, fun q => q _ (List.mem_map.mpr ⟨s0, List.mem_of_getElem? hs0, rfl⟩) hz⟩, g, ew, fun q => absurd hz (q _ (List.mem_map.mpr ⟨s0, List.mem_of_getElem? hs0, rfl⟩))⟩) (Nat.le_refl _) (Nat.le_refl _) d_HR_spellWord_34
