/-! THE REFERENCE: isPattern, isSame, pattern. -/

theorem bl_ex1 {v : Int32} {i : Nat} {P : Nat → Prop} (h : bl_ v (∃ j, j < i ∧ P j)) (hv : ¬ v = 0) : bl_ 1 (∃ j, j < i + 1 ∧ P j) := by
  obtain ⟨j, hj, hp⟩ := bl_t h hv
  exact Or.inl ⟨rfl, j, by omega, hp⟩
theorem bl_ex2 {i : Nat} {P : Nat → Prop} (hp : P i) : bl_ 1 (∃ j, j < i + 1 ∧ P j) := Or.inl ⟨rfl, i, by omega, hp⟩
theorem bl_ex0 {v : Int32} {i : Nat} {P : Nat → Prop} (h : bl_ v (∃ j, j < i ∧ P j)) (hv : v = 0) (hn : ¬ P i) : bl_ 0 (∃ j, j < i + 1 ∧ P j) := by
  refine Or.inr ⟨rfl, fun q => ?_⟩
  obtain ⟨j, hj, hp⟩ := q
  by_cases hji : j = i
  · subst hji
    exact hn hp
  · exact bl_f h hv ⟨j, by omega, hp⟩
theorem bl_al1 {v : Int32} {i : Nat} {Q : Prop} {P : Nat → Prop} (h : bl_ v (Q ∧ ∀ j, j < i → P j)) (hv : ¬ v = 0) (hp : P i) : bl_ 1 (Q ∧ ∀ j, j < i + 1 → P j) := Or.inl ⟨rfl, (bl_t h hv).1, lt_s (bl_t h hv).2 hp⟩
theorem bl_al0 {i : Nat} {Q : Prop} {P : Nat → Prop} (hn : ¬ P i) : bl_ 0 (Q ∧ ∀ j, j < i + 1 → P j) := Or.inr ⟨rfl, fun q => hn (q.2 i (by omega))⟩
theorem bl_alx {v : Int32} {i n : Nat} {Q : Prop} {P : Nat → Prop} (h : bl_ v (Q ∧ ∀ j, j < i → P j)) (h0 : v = 0) (hi : i ≤ n) : bl_ v (Q ∧ ∀ j, j < n → P j) := Or.inr ⟨h0, fun q => bl_f h h0 ⟨q.1, fun j hj => q.2 j (by omega)⟩⟩
theorem bl_01 {v : Int32} {P : Prop} (h : bl_ v P) : narrow .boolean (.int v) = .int v := by rcases h with q | q <;> rw [q.1] <;> rfl

set_option maxHeartbeats 4000000 in
set_option maxRecDepth 100000 in
/-- the loop of isPattern -/
theorem lo_Mo_isPattern {p_ : Program} {l : Launch} {e_ : Env} {s : State} {m : MethodId} {args : Array Value} {below : List Frame} {meth : Method} {c_ : Code} {Q : State → Prop} {G : ev_G} {A : Nat → Prop} (S : CallFix p_ m c_ b_Mo_isPattern 4 s args lw_good "HyphenRowsModel") (hE : ev_K G A s s.heap) {w : wd_M} {H : Heap} {locs : List Loc} {t : Nat} {C : Nat → Nat} {M : Nat → Nat → Int32} {ln pn tn en sn qn : Int32} {ml : List Int32} (hW : wd_W G.1 ev_cl A w s.heap H locs) (hc : mo_c G w t C M ln (nI ml.length) pn tn en sn qn) (hml : li_ ml (M 5)) (wml : ml.length ≤ 12) (wmx : ∀ x ∈ ml, 0 ≤ x) (kk : ∀ sm mm : Int32, bl_ sm (∃ j, j < ml.length ∧ ¬ M 5 j = 0) → bl_ mm (∃ j, j < ml.length ∧ (M 5 j = 0 ∧ 0 < j ∧ j + 1 < ml.length)) → ∀ ls : Array Slot, lv_has ls 4 [(0, .ref t), (1, .int sm), (2, .int mm)] → W p_ l e_ (rm_ 0 0 0) s m args below meth c_ H locs 0 0 Q (F0 m 72 ls [])) :
    ∀ (fu : Nat) (i : Nat) (xi : Int32) (sm : Int32) (mm : Int32) (ls : Array Slot), ml.length < i + fu → i ≤ ml.length → xi = nI i → bl_ sm (∃ j, j < i ∧ ¬ M 5 j = 0) → bl_ mm (∃ j, j < i ∧ (M 5 j = 0 ∧ 0 < j ∧ j + 1 < ml.length)) → lv_has ls 4 [(0, .ref t), (1, .int sm), (2, .int mm), (3, .int xi)] → W p_ l e_ (rm_ 0 0 0) s m args below meth c_ H locs 0 0 Q (F0 m 6 ls []) := by
  have hx := S.1
  have hb := S.2.1
  have hK := hE.1
  intro fu
  induction fu with
  | zero =>
    intro i xi sm mm ls hfu hi exi hsm hmm hl
    exact absurd hfu (by omega)
  | succ fu ih =>
    intro i xi sm mm ls hfu hi exi hsm hmm hl
    obtain ⟨ht0, -, -, -, -, -, c5, -⟩ := id hc
    refine lv_iload_n hx hb d_Mo_isPattern_6 rfl (lv_at hl 3 rfl) ?_
    refine lv_aload_n hx hb d_Mo_isPattern_7 rfl (lv_at hl 0 rfl) ?_
    refine wd_get S i_Mo hK hW ht0 rfl 6 (by decide) k_Mo_77 rfl rfl d_Mo_isPattern_8 ?_
    refine lv_icmp_ge (tgt := 72) hx hb d_Mo_isPattern_11 (by decide) (fun h11 => ?_) (fun h11 => ?_)
    · have hin9 : i = ml.length := by rw [exi] at h11; have := (nI_leI (by omega) (by omega)).mp h11; omega
      subst hin9
      exact kk sm mm hsm hmm ls (lv_sub hl [0, 1, 2] rfl)
    · have hlt : i < ml.length := by rw [exi] at h11; exact Nat.lt_of_not_le (fun q => h11 (nI_le q (by omega)))
      have hin : vp_in xi 12 := by rw [exi]; exact vp_in_nI (by omega) (by omega)
      have hcl : xi.toNatClampNeg = i := by rw [exi]; exact nI_clamp (by omega)
      have hy0 : 0 ≤ M 5 i := by rw [hml i ml[i] (List.getElem?_eq_getElem hlt)]; exact wmx _ (List.getElem_mem hlt)
      refine lv_iload_n hx hb d_Mo_isPattern_14 rfl (lv_at hl 1 rfl) ?_
      refine lv_if_ne (tgt := 27) hx hb d_Mo_isPattern_15 (by decide) (fun h15 => ?_) (fun h15 => ?_)
      · refine lv_iconst (v := 1) hx hb d_Mo_isPattern_27 (by decide) ?_
        refine lv_goto (tgt := 32) hx hb d_Mo_isPattern_28 (by decide) ?_
        refine lv_istore_n (lv' := [(1, .int 1), (0, .ref t), (2, .int mm), (3, .int xi)]) hx hb d_Mo_isPattern_32 rfl hl (by decide) rfl (fun ls hl => ?_)
        refine lv_iload_n hx hb d_Mo_isPattern_33 rfl (lv_at hl 2 rfl) ?_
        refine lv_if_ne (tgt := 60) hx hb d_Mo_isPattern_34 (by decide) (fun hm => ?_) (fun hm => ?_)
        · refine lv_iconst (v := 1) hx hb d_Mo_isPattern_60 (by decide) ?_
          refine lv_goto (tgt := 65) hx hb d_Mo_isPattern_61 (by decide) ?_
          refine lv_istore_n (lv' := [(2, .int 1), (1, .int 1), (0, .ref t), (3, .int xi)]) hx hb d_Mo_isPattern_65 rfl hl (by decide) rfl (fun ls hl => ?_)
          obtain ⟨xi2, exi2⟩ : ∃ y : Int32, y = xi + 1 := ⟨_, rfl⟩
          refine lv_iinc (v := xi2) (lv' := [(3, .int xi2), (2, .int 1), (1, .int 1), (0, .ref t)]) hx hb d_Mo_isPattern_66 hl (k := 3) rfl (by rw [exi2]; rfl) (by decide) rfl (fun ls hl => ?_)
          refine lv_goto (tgt := 6) hx hb d_Mo_isPattern_69 (by decide) ?_
          exact ih (i + 1) xi2 1 1 _ (by omega) (by omega) (by rw [exi2, exi]; exact nI_1 i) (bl_ex1 hsm h15) (bl_ex1 hmm hm) (lv_sub hl [3, 2, 1, 0] rfl)
        · refine lv_aload_n hx hb d_Mo_isPattern_37 rfl (lv_at hl 1 rfl) ?_
          refine wd_get S i_Mo hK hW ht0 rfl 7 (by decide) k_Mo_26 rfl rfl d_Mo_isPattern_38 ?_
          refine lv_iload_n hx hb d_Mo_isPattern_41 rfl (lv_at hl 3 rfl) ?_
          refine wd_iald S hK hW 0 c5 rfl hin d_Mo_isPattern_42 ?_
          rw [hcl]
          refine lv_if_ne (tgt := 64) hx hb d_Mo_isPattern_43 (by decide) (fun hr5 => ?_) (fun hr5 => ?_)
          · refine lv_iconst (v := 0) hx hb d_Mo_isPattern_64 (by decide) ?_
            refine lv_istore_n (lv' := [(2, .int 0), (1, .int 1), (0, .ref t), (3, .int xi)]) hx hb d_Mo_isPattern_65 rfl hl (by decide) rfl (fun ls hl => ?_)
            obtain ⟨xi2, exi2⟩ : ∃ y : Int32, y = xi + 1 := ⟨_, rfl⟩
            refine lv_iinc (v := xi2) (lv' := [(3, .int xi2), (2, .int 0), (1, .int 1), (0, .ref t)]) hx hb d_Mo_isPattern_66 hl (k := 3) rfl (by rw [exi2]; rfl) (by decide) rfl (fun ls hl => ?_)
            refine lv_goto (tgt := 6) hx hb d_Mo_isPattern_69 (by decide) ?_
            exact ih (i + 1) xi2 1 0 _ (by omega) (by omega) (by rw [exi2, exi]; exact nI_1 i) (bl_ex1 hsm h15) (bl_ex0 hmm hm (fun q => hr5 q.1)) (lv_sub hl [3, 2, 1, 0] rfl)
          · refine lv_iload_n hx hb d_Mo_isPattern_46 rfl (lv_at hl 3 rfl) ?_
            refine lv_if_le (tgt := 64) hx hb d_Mo_isPattern_47 (by decide) (fun h47 => ?_) (fun h47 => ?_)
            · refine lv_iconst (v := 0) hx hb d_Mo_isPattern_64 (by decide) ?_
              refine lv_istore_n (lv' := [(2, .int 0), (1, .int 1), (0, .ref t), (3, .int xi)]) hx hb d_Mo_isPattern_65 rfl hl (by decide) rfl (fun ls hl => ?_)
              obtain ⟨xi2, exi2⟩ : ∃ y : Int32, y = xi + 1 := ⟨_, rfl⟩
              refine lv_iinc (v := xi2) (lv' := [(3, .int xi2), (2, .int 0), (1, .int 1), (0, .ref t)]) hx hb d_Mo_isPattern_66 hl (k := 3) rfl (by rw [exi2]; rfl) (by decide) rfl (fun ls hl => ?_)
              refine lv_goto (tgt := 6) hx hb d_Mo_isPattern_69 (by decide) ?_
              exact ih (i + 1) xi2 1 0 _ (by omega) (by omega) (by rw [exi2, exi]; exact nI_1 i) (bl_ex1 hsm h15) (bl_ex0 hmm hm (fun q => by rw [exi] at h47; have h9 := (nI_leI (a := i) (b := 0) (by omega) (by omega)).mp h47; have := q.2.1; omega)) (lv_sub hl [3, 2, 1, 0] rfl)
            · refine lv_iload_n hx hb d_Mo_isPattern_50 rfl (lv_at hl 3 rfl) ?_
              refine lv_aload_n hx hb d_Mo_isPattern_51 rfl (lv_at hl 1 rfl) ?_
              refine wd_get S i_Mo hK hW ht0 rfl 6 (by decide) k_Mo_77 rfl rfl d_Mo_isPattern_52 ?_
              refine lv_iconst (v := 1) hx hb d_Mo_isPattern_55 (by decide) ?_
              refine lv_isub hx hb d_Mo_isPattern_56 ?_
              rw [show nI ml.length - 1 = nI (ml.length - 1) from nI_pred3 (by omega)]
              refine lv_icmp_ge (tgt := 64) hx hb d_Mo_isPattern_57 (by decide) (fun h57 => ?_) (fun h57 => ?_)
              · refine lv_iconst (v := 0) hx hb d_Mo_isPattern_64 (by decide) ?_
                refine lv_istore_n (lv' := [(2, .int 0), (1, .int 1), (0, .ref t), (3, .int xi)]) hx hb d_Mo_isPattern_65 rfl hl (by decide) rfl (fun ls hl => ?_)
                obtain ⟨xi2, exi2⟩ : ∃ y : Int32, y = xi + 1 := ⟨_, rfl⟩
                refine lv_iinc (v := xi2) (lv' := [(3, .int xi2), (2, .int 0), (1, .int 1), (0, .ref t)]) hx hb d_Mo_isPattern_66 hl (k := 3) rfl (by rw [exi2]; rfl) (by decide) rfl (fun ls hl => ?_)
                refine lv_goto (tgt := 6) hx hb d_Mo_isPattern_69 (by decide) ?_
                exact ih (i + 1) xi2 1 0 _ (by omega) (by omega) (by rw [exi2, exi]; exact nI_1 i) (bl_ex1 hsm h15) (bl_ex0 hmm hm (fun q => by rw [exi] at h57; have h9 := (nI_leI (a := ml.length - 1) (b := i) (by omega) (by omega)).mp h57; have := q.2.2; omega)) (lv_sub hl [3, 2, 1, 0] rfl)
              · refine lv_iconst (v := 1) hx hb d_Mo_isPattern_60 (by decide) ?_
                refine lv_goto (tgt := 65) hx hb d_Mo_isPattern_61 (by decide) ?_
                refine lv_istore_n (lv' := [(2, .int 1), (1, .int 1), (0, .ref t), (3, .int xi)]) hx hb d_Mo_isPattern_65 rfl hl (by decide) rfl (fun ls hl => ?_)
                obtain ⟨xi2, exi2⟩ : ∃ y : Int32, y = xi + 1 := ⟨_, rfl⟩
                refine lv_iinc (v := xi2) (lv' := [(3, .int xi2), (2, .int 1), (1, .int 1), (0, .ref t)]) hx hb d_Mo_isPattern_66 hl (k := 3) rfl (by rw [exi2]; rfl) (by decide) rfl (fun ls hl => ?_)
                refine lv_goto (tgt := 6) hx hb d_Mo_isPattern_69 (by decide) ?_
                exact ih (i + 1) xi2 1 1 _ (by omega) (by omega) (by rw [exi2, exi]; exact nI_1 i) (bl_ex1 hsm h15) (bl_ex2 ⟨hr5, by rw [exi] at h47; exact Nat.pos_of_ne_zero (fun q => h47 (by rw [q]; exact Int32.le_refl _)), by rw [exi] at h57; have h9 : ¬ ml.length - 1 ≤ i := fun q => h57 (nI_le q (by omega)); omega⟩) (lv_sub hl [3, 2, 1, 0] rfl)
      · refine lv_aload_n hx hb d_Mo_isPattern_18 rfl (lv_at hl 0 rfl) ?_
        refine wd_get S i_Mo hK hW ht0 rfl 7 (by decide) k_Mo_26 rfl rfl d_Mo_isPattern_19 ?_
        refine lv_iload_n hx hb d_Mo_isPattern_22 rfl (lv_at hl 3 rfl) ?_
        refine wd_iald S hK hW 0 c5 rfl hin d_Mo_isPattern_23 ?_
        rw [hcl]
        refine lv_if_le (tgt := 31) hx hb d_Mo_isPattern_24 (by decide) (fun h24 => ?_) (fun h24 => ?_)
        · refine lv_iconst (v := 0) hx hb d_Mo_isPattern_31 (by decide) ?_
          refine lv_istore_n (lv' := [(1, .int 0), (0, .ref t), (2, .int mm), (3, .int xi)]) hx hb d_Mo_isPattern_32 rfl hl (by decide) rfl (fun ls hl => ?_)
          refine lv_iload_n hx hb d_Mo_isPattern_33 rfl (lv_at hl 2 rfl) ?_
          refine lv_if_ne (tgt := 60) hx hb d_Mo_isPattern_34 (by decide) (fun hm => ?_) (fun hm => ?_)
          · refine lv_iconst (v := 1) hx hb d_Mo_isPattern_60 (by decide) ?_
            refine lv_goto (tgt := 65) hx hb d_Mo_isPattern_61 (by decide) ?_
            refine lv_istore_n (lv' := [(2, .int 1), (1, .int 0), (0, .ref t), (3, .int xi)]) hx hb d_Mo_isPattern_65 rfl hl (by decide) rfl (fun ls hl => ?_)
            obtain ⟨xi2, exi2⟩ : ∃ y : Int32, y = xi + 1 := ⟨_, rfl⟩
            refine lv_iinc (v := xi2) (lv' := [(3, .int xi2), (2, .int 1), (1, .int 0), (0, .ref t)]) hx hb d_Mo_isPattern_66 hl (k := 3) rfl (by rw [exi2]; rfl) (by decide) rfl (fun ls hl => ?_)
            refine lv_goto (tgt := 6) hx hb d_Mo_isPattern_69 (by decide) ?_
            exact ih (i + 1) xi2 0 1 _ (by omega) (by omega) (by rw [exi2, exi]; exact nI_1 i) (bl_ex0 hsm h15 (fun q => q (Int32.le_antisymm h24 hy0))) (bl_ex1 hmm hm) (lv_sub hl [3, 2, 1, 0] rfl)
          · refine lv_aload_n hx hb d_Mo_isPattern_37 rfl (lv_at hl 1 rfl) ?_
            refine wd_get S i_Mo hK hW ht0 rfl 7 (by decide) k_Mo_26 rfl rfl d_Mo_isPattern_38 ?_
            refine lv_iload_n hx hb d_Mo_isPattern_41 rfl (lv_at hl 3 rfl) ?_
            refine wd_iald S hK hW 0 c5 rfl hin d_Mo_isPattern_42 ?_
            rw [hcl]
            refine lv_if_ne (tgt := 64) hx hb d_Mo_isPattern_43 (by decide) (fun hr5 => ?_) (fun hr5 => ?_)
            · refine lv_iconst (v := 0) hx hb d_Mo_isPattern_64 (by decide) ?_
              refine lv_istore_n (lv' := [(2, .int 0), (1, .int 0), (0, .ref t), (3, .int xi)]) hx hb d_Mo_isPattern_65 rfl hl (by decide) rfl (fun ls hl => ?_)
              obtain ⟨xi2, exi2⟩ : ∃ y : Int32, y = xi + 1 := ⟨_, rfl⟩
              refine lv_iinc (v := xi2) (lv' := [(3, .int xi2), (2, .int 0), (1, .int 0), (0, .ref t)]) hx hb d_Mo_isPattern_66 hl (k := 3) rfl (by rw [exi2]; rfl) (by decide) rfl (fun ls hl => ?_)
              refine lv_goto (tgt := 6) hx hb d_Mo_isPattern_69 (by decide) ?_
              exact ih (i + 1) xi2 0 0 _ (by omega) (by omega) (by rw [exi2, exi]; exact nI_1 i) (bl_ex0 hsm h15 (fun q => q (Int32.le_antisymm h24 hy0))) (bl_ex0 hmm hm (fun q => hr5 q.1)) (lv_sub hl [3, 2, 1, 0] rfl)
            · refine lv_iload_n hx hb d_Mo_isPattern_46 rfl (lv_at hl 3 rfl) ?_
              refine lv_if_le (tgt := 64) hx hb d_Mo_isPattern_47 (by decide) (fun h47 => ?_) (fun h47 => ?_)
              · refine lv_iconst (v := 0) hx hb d_Mo_isPattern_64 (by decide) ?_
                refine lv_istore_n (lv' := [(2, .int 0), (1, .int 0), (0, .ref t), (3, .int xi)]) hx hb d_Mo_isPattern_65 rfl hl (by decide) rfl (fun ls hl => ?_)
                obtain ⟨xi2, exi2⟩ : ∃ y : Int32, y = xi + 1 := ⟨_, rfl⟩
                refine lv_iinc (v := xi2) (lv' := [(3, .int xi2), (2, .int 0), (1, .int 0), (0, .ref t)]) hx hb d_Mo_isPattern_66 hl (k := 3) rfl (by rw [exi2]; rfl) (by decide) rfl (fun ls hl => ?_)
                refine lv_goto (tgt := 6) hx hb d_Mo_isPattern_69 (by decide) ?_
                exact ih (i + 1) xi2 0 0 _ (by omega) (by omega) (by rw [exi2, exi]; exact nI_1 i) (bl_ex0 hsm h15 (fun q => q (Int32.le_antisymm h24 hy0))) (bl_ex0 hmm hm (fun q => by rw [exi] at h47; have h9 := (nI_leI (a := i) (b := 0) (by omega) (by omega)).mp h47; have := q.2.1; omega)) (lv_sub hl [3, 2, 1, 0] rfl)
              · refine lv_iload_n hx hb d_Mo_isPattern_50 rfl (lv_at hl 3 rfl) ?_
                refine lv_aload_n hx hb d_Mo_isPattern_51 rfl (lv_at hl 1 rfl) ?_
                refine wd_get S i_Mo hK hW ht0 rfl 6 (by decide) k_Mo_77 rfl rfl d_Mo_isPattern_52 ?_
                refine lv_iconst (v := 1) hx hb d_Mo_isPattern_55 (by decide) ?_
                refine lv_isub hx hb d_Mo_isPattern_56 ?_
                rw [show nI ml.length - 1 = nI (ml.length - 1) from nI_pred3 (by omega)]
                refine lv_icmp_ge (tgt := 64) hx hb d_Mo_isPattern_57 (by decide) (fun h57 => ?_) (fun h57 => ?_)
                · refine lv_iconst (v := 0) hx hb d_Mo_isPattern_64 (by decide) ?_
                  refine lv_istore_n (lv' := [(2, .int 0), (1, .int 0), (0, .ref t), (3, .int xi)]) hx hb d_Mo_isPattern_65 rfl hl (by decide) rfl (fun ls hl => ?_)
                  obtain ⟨xi2, exi2⟩ : ∃ y : Int32, y = xi + 1 := ⟨_, rfl⟩
                  refine lv_iinc (v := xi2) (lv' := [(3, .int xi2), (2, .int 0), (1, .int 0), (0, .ref t)]) hx hb d_Mo_isPattern_66 hl (k := 3) rfl (by rw [exi2]; rfl) (by decide) rfl (fun ls hl => ?_)
                  refine lv_goto (tgt := 6) hx hb d_Mo_isPattern_69 (by decide) ?_
                  exact ih (i + 1) xi2 0 0 _ (by omega) (by omega) (by rw [exi2, exi]; exact nI_1 i) (bl_ex0 hsm h15 (fun q => q (Int32.le_antisymm h24 hy0))) (bl_ex0 hmm hm (fun q => by rw [exi] at h57; have h9 := (nI_leI (a := ml.length - 1) (b := i) (by omega) (by omega)).mp h57; have := q.2.2; omega)) (lv_sub hl [3, 2, 1, 0] rfl)
                · refine lv_iconst (v := 1) hx hb d_Mo_isPattern_60 (by decide) ?_
                  refine lv_goto (tgt := 65) hx hb d_Mo_isPattern_61 (by decide) ?_
                  refine lv_istore_n (lv' := [(2, .int 1), (1, .int 0), (0, .ref t), (3, .int xi)]) hx hb d_Mo_isPattern_65 rfl hl (by decide) rfl (fun ls hl => ?_)
                  obtain ⟨xi2, exi2⟩ : ∃ y : Int32, y = xi + 1 := ⟨_, rfl⟩
                  refine lv_iinc (v := xi2) (lv' := [(3, .int xi2), (2, .int 1), (1, .int 0), (0, .ref t)]) hx hb d_Mo_isPattern_66 hl (k := 3) rfl (by rw [exi2]; rfl) (by decide) rfl (fun ls hl => ?_)
                  refine lv_goto (tgt := 6) hx hb d_Mo_isPattern_69 (by decide) ?_
                  exact ih (i + 1) xi2 0 1 _ (by omega) (by omega) (by rw [exi2, exi]; exact nI_1 i) (bl_ex0 hsm h15 (fun q => q (Int32.le_antisymm h24 hy0))) (bl_ex2 ⟨hr5, by rw [exi] at h47; exact Nat.pos_of_ne_zero (fun q => h47 (by rw [q]; exact Int32.le_refl _)), by rw [exi] at h57; have h9 : ¬ ml.length - 1 ≤ i := fun q => h57 (nI_le q (by omega)); omega⟩) (lv_sub hl [3, 2, 1, 0] rfl)
        · refine lv_iconst (v := 1) hx hb d_Mo_isPattern_27 (by decide) ?_
          refine lv_goto (tgt := 32) hx hb d_Mo_isPattern_28 (by decide) ?_
          refine lv_istore_n (lv' := [(1, .int 1), (0, .ref t), (2, .int mm), (3, .int xi)]) hx hb d_Mo_isPattern_32 rfl hl (by decide) rfl (fun ls hl => ?_)
          refine lv_iload_n hx hb d_Mo_isPattern_33 rfl (lv_at hl 2 rfl) ?_
          refine lv_if_ne (tgt := 60) hx hb d_Mo_isPattern_34 (by decide) (fun hm => ?_) (fun hm => ?_)
          · refine lv_iconst (v := 1) hx hb d_Mo_isPattern_60 (by decide) ?_
            refine lv_goto (tgt := 65) hx hb d_Mo_isPattern_61 (by decide) ?_
            refine lv_istore_n (lv' := [(2, .int 1), (1, .int 1), (0, .ref t), (3, .int xi)]) hx hb d_Mo_isPattern_65 rfl hl (by decide) rfl (fun ls hl => ?_)
            obtain ⟨xi2, exi2⟩ : ∃ y : Int32, y = xi + 1 := ⟨_, rfl⟩
            refine lv_iinc (v := xi2) (lv' := [(3, .int xi2), (2, .int 1), (1, .int 1), (0, .ref t)]) hx hb d_Mo_isPattern_66 hl (k := 3) rfl (by rw [exi2]; rfl) (by decide) rfl (fun ls hl => ?_)
            refine lv_goto (tgt := 6) hx hb d_Mo_isPattern_69 (by decide) ?_
            exact ih (i + 1) xi2 1 1 _ (by omega) (by omega) (by rw [exi2, exi]; exact nI_1 i) (bl_ex2 (fun q => h24 (by rw [q]; exact Int32.le_refl _))) (bl_ex1 hmm hm) (lv_sub hl [3, 2, 1, 0] rfl)
          · refine lv_aload_n hx hb d_Mo_isPattern_37 rfl (lv_at hl 1 rfl) ?_
            refine wd_get S i_Mo hK hW ht0 rfl 7 (by decide) k_Mo_26 rfl rfl d_Mo_isPattern_38 ?_
            refine lv_iload_n hx hb d_Mo_isPattern_41 rfl (lv_at hl 3 rfl) ?_
            refine wd_iald S hK hW 0 c5 rfl hin d_Mo_isPattern_42 ?_
            rw [hcl]
            refine lv_if_ne (tgt := 64) hx hb d_Mo_isPattern_43 (by decide) (fun hr5 => ?_) (fun hr5 => ?_)
            · refine lv_iconst (v := 0) hx hb d_Mo_isPattern_64 (by decide) ?_
              refine lv_istore_n (lv' := [(2, .int 0), (1, .int 1), (0, .ref t), (3, .int xi)]) hx hb d_Mo_isPattern_65 rfl hl (by decide) rfl (fun ls hl => ?_)
              obtain ⟨xi2, exi2⟩ : ∃ y : Int32, y = xi + 1 := ⟨_, rfl⟩
              refine lv_iinc (v := xi2) (lv' := [(3, .int xi2), (2, .int 0), (1, .int 1), (0, .ref t)]) hx hb d_Mo_isPattern_66 hl (k := 3) rfl (by rw [exi2]; rfl) (by decide) rfl (fun ls hl => ?_)
              refine lv_goto (tgt := 6) hx hb d_Mo_isPattern_69 (by decide) ?_
              exact ih (i + 1) xi2 1 0 _ (by omega) (by omega) (by rw [exi2, exi]; exact nI_1 i) (bl_ex2 (fun q => h24 (by rw [q]; exact Int32.le_refl _))) (bl_ex0 hmm hm (fun q => hr5 q.1)) (lv_sub hl [3, 2, 1, 0] rfl)
            · refine lv_iload_n hx hb d_Mo_isPattern_46 rfl (lv_at hl 3 rfl) ?_
              refine lv_if_le (tgt := 64) hx hb d_Mo_isPattern_47 (by decide) (fun h47 => ?_) (fun h47 => ?_)
              · refine lv_iconst (v := 0) hx hb d_Mo_isPattern_64 (by decide) ?_
                refine lv_istore_n (lv' := [(2, .int 0), (1, .int 1), (0, .ref t), (3, .int xi)]) hx hb d_Mo_isPattern_65 rfl hl (by decide) rfl (fun ls hl => ?_)
                obtain ⟨xi2, exi2⟩ : ∃ y : Int32, y = xi + 1 := ⟨_, rfl⟩
                refine lv_iinc (v := xi2) (lv' := [(3, .int xi2), (2, .int 0), (1, .int 1), (0, .ref t)]) hx hb d_Mo_isPattern_66 hl (k := 3) rfl (by rw [exi2]; rfl) (by decide) rfl (fun ls hl => ?_)
                refine lv_goto (tgt := 6) hx hb d_Mo_isPattern_69 (by decide) ?_
                exact ih (i + 1) xi2 1 0 _ (by omega) (by omega) (by rw [exi2, exi]; exact nI_1 i) (bl_ex2 (fun q => h24 (by rw [q]; exact Int32.le_refl _))) (bl_ex0 hmm hm (fun q => by rw [exi] at h47; have h9 := (nI_leI (a := i) (b := 0) (by omega) (by omega)).mp h47; have := q.2.1; omega)) (lv_sub hl [3, 2, 1, 0] rfl)
              · refine lv_iload_n hx hb d_Mo_isPattern_50 rfl (lv_at hl 3 rfl) ?_
                refine lv_aload_n hx hb d_Mo_isPattern_51 rfl (lv_at hl 1 rfl) ?_
                refine wd_get S i_Mo hK hW ht0 rfl 6 (by decide) k_Mo_77 rfl rfl d_Mo_isPattern_52 ?_
                refine lv_iconst (v := 1) hx hb d_Mo_isPattern_55 (by decide) ?_
                refine lv_isub hx hb d_Mo_isPattern_56 ?_
                rw [show nI ml.length - 1 = nI (ml.length - 1) from nI_pred3 (by omega)]
                refine lv_icmp_ge (tgt := 64) hx hb d_Mo_isPattern_57 (by decide) (fun h57 => ?_) (fun h57 => ?_)
                · refine lv_iconst (v := 0) hx hb d_Mo_isPattern_64 (by decide) ?_
                  refine lv_istore_n (lv' := [(2, .int 0), (1, .int 1), (0, .ref t), (3, .int xi)]) hx hb d_Mo_isPattern_65 rfl hl (by decide) rfl (fun ls hl => ?_)
                  obtain ⟨xi2, exi2⟩ : ∃ y : Int32, y = xi + 1 := ⟨_, rfl⟩
                  refine lv_iinc (v := xi2) (lv' := [(3, .int xi2), (2, .int 0), (1, .int 1), (0, .ref t)]) hx hb d_Mo_isPattern_66 hl (k := 3) rfl (by rw [exi2]; rfl) (by decide) rfl (fun ls hl => ?_)
                  refine lv_goto (tgt := 6) hx hb d_Mo_isPattern_69 (by decide) ?_
                  exact ih (i + 1) xi2 1 0 _ (by omega) (by omega) (by rw [exi2, exi]; exact nI_1 i) (bl_ex2 (fun q => h24 (by rw [q]; exact Int32.le_refl _))) (bl_ex0 hmm hm (fun q => by rw [exi] at h57; have h9 := (nI_leI (a := ml.length - 1) (b := i) (by omega) (by omega)).mp h57; have := q.2.2; omega)) (lv_sub hl [3, 2, 1, 0] rfl)
                · refine lv_iconst (v := 1) hx hb d_Mo_isPattern_60 (by decide) ?_
                  refine lv_goto (tgt := 65) hx hb d_Mo_isPattern_61 (by decide) ?_
                  refine lv_istore_n (lv' := [(2, .int 1), (1, .int 1), (0, .ref t), (3, .int xi)]) hx hb d_Mo_isPattern_65 rfl hl (by decide) rfl (fun ls hl => ?_)
                  obtain ⟨xi2, exi2⟩ : ∃ y : Int32, y = xi + 1 := ⟨_, rfl⟩
                  refine lv_iinc (v := xi2) (lv' := [(3, .int xi2), (2, .int 1), (1, .int 1), (0, .ref t)]) hx hb d_Mo_isPattern_66 hl (k := 3) rfl (by rw [exi2]; rfl) (by decide) rfl (fun ls hl => ?_)
                  refine lv_goto (tgt := 6) hx hb d_Mo_isPattern_69 (by decide) ?_
                  exact ih (i + 1) xi2 1 1 _ (by omega) (by omega) (by rw [exi2, exi]; exact nI_1 i) (bl_ex2 (fun q => h24 (by rw [q]; exact Int32.le_refl _))) (bl_ex2 ⟨hr5, by rw [exi] at h47; exact Nat.pos_of_ne_zero (fun q => h47 (by rw [q]; exact Int32.le_refl _)), by rw [exi] at h57; have h9 : ¬ ml.length - 1 ≤ i := fun q => h57 (nI_le q (by omega)); omega⟩) (lv_sub hl [3, 2, 1, 0] rfl)

set_option maxHeartbeats 4000000 in
set_option maxRecDepth 100000 in
/-- isPattern() -/
theorem c_Mo_isPattern (l : Launch) (G : ev_G) (w : wd_M) (sz : Nat) (t : Nat) (C : Nat → Nat) (M : Nat → Nat → Int32) (ln pn tn en sn qn : Int32) (ml : List Int32) (hc : mo_c G w t C M ln (nI ml.length) pn tn en sn qn) (hml : li_ ml (M 5)) (wml : ml.length ≤ 12) (wmx : ∀ x ∈ ml, 0 ≤ x) : ct_i l y_Mo_isPattern b_Mo_isPattern 4 (some FieldType.boolean) (rm_ 0 0 0) G w sz [.ref t] (fun v u => bl_ v (hy_pat ml) ∧ u = w) := by
  refine ct_enter (by decide +kernel) (Nat.le_of_ble_eq_true rfl) ?_
  intro p_ e_ s m below meth c_ hsz S hr hlocks hname hE hW ls hl
  have S : CallFix p_ m c_ b_Mo_isPattern 4 s _ lw_good "HyphenRowsModel" := S
  have hx := S.1
  have hb := S.2.1
  have hK := hE.1
  have hl : lv_has ls 4 [(0, .ref t)] := hl
  refine lv_iconst (v := 0) hx hb d_Mo_isPattern_0 (by decide) ?_
  refine lv_istore_n (lv' := [(1, .int 0), (0, .ref t)]) hx hb d_Mo_isPattern_1 rfl hl (by decide) rfl (fun ls hl => ?_)
  refine lv_iconst (v := 0) hx hb d_Mo_isPattern_2 (by decide) ?_
  refine lv_istore_n (lv' := [(2, .int 0), (1, .int 0), (0, .ref t)]) hx hb d_Mo_isPattern_3 rfl hl (by decide) rfl (fun ls hl => ?_)
  refine lv_iconst (v := 0) hx hb d_Mo_isPattern_4 (by decide) ?_
  refine lv_istore_n (lv' := [(3, .int 0), (2, .int 0), (1, .int 0), (0, .ref t)]) hx hb d_Mo_isPattern_5 rfl hl (by decide) rfl (fun ls hl => ?_)
  refine lo_Mo_isPattern S hE hW hc hml wml wmx (fun sm mm hsm hmm ls hl => ?_) (ml.length + 1) 0 0 0 0 _ (by omega) (Nat.zero_le _) nI_0.symm (Or.inr ⟨rfl, fun q => by obtain ⟨j, hj, -⟩ := q; omega⟩) (Or.inr ⟨rfl, fun q => by obtain ⟨j, hj, -⟩ := q; omega⟩) (lv_sub hl [3, 2, 1, 0] rfl)
  have hpi := pat_iff hml
  refine lv_iload_n hx hb d_Mo_isPattern_72 rfl (lv_at hl 1 rfl) ?_
  refine lv_if_eq (tgt := 84) hx hb d_Mo_isPattern_73 (by decide) (fun h73 => ?_) (fun h73 => ?_)
  · refine lv_iconst (v := 0) hx hb d_Mo_isPattern_84 (by decide) ?_
    exact ct_iret S hr rfl hlocks hW (⟨Or.inr ⟨rfl, fun q => bl_f hsm h73 (hpi.mpr q).1⟩, rfl⟩) (Nat.le_refl _) (Nat.le_refl _) d_Mo_isPattern_85
  · refine lv_iload_n hx hb d_Mo_isPattern_76 rfl (lv_at hl 2 rfl) ?_
    refine lv_if_ne (tgt := 84) hx hb d_Mo_isPattern_77 (by decide) (fun h77 => ?_) (fun h77 => ?_)
    · refine lv_iconst (v := 0) hx hb d_Mo_isPattern_84 (by decide) ?_
      exact ct_iret S hr rfl hlocks hW (⟨Or.inr ⟨rfl, fun q => by obtain ⟨j, hj, h1, h2, h3⟩ := bl_t hmm h77; have := (hpi.mpr q).2 j hj h1; omega⟩, rfl⟩) (Nat.le_refl _) (Nat.le_refl _) d_Mo_isPattern_85
    · refine lv_iconst (v := 1) hx hb d_Mo_isPattern_80 (by decide) ?_
      refine lv_goto (tgt := 85) hx hb d_Mo_isPattern_81 (by decide) ?_
      exact ct_iret S hr rfl hlocks hW (⟨Or.inl ⟨rfl, hpi.mp ⟨bl_t hsm h73, fun j hj h0 => Classical.byContradiction (fun z => bl_f hmm h77 ⟨j, hj, h0, by omega, by omega⟩)⟩⟩, rfl⟩) (Nat.le_refl _) (Nat.le_refl _) d_Mo_isPattern_85

set_option maxHeartbeats 4000000 in
set_option maxRecDepth 100000 in
/-- the loop of isSame -/
theorem lo_Mo_isSame {p_ : Program} {l : Launch} {e_ : Env} {s : State} {m : MethodId} {args : Array Value} {below : List Frame} {meth : Method} {c_ : Code} {Q : State → Prop} {G : ev_G} {A : Nat → Prop} (S : CallFix p_ m c_ b_Mo_isSame 5 s args lw_good "HyphenRowsModel") (hE : ev_K G A s s.heap) {w : wd_M} {H : Heap} {locs : List Loc} {t : Nat} {C : Nat → Nat} {M : Nat → Nat → Int32} {ln pn tn en sn qn : Int32} {ml : List Int32} {k lx : Nat} {p : hy_P} (hW : wd_W G.1 ev_cl A w s.heap H locs) (hc : mo_c G w t C M ln (nI ml.length) pn tn en sn qn) (hml : li_ ml (M 5)) (wml : ml.length ≤ 12) (wmx : ∀ x ∈ ml, 0 ≤ x) (hk150 : k < 150) (kk : ∀ sm : Int32, bl_ sm ((p.1 = lx ∧ p.2.1.length = ml.length) ∧ ∀ j, j < ml.length → M 9 (12 * k + j) = M 5 j) → ∀ ls : Array Slot, lv_has ls 5 [(0, .ref t), (3, .int sm)] → W p_ l e_ (rm_ 0 0 0) s m args below meth c_ H locs 0 0 Q (F0 m 79 ls [])) :
    ∀ (fu : Nat) (i : Nat) (xi : Int32) (sm : Int32) (ls : Array Slot), ml.length < i + fu → i ≤ ml.length → xi = nI i → bl_ sm ((p.1 = lx ∧ p.2.1.length = ml.length) ∧ ∀ j, j < i → M 9 (12 * k + j) = M 5 j) → lv_has ls 5 [(0, .ref t), (1, .int (nI k)), (2, .int (nI lx)), (3, .int sm), (4, .int xi)] → W p_ l e_ (rm_ 0 0 0) s m args below meth c_ H locs 0 0 Q (F0 m 32 ls []) := by
  have hx := S.1
  have hb := S.2.1
  have hK := hE.1
  intro fu
  induction fu with
  | zero =>
    intro i xi sm ls hfu hi exi hsm hl
    exact absurd hfu (by omega)
  | succ fu ih =>
    intro i xi sm ls hfu hi exi hsm hl
    obtain ⟨ht0, -, -, -, -, -, c5, -, -, -, c9, -⟩ := id hc
    refine lv_iload hx hb d_Mo_isSame_32 (lv_at hl 4 rfl) ?_
    refine lv_aload_n hx hb d_Mo_isSame_34 rfl (lv_at hl 0 rfl) ?_
    refine wd_get S i_Mo hK hW ht0 rfl 6 (by decide) k_Mo_77 rfl rfl d_Mo_isSame_35 ?_
    refine lv_icmp_ge (tgt := 79) hx hb d_Mo_isSame_38 (by decide) (fun h38 => ?_) (fun h38 => ?_)
    · have hin9 : i = ml.length := by rw [exi] at h38; have := (nI_leI (by omega) (by omega)).mp h38; omega
      subst hin9
      exact kk sm hsm ls (lv_sub hl [0, 3] rfl)
    · have hlt : i < ml.length := by rw [exi] at h38; exact Nat.lt_of_not_le (fun q => h38 (nI_le q (by omega)))
      have hin : vp_in xi 12 := by rw [exi]; exact vp_in_nI (by omega) (by omega)
      have hcl : xi.toNatClampNeg = i := by rw [exi]; exact nI_clamp (by omega)
      refine lv_iload_n hx hb d_Mo_isSame_41 rfl (lv_at hl 3 rfl) ?_
      refine lv_if_eq (tgt := 79) hx hb d_Mo_isSame_42 (by decide) (fun h42 => ?_) (fun h42 => ?_)
      · exact kk sm (bl_alx hsm h42 hi) ls (lv_sub hl [0, 3] rfl)
      · refine lv_aload_n hx hb d_Mo_isSame_45 rfl (lv_at hl 0 rfl) ?_
        refine wd_get S i_Mo hK hW ht0 rfl 13 (by decide) k_Mo_38 rfl rfl d_Mo_isSame_46 ?_
        refine lv_bipush (v := 12) hx hb d_Mo_isSame_49 (by decide) ?_
        refine lv_iload_n hx hb d_Mo_isSame_51 rfl (lv_at hl 1 rfl) ?_
        refine lv_imul hx hb d_Mo_isSame_52 ?_
        refine lv_iload hx hb d_Mo_isSame_53 (lv_at hl 4 rfl) ?_
        refine lv_iadd hx hb d_Mo_isSame_55 ?_
        rw [show (12 : Int32) * nI k + xi = nI (12 * k + i) from by rw [exi]; exact ix_12 k i]
        refine wd_iald S hK hW 0 c9 rfl (vp_in_nI (by omega) (by omega)) d_Mo_isSame_56 ?_
        rw [nI_clamp (by omega)]
        refine lv_aload_n hx hb d_Mo_isSame_57 rfl (lv_at hl 0 rfl) ?_
        refine wd_get S i_Mo hK hW ht0 rfl 7 (by decide) k_Mo_26 rfl rfl d_Mo_isSame_58 ?_
        refine lv_iload hx hb d_Mo_isSame_61 (lv_at hl 4 rfl) ?_
        refine wd_iald S hK hW 0 c5 rfl hin d_Mo_isSame_63 ?_
        rw [hcl]
        refine lv_icmp_ne (tgt := 71) hx hb d_Mo_isSame_64 (by decide) (fun h64 => ?_) (fun h64 => ?_)
        · refine lv_iconst (v := 0) hx hb d_Mo_isSame_71 (by decide) ?_
          refine lv_istore_n (lv' := [(3, .int 0), (0, .ref t), (1, .int (nI k)), (2, .int (nI lx)), (4, .int xi)]) hx hb d_Mo_isSame_72 rfl hl (by decide) rfl (fun ls hl => ?_)
          obtain ⟨xi2, exi2⟩ : ∃ y : Int32, y = xi + 1 := ⟨_, rfl⟩
          refine lv_iinc (v := xi2) (lv' := [(4, .int xi2), (3, .int 0), (0, .ref t), (1, .int (nI k)), (2, .int (nI lx))]) hx hb d_Mo_isSame_73 hl (k := 4) rfl (by rw [exi2]; rfl) (by decide) rfl (fun ls hl => ?_)
          refine lv_goto (tgt := 32) hx hb d_Mo_isSame_76 (by decide) ?_
          exact ih (i + 1) xi2 0 _ (by omega) (by omega) (by rw [exi2, exi]; exact nI_1 i) (bl_al0 h64) (lv_sub hl [2, 3, 4, 1, 0] rfl)
        · refine lv_iconst (v := 1) hx hb d_Mo_isSame_67 (by decide) ?_
          refine lv_goto (tgt := 72) hx hb d_Mo_isSame_68 (by decide) ?_
          refine lv_istore_n (lv' := [(3, .int 1), (0, .ref t), (1, .int (nI k)), (2, .int (nI lx)), (4, .int xi)]) hx hb d_Mo_isSame_72 rfl hl (by decide) rfl (fun ls hl => ?_)
          obtain ⟨xi2, exi2⟩ : ∃ y : Int32, y = xi + 1 := ⟨_, rfl⟩
          refine lv_iinc (v := xi2) (lv' := [(4, .int xi2), (3, .int 1), (0, .ref t), (1, .int (nI k)), (2, .int (nI lx))]) hx hb d_Mo_isSame_73 hl (k := 4) rfl (by rw [exi2]; rfl) (by decide) rfl (fun ls hl => ?_)
          refine lv_goto (tgt := 32) hx hb d_Mo_isSame_76 (by decide) ?_
          exact ih (i + 1) xi2 1 _ (by omega) (by omega) (by rw [exi2, exi]; exact nI_1 i) (bl_al1 hsm h42 h64) (lv_sub hl [2, 3, 4, 1, 0] rfl)

set_option maxHeartbeats 4000000 in
set_option maxRecDepth 100000 in
/-- isSame(k, lx) -/
theorem c_Mo_isSame (l : Launch) (G : ev_G) (w : wd_M) (sz : Nat) (t : Nat) (C : Nat → Nat) (M : Nat → Nat → Int32) (ln pn tn en sn qn : Int32) (ml : List Int32) (Ps : List hy_P) (k lx : Nat) (p : hy_P) (hc : mo_c G w t C M ln (nI ml.length) pn tn en sn qn) (hml : li_ ml (M 5)) (wml : ml.length ≤ 12) (wmx : ∀ x ∈ ml, 0 ≤ x) (hpk : Ps[k]? = some p) (hp0 : mo_p Ps M) (hk150 : k < 150) (hp1 : p.1 < 4 ∧ 1 ≤ p.2.1.length ∧ p.2.1.length ≤ 12) (hlx : lx < 4) : ct_i l y_Mo_isSame b_Mo_isSame 5 (some FieldType.boolean) (rm_ 0 0 0) G w sz [.ref t, .int (nI k), .int (nI lx)] (fun v u => bl_ v (p.1 = lx ∧ p.2.1 = ml) ∧ u = w) := by
  refine ct_enter (by decide +kernel) (Nat.le_of_ble_eq_true rfl) ?_
  intro p_ e_ s m below meth c_ hsz S hr hlocks hname hE hW ls hl
  have S : CallFix p_ m c_ b_Mo_isSame 5 s _ lw_good "HyphenRowsModel" := S
  have hx := S.1
  have hb := S.2.1
  have hK := hE.1
  have hl : lv_has ls 5 [(0, .ref t), (1, .int (nI k)), (2, .int (nI lx))] := hl
  obtain ⟨ht0, -, -, -, -, -, -, -, c7, c8, -⟩ := id hc
  obtain ⟨m7, m8, m9, m10⟩ := hp0 k p hpk
  refine lv_aload_n hx hb d_Mo_isSame_0 rfl (lv_at hl 0 rfl) ?_
  refine wd_get S i_Mo hK hW ht0 rfl 11 (by decide) k_Mo_32 rfl rfl d_Mo_isSame_1 ?_
  refine lv_iload_n hx hb d_Mo_isSame_4 rfl (lv_at hl 1 rfl) ?_
  refine wd_iald S hK hW 0 c7 rfl (vp_in_nI (by omega) (by omega)) d_Mo_isSame_5 ?_
  rw [nI_clamp (by omega), m7]
  refine lv_iload_n hx hb d_Mo_isSame_6 rfl (lv_at hl 2 rfl) ?_
  refine lv_icmp_ne (tgt := 27) hx hb d_Mo_isSame_7 (by decide) (fun h7 => ?_) (fun h7 => ?_)
  · refine lv_iconst (v := 0) hx hb d_Mo_isSame_27 (by decide) ?_
    refine lv_istore_n (lv' := [(3, .int 0), (0, .ref t), (1, .int (nI k)), (2, .int (nI lx))]) hx hb d_Mo_isSame_28 rfl hl (by decide) rfl (fun ls hl => ?_)
    refine lv_iconst (v := 0) hx hb d_Mo_isSame_29 (by decide) ?_
    refine lv_istore (lv' := [(4, .int 0), (3, .int 0), (0, .ref t), (1, .int (nI k)), (2, .int (nI lx))]) hx hb d_Mo_isSame_30 hl (by decide) rfl (fun ls hl => ?_)
    refine lo_Mo_isSame (p := p) (lx := lx) S hE hW hc hml wml wmx hk150 (fun sm hsm ls hl => ?_) (ml.length + 1) 0 0 0 _ (by omega) (Nat.zero_le _) nI_0.symm (Or.inr ⟨rfl, fun q => h7 (by rw [q.1.1])⟩) (lv_sub hl [2, 3, 4, 1, 0] rfl)
    have hiff : ((p.1 = lx ∧ p.2.1.length = ml.length) ∧ ∀ j, j < ml.length → M 9 (12 * k + j) = M 5 j) ↔ (p.1 = lx ∧ p.2.1 = ml) := ⟨fun q => ⟨q.1.1, li_one (f := fun j => M 9 (12 * k + j)) (g := M 5) m9 hml q.1.2 (fun j hj => q.2 j (by omega))⟩, fun q => ⟨⟨q.1, by rw [q.2]⟩, fun j hj => (m9 j ml[j] (by rw [q.2]; exact List.getElem?_eq_getElem hj)).trans (hml j ml[j] (List.getElem?_eq_getElem hj)).symm⟩⟩
    refine lv_iload_n hx hb d_Mo_isSame_79 rfl (lv_at hl 1 rfl) ?_
    exact ct_iret S hr (bl_01 hsm) hlocks hW (⟨bl_i hsm hiff, rfl⟩) (Nat.le_refl _) (Nat.le_refl _) d_Mo_isSame_80
  · refine lv_aload_n hx hb d_Mo_isSame_10 rfl (lv_at hl 0 rfl) ?_
    refine wd_get S i_Mo hK hW ht0 rfl 12 (by decide) k_Mo_35 rfl rfl d_Mo_isSame_11 ?_
    refine lv_iload_n hx hb d_Mo_isSame_14 rfl (lv_at hl 1 rfl) ?_
    refine wd_iald S hK hW 0 c8 rfl (vp_in_nI (by omega) (by omega)) d_Mo_isSame_15 ?_
    rw [nI_clamp (by omega), m8]
    refine lv_aload_n hx hb d_Mo_isSame_16 rfl (lv_at hl 0 rfl) ?_
    refine wd_get S i_Mo hK hW ht0 rfl 6 (by decide) k_Mo_77 rfl rfl d_Mo_isSame_17 ?_
    refine lv_icmp_ne (tgt := 27) hx hb d_Mo_isSame_20 (by decide) (fun h20 => ?_) (fun h20 => ?_)
    · refine lv_iconst (v := 0) hx hb d_Mo_isSame_27 (by decide) ?_
      refine lv_istore_n (lv' := [(3, .int 0), (0, .ref t), (1, .int (nI k)), (2, .int (nI lx))]) hx hb d_Mo_isSame_28 rfl hl (by decide) rfl (fun ls hl => ?_)
      refine lv_iconst (v := 0) hx hb d_Mo_isSame_29 (by decide) ?_
      refine lv_istore (lv' := [(4, .int 0), (3, .int 0), (0, .ref t), (1, .int (nI k)), (2, .int (nI lx))]) hx hb d_Mo_isSame_30 hl (by decide) rfl (fun ls hl => ?_)
      refine lo_Mo_isSame (p := p) (lx := lx) S hE hW hc hml wml wmx hk150 (fun sm hsm ls hl => ?_) (ml.length + 1) 0 0 0 _ (by omega) (Nat.zero_le _) nI_0.symm (Or.inr ⟨rfl, fun q => h20 (by rw [q.1.2])⟩) (lv_sub hl [2, 3, 4, 1, 0] rfl)
      have hiff : ((p.1 = lx ∧ p.2.1.length = ml.length) ∧ ∀ j, j < ml.length → M 9 (12 * k + j) = M 5 j) ↔ (p.1 = lx ∧ p.2.1 = ml) := ⟨fun q => ⟨q.1.1, li_one (f := fun j => M 9 (12 * k + j)) (g := M 5) m9 hml q.1.2 (fun j hj => q.2 j (by omega))⟩, fun q => ⟨⟨q.1, by rw [q.2]⟩, fun j hj => (m9 j ml[j] (by rw [q.2]; exact List.getElem?_eq_getElem hj)).trans (hml j ml[j] (List.getElem?_eq_getElem hj)).symm⟩⟩
      refine lv_iload_n hx hb d_Mo_isSame_79 rfl (lv_at hl 1 rfl) ?_
      exact ct_iret S hr (bl_01 hsm) hlocks hW (⟨bl_i hsm hiff, rfl⟩) (Nat.le_refl _) (Nat.le_refl _) d_Mo_isSame_80
    · refine lv_iconst (v := 1) hx hb d_Mo_isSame_23 (by decide) ?_
      refine lv_goto (tgt := 28) hx hb d_Mo_isSame_24 (by decide) ?_
      refine lv_istore_n (lv' := [(3, .int 1), (0, .ref t), (1, .int (nI k)), (2, .int (nI lx))]) hx hb d_Mo_isSame_28 rfl hl (by decide) rfl (fun ls hl => ?_)
      refine lv_iconst (v := 0) hx hb d_Mo_isSame_29 (by decide) ?_
      refine lv_istore (lv' := [(4, .int 0), (3, .int 1), (0, .ref t), (1, .int (nI k)), (2, .int (nI lx))]) hx hb d_Mo_isSame_30 hl (by decide) rfl (fun ls hl => ?_)
      refine lo_Mo_isSame (p := p) (lx := lx) S hE hW hc hml wml wmx hk150 (fun sm hsm ls hl => ?_) (ml.length + 1) 0 0 1 _ (by omega) (Nat.zero_le _) nI_0.symm (Or.inl ⟨rfl, ⟨(nI_eq (by omega) (by omega)).mp h7, (nI_eq (by omega) (by omega)).mp h20⟩, lt_0⟩) (lv_sub hl [2, 3, 4, 1, 0] rfl)
      have hiff : ((p.1 = lx ∧ p.2.1.length = ml.length) ∧ ∀ j, j < ml.length → M 9 (12 * k + j) = M 5 j) ↔ (p.1 = lx ∧ p.2.1 = ml) := ⟨fun q => ⟨q.1.1, li_one (f := fun j => M 9 (12 * k + j)) (g := M 5) m9 hml q.1.2 (fun j hj => q.2 j (by omega))⟩, fun q => ⟨⟨q.1, by rw [q.2]⟩, fun j hj => (m9 j ml[j] (by rw [q.2]; exact List.getElem?_eq_getElem hj)).trans (hml j ml[j] (List.getElem?_eq_getElem hj)).symm⟩⟩
      refine lv_iload_n hx hb d_Mo_isSame_79 rfl (lv_at hl 1 rfl) ?_
      exact ct_iret S hr (bl_01 hsm) hlocks hW (⟨bl_i hsm hiff, rfl⟩) (Nat.le_refl _) (Nat.le_refl _) d_Mo_isSame_80
