/-! THE CLASS: its private methods that only look. -/

set_option maxHeartbeats 4000000 in
set_option maxRecDepth 100000 in
/-- isLanguage(x) -/
theorem c_HR_isLanguage (l : Launch) (G : ev_G) (w : wd_M) (sz : Nat) (r : Nat) (B E : Nat → Nat) (F : Nat → Nat → Int32) (tot mn wn pn : Int32) (la : List Nat) (x : Int32) (hc : hr_c G w r B F tot mn wn pn) (hal : al_ G w (B 0) (E 0) la) : ct_i l y_HR_isLanguage b_HR_isLanguage 2 (some FieldType.boolean) (rm_ 1 0 0) G w sz [.ref r, .int x] (fun v u => bl_ v (nm_ x la.length) ∧ u = w) := by
  refine ct_enter (by decide +kernel) (Nat.le_of_ble_eq_true rfl) ?_
  intro p_ e_ s m below meth c_ hsz S hr hlocks hname hE hW ls hl
  have S : CallFix p_ m c_ b_HR_isLanguage 2 s _ lw_good "HyphenRows" := S
  have hx := S.1
  have hb := S.2.1
  have hK := hE.1
  have hl : lv_has ls 2 [(0, .ref r), (1, .int x)] := hl
  obtain ⟨hr0, a3, a4, a5, a6, a7, a8⟩ := id hc
  obtain ⟨mo0, haL, he0⟩ := id hal
  refine lv_iload_n hx hb d_HR_isLanguage_0 rfl (lv_at hl 1 rfl) ?_
  refine lv_if_lt (tgt := 19) hx hb d_HR_isLanguage_1 (by decide) (fun h1 => ?_) (fun h1 => ?_)
  · refine lv_iconst (v := 0) hx hb d_HR_isLanguage_19 (by decide) ?_
    exact ct_iret S hr rfl hlocks hW (⟨Or.inr ⟨rfl, fun q => q.1 h1⟩, rfl⟩) (Nat.le_refl _) (Nat.le_refl _) d_HR_isLanguage_20
  · refine lv_iload_n hx hb d_HR_isLanguage_4 rfl (lv_at hl 1 rfl) ?_
    refine lv_aload_n hx hb d_HR_isLanguage_5 rfl (lv_at hl 0 rfl) ?_
    refine wd_get S i_HR hK hW hr0 rfl 0 (by decide) k_HR_10 rfl rfl d_HR_isLanguage_6 ?_
    refine ct_goi hW (ct_runV (As := []) (rest := [.int x]) (q := (R_AL, F_AL, 3)) S hE hW (c_AL_size l G _ _ (B 0) (E 0) (nI la.length) mo0 haL) haL rfl kc_AL_size kz_AL k_HR_54 ki_AL_size kv_AL_size kd_AL_size ⟨Nat.le_of_ble_eq_true rfl, Nat.le_of_ble_eq_true rfl⟩ hl.1 (Nat.le_of_ble_eq_true rfl) d_HR_isLanguage_9 ⟨Nat.le_of_ble_eq_true rfl, Nat.le_of_ble_eq_true rfl⟩) (fun v_3 u_1 H locs hp_2 hW => ?_)
    obtain ⟨hv, hu_4⟩ := hp_2
    rw [hu_4] at hW
    rw [hv]
    refine lv_icmp_ge (tgt := 19) hx hb d_HR_isLanguage_12 (by decide) (fun hq => ?_) (fun hq => ?_)
    · refine lv_iconst (v := 0) hx hb d_HR_isLanguage_19 (by decide) ?_
      exact ct_iret S hr rfl hlocks hW (⟨Or.inr ⟨rfl, fun q => q.2 hq⟩, rfl⟩) (Nat.le_refl _) (Nat.le_refl _) d_HR_isLanguage_20
    · refine lv_iconst (v := 1) hx hb d_HR_isLanguage_15 (by decide) ?_
      refine lv_goto (tgt := 20) hx hb d_HR_isLanguage_16 (by decide) ?_
      exact ct_iret S hr rfl hlocks hW (⟨Or.inl ⟨rfl, h1, hq⟩, rfl⟩) (Nat.le_refl _) (Nat.le_refl _) d_HR_isLanguage_20

theorem nI_pred3 {n : Nat} (h : 0 < n) : nI n - 1 = nI (n - 1) := nI_pred2 (k := 0) h

set_option maxHeartbeats 4000000 in
set_option maxRecDepth 100000 in
/-- the loop of isPatternRow -/
theorem lo_HR_isPatternRow {p_ : Program} {l : Launch} {e_ : Env} {s : State} {m : MethodId} {args : Array Value} {below : List Frame} {meth : Method} {c_ : Code} {Q : State → Prop} {G : ev_G} {A : Nat → Prop} (S : CallFix p_ m c_ b_HR_isPatternRow 4 s args lw_good "HyphenRows") (hE : ev_K G A s s.heap) {w : wd_M} {H : Heap} {locs : List Loc} {r n : Nat} {B : Nat → Nat} {F : Nat → Nat → Int32} {tot mn wn pn : Int32} (hW : wd_W G.1 ev_cl A w s.heap H locs) (hc : hr_c G w r B F tot mn wn pn) (hn : n ≤ 12) (kk : ∀ sm : Int32, ((sm = 1 ∧ ∃ j, j < n ∧ ¬ F 3 j = 0) ∨ (sm = 0 ∧ ∀ j, j < n → F 3 j = 0)) → (∀ j, j < n → F 3 j = 0 → j = 0 ∨ j + 1 = n) → ∀ ls : Array Slot, lv_has ls 4 [(0, .ref r), (1, .int (nI n)), (2, .int sm)] → W p_ l e_ (rm_ 0 0 0) s m args below meth c_ H locs 0 0 Q (F0 m 42 ls [])) (kf : ∀ i, i < n → F 3 i = 0 → ¬ i = 0 → ¬ i + 1 = n → ∀ ls : Array Slot, (∃ sm : Int32, lv_has ls 4 [(0, .ref r), (1, .int (nI n)), (2, .int sm)]) → W p_ l e_ (rm_ 0 0 0) s m args below meth c_ H locs 0 0 Q (F0 m 34 ls [])) :
    ∀ (fu : Nat) (i : Nat) (xi : Int32) (sm : Int32) (ls : Array Slot), n < i + fu → i ≤ n → xi = nI i → ((sm = 1 ∧ ∃ j, j < i ∧ ¬ F 3 j = 0) ∨ (sm = 0 ∧ ∀ j, j < i → F 3 j = 0)) → (∀ j, j < i → F 3 j = 0 → j = 0 ∨ j + 1 = n) → lv_has ls 4 [(0, .ref r), (1, .int (nI n)), (2, .int sm), (3, .int xi)] → W p_ l e_ (rm_ 0 0 0) s m args below meth c_ H locs 0 0 Q (F0 m 4 ls []) := by
  have hx := S.1
  have hb := S.2.1
  have hK := hE.1
  intro fu
  induction fu with
  | zero =>
    intro i xi sm ls hfu hi exi hsm hmid hl
    exact absurd hfu (by omega)
  | succ fu ih =>
    intro i xi sm ls hfu hi exi hsm hmid hl
    obtain ⟨hr0, a3, a4, a5, a6, a7, a8⟩ := id hc
    refine lv_iload_n hx hb d_HR_isPatternRow_4 rfl (lv_at hl 3 rfl) ?_
    refine lv_iload_n hx hb d_HR_isPatternRow_5 rfl (lv_at hl 1 rfl) ?_
    refine lv_icmp_ge (tgt := 42) hx hb d_HR_isPatternRow_6 (by decide) (fun h6 => ?_) (fun h6 => ?_)
    · exact kk sm (hsm.imp (fun q => ⟨q.1, by rw [exi] at h6; have := (nI_leI (by omega) (by omega)).mp h6; obtain ⟨j, hj, hz⟩ := q.2; exact ⟨j, by omega, hz⟩⟩) (fun q => ⟨q.1, fun j hj => q.2 j (by rw [exi] at h6; have := (nI_leI (by omega) (by omega)).mp h6; omega)⟩)) (fun j hj hz => hmid j (by rw [exi] at h6; have := (nI_leI (by omega) (by omega)).mp h6; omega) hz) ls (lv_sub hl [0, 1, 2] rfl)
    · have hlt : i < n := by rw [exi] at h6; exact Nat.lt_of_not_le (fun q => h6 (nI_le q (by omega)))
      have hin : vp_in xi 12 := by rw [exi]; exact vp_in_nI (by omega) (by omega)
      have hcl : xi.toNatClampNeg = i := by rw [exi]; exact nI_clamp (by omega)
      refine lv_aload_n hx hb d_HR_isPatternRow_9 rfl (lv_at hl 0 rfl) ?_
      refine wd_get S i_HR hK hW hr0 rfl 4 (by decide) k_HR_26 rfl rfl d_HR_isPatternRow_10 ?_
      refine lv_iload_n hx hb d_HR_isPatternRow_13 rfl (lv_at hl 3 rfl) ?_
      refine wd_iald S hK hW 0 a3 rfl hin d_HR_isPatternRow_14 ?_
      rw [hcl]
      refine lv_if_eq (tgt := 23) hx hb d_HR_isPatternRow_15 (by decide) (fun h15 => ?_) (fun h15 => ?_)
      · refine lv_iload_n hx hb d_HR_isPatternRow_23 rfl (lv_at hl 3 rfl) ?_
        refine lv_if_le (tgt := 36) hx hb d_HR_isPatternRow_24 (by decide) (fun h24 => ?_) (fun h24 => ?_)
        · have hi0 : i = 0 := by rw [exi] at h24; have h9 := (nI_leI (a := i) (b := 0) (by omega) (by omega)).mp h24; omega
          obtain ⟨xi2, exi2⟩ : ∃ y : Int32, y = xi + 1 := ⟨_, rfl⟩
          refine lv_iinc (v := xi2) (lv' := [(3, .int xi2), (0, .ref r), (1, .int (nI n)), (2, .int sm)]) hx hb d_HR_isPatternRow_36 hl (k := 3) rfl (by rw [exi2]; rfl) (by decide) rfl (fun ls hl => ?_)
          refine lv_goto (tgt := 4) hx hb d_HR_isPatternRow_39 (by decide) ?_
          exact ih (i + 1) xi2 sm _ (by omega) (by omega) (by rw [exi2, exi]; exact nI_1 i) (hsm.imp (fun q => ⟨q.1, by obtain ⟨j, hj, hz⟩ := q.2; exact ⟨j, by omega, hz⟩⟩) (fun q => ⟨q.1, lt_s q.2 h15⟩)) (lt_s hmid (fun _ => Or.inl hi0)) (lv_sub hl [1, 2, 3, 0] rfl)
        · refine lv_iload_n hx hb d_HR_isPatternRow_27 rfl (lv_at hl 3 rfl) ?_
          refine lv_iload_n hx hb d_HR_isPatternRow_28 rfl (lv_at hl 1 rfl) ?_
          refine lv_iconst (v := 1) hx hb d_HR_isPatternRow_29 (by decide) ?_
          refine lv_isub hx hb d_HR_isPatternRow_30 ?_
          rw [show nI n - 1 = nI (n - 1) from nI_pred2 (k := i) hlt]
          refine lv_icmp_ge (tgt := 36) hx hb d_HR_isPatternRow_31 (by decide) (fun h31 => ?_) (fun h31 => ?_)
          · have hil : i + 1 = n := by rw [exi] at h31; have h9 := (nI_leI (a := n - 1) (b := i) (by omega) (by omega)).mp h31; omega
            obtain ⟨xi2, exi2⟩ : ∃ y : Int32, y = xi + 1 := ⟨_, rfl⟩
            refine lv_iinc (v := xi2) (lv' := [(3, .int xi2), (0, .ref r), (1, .int (nI n)), (2, .int sm)]) hx hb d_HR_isPatternRow_36 hl (k := 3) rfl (by rw [exi2]; rfl) (by decide) rfl (fun ls hl => ?_)
            refine lv_goto (tgt := 4) hx hb d_HR_isPatternRow_39 (by decide) ?_
            exact ih (i + 1) xi2 sm _ (by omega) (by omega) (by rw [exi2, exi]; exact nI_1 i) (hsm.imp (fun q => ⟨q.1, by obtain ⟨j, hj, hz⟩ := q.2; exact ⟨j, by omega, hz⟩⟩) (fun q => ⟨q.1, lt_s q.2 h15⟩)) (lt_s hmid (fun _ => Or.inr hil)) (lv_sub hl [1, 2, 3, 0] rfl)
          · have hil : ¬ i + 1 = n := fun q => h31 (by rw [exi]; exact nI_le (by omega) (by omega))
            have hi0 : ¬ i = 0 := fun q => h24 (by rw [exi, q]; exact Int32.le_refl _)
            exact kf i hlt h15 hi0 hil ls ⟨sm, (lv_sub hl [0, 1, 2] rfl)⟩
      · refine lv_iconst (v := 1) hx hb d_HR_isPatternRow_18 (by decide) ?_
        refine lv_istore_n (lv' := [(2, .int 1), (0, .ref r), (1, .int (nI n)), (3, .int xi)]) hx hb d_HR_isPatternRow_19 rfl hl (by decide) rfl (fun ls hl => ?_)
        refine lv_goto (tgt := 36) hx hb d_HR_isPatternRow_20 (by decide) ?_
        obtain ⟨xi2, exi2⟩ : ∃ y : Int32, y = xi + 1 := ⟨_, rfl⟩
        refine lv_iinc (v := xi2) (lv' := [(3, .int xi2), (2, .int 1), (0, .ref r), (1, .int (nI n))]) hx hb d_HR_isPatternRow_36 hl (k := 3) rfl (by rw [exi2]; rfl) (by decide) rfl (fun ls hl => ?_)
        refine lv_goto (tgt := 4) hx hb d_HR_isPatternRow_39 (by decide) ?_
        exact ih (i + 1) xi2 1 _ (by omega) (by omega) (by rw [exi2, exi]; exact nI_1 i) (Or.inl ⟨rfl, i, by omega, h15⟩) (lt_s hmid (fun q => absurd q h15)) (lv_sub hl [2, 3, 1, 0] rfl)

set_option maxHeartbeats 4000000 in
set_option maxRecDepth 100000 in
/-- isPatternRow(n) -/
theorem c_HR_isPatternRow (l : Launch) (G : ev_G) (w : wd_M) (sz : Nat) (r : Nat) (B E : Nat → Nat) (F : Nat → Nat → Int32) (tot mn wn pn : Int32) (n : Nat) (hc : hr_c G w r B F tot mn wn pn) (hn : n ≤ 12) : ct_i l y_HR_isPatternRow b_HR_isPatternRow 4 (some FieldType.boolean) (rm_ 0 0 0) G w sz [.ref r, .int (nI n)] (fun v u => bl_ v ((∃ j, j < n ∧ ¬ F 3 j = 0) ∧ ∀ j, j < n → F 3 j = 0 → j = 0 ∨ j + 1 = n) ∧ u = w) := by
  refine ct_enter (by decide +kernel) (Nat.le_of_ble_eq_true rfl) ?_
  intro p_ e_ s m below meth c_ hsz S hr hlocks hname hE hW ls hl
  have S : CallFix p_ m c_ b_HR_isPatternRow 4 s _ lw_good "HyphenRows" := S
  have hx := S.1
  have hb := S.2.1
  have hK := hE.1
  have hl : lv_has ls 4 [(0, .ref r), (1, .int (nI n))] := hl
  obtain ⟨hr0, a3, a4, a5, a6, a7, a8⟩ := id hc
  refine lv_iconst (v := 0) hx hb d_HR_isPatternRow_0 (by decide) ?_
  refine lv_istore_n (lv' := [(2, .int 0), (0, .ref r), (1, .int (nI n))]) hx hb d_HR_isPatternRow_1 rfl hl (by decide) rfl (fun ls hl => ?_)
  refine lv_iconst (v := 0) hx hb d_HR_isPatternRow_2 (by decide) ?_
  refine lv_istore_n (lv' := [(3, .int 0), (2, .int 0), (0, .ref r), (1, .int (nI n))]) hx hb d_HR_isPatternRow_3 rfl hl (by decide) rfl (fun ls hl => ?_)
  refine lo_HR_isPatternRow S hE hW hc hn (fun sm hsm hmid ls hl => ?_) (fun i hi h0 h1 h2 ls hl => ?_) (n + 1) 0 0 0 _ (by omega) (Nat.zero_le n) nI_0.symm (Or.inr ⟨rfl, lt_0⟩) lt_0 (lv_sub hl [2, 3, 1, 0] rfl)
  · refine lv_iload_n hx hb d_HR_isPatternRow_42 rfl (lv_at hl 2 rfl) ?_
    exact ct_iret S hr (by rcases hsm with q | q <;> rw [q.1] <;> rfl) hlocks hW (⟨hsm.imp (fun q => ⟨q.1, q.2, hmid⟩) (fun q => ⟨q.1, fun z => by obtain ⟨⟨j, hj, hz⟩, -⟩ := z; exact hz (q.2 j hj)⟩), rfl⟩) (Nat.le_refl _) (Nat.le_refl _) d_HR_isPatternRow_43
  · obtain ⟨sm, hl⟩ := hl
    refine lv_iconst (v := 0) hx hb d_HR_isPatternRow_34 (by decide) ?_
    exact ct_iret S hr rfl hlocks hW (⟨Or.inr ⟨rfl, fun q => (q.2 i hi h0).elim h1 h2⟩, rfl⟩) (Nat.le_refl _) (Nat.le_refl _) d_HR_isPatternRow_35

theorem lt_inv {α : Type} {xs : List α} {i : Nat} {p : α} {P : α → Prop} (h : ∀ (k : Nat) (q : α), k < i → xs[k]? = some q → ¬ P q) (hp : xs[i]? = some p) (hn : ¬ P p) : ∀ (k : Nat) (q : α), k < i + 1 → xs[k]? = some q → ¬ P q := by
  intro k q hk hq
  by_cases hki : k = i
  · rw [hki, hp] at hq
    cases hq
    exact hn
  · exact h k q (by omega) hq

set_option maxHeartbeats 4000000 in
set_option maxRecDepth 100000 in
/-- the loop of patternWithMadeRow -/
theorem lo_HR_patternWithMadeRow {p_ : Program} {l : Launch} {e_ : Env} {s : State} {m : MethodId} {args : Array Value} {below : List Frame} {meth : Method} {c_ : Code} {Q : State → Prop} {G : ev_G} {A : Nat → Prop} (S : CallFix p_ m c_ b_HR_patternWithMadeRow 5 s args lw_good "HyphenRows") (hE : ev_K G A s s.heap) {w : wd_M} {r n lx : Nat} {B E : Nat → Nat} {F : Nat → Nat → Int32} {tot mn wn pn : Int32} {tg : Nat → Nat} {pa : List Nat} {Ps : List hy_P} {ml : List Int32} (hc : hr_c G w r B F tot mn wn pn) (halP : al_ G w (B 1) (E 1) pa) (hpa : pa_ G w tg pa Ps) (hwf : ∀ p ∈ Ps, p.1 < 4 ∧ 1 ≤ p.2.1.length ∧ p.2.1.length ≤ 12) (hPs : Ps.length ≤ 150) (hml : li_ ml (F 3)) (hmn : ml.length = n) (hn : n ≤ 12) (hlx : lx < 4) (kn : (∀ (k : Nat) (p : hy_P), Ps[k]? = some p → ¬ (p.1 = lx ∧ p.2.1 = ml)) → ∀ (H : Heap) (locs : List Loc), wd_W G.1 ev_cl A w s.heap H locs → ∀ ls : Array Slot, lv_has ls 5 [(0, .ref r), (1, .int (nI lx)), (2, .int (nI n))] → W p_ l e_ (rm_ 3 0 0) s m args below meth c_ H locs 0 0 Q (F0 m 69 ls [])) (kh : ∀ (i : Nat) (p : hy_P), i < pa.length → Ps[i]? = some p → (p.1 = lx ∧ p.2.1 = ml) → (∀ (k : Nat) (p : hy_P), k < i → Ps[k]? = some p → ¬ (p.1 = lx ∧ p.2.1 = ml)) → ∀ xi : Int32, xi = nI i → ∀ (H : Heap) (locs : List Loc), wd_W G.1 ev_cl A w s.heap H locs → ∀ ls : Array Slot, lv_has ls 5 [(0, .ref r), (1, .int (nI lx)), (2, .int (nI n)), (3, .int xi)] → W p_ l e_ (rm_ 3 0 0) s m args below meth c_ H locs 0 0 Q (F0 m 61 ls [])) :
    ∀ (fu : Nat) (i : Nat) (xi : Int32) (H : Heap) (locs : List Loc) (ls : Array Slot), pa.length < i + fu → i ≤ pa.length → xi = nI i → (∀ (k : Nat) (p : hy_P), k < i → Ps[k]? = some p → ¬ (p.1 = lx ∧ p.2.1 = ml)) → wd_W G.1 ev_cl A w s.heap H locs → lv_has ls 5 [(0, .ref r), (1, .int (nI lx)), (2, .int (nI n)), (3, .int xi)] → W p_ l e_ (rm_ 3 0 0) s m args below meth c_ H locs 0 0 Q (F0 m 2 ls []) := by
  have hx := S.1
  have hb := S.2.1
  have hK := hE.1
  intro fu
  induction fu with
  | zero =>
    intro i xi H locs ls hfu hi exi hinv hW hl
    exact absurd hfu (by omega)
  | succ fu ih =>
    intro i xi H locs ls hfu hi exi hinv hW hl
    obtain ⟨hr0, a3, a4, a5, a6, a7, a8⟩ := id hc
    obtain ⟨mo1, haP, he1⟩ := id halP
    have hpl := hpa.1
    refine lv_iload_n hx hb d_HR_patternWithMadeRow_2 rfl (lv_at hl 3 rfl) ?_
    refine lv_aload_n hx hb d_HR_patternWithMadeRow_3 rfl (lv_at hl 0 rfl) ?_
    refine wd_get S i_HR hK hW hr0 rfl 1 (by decide) k_HR_16 rfl rfl d_HR_patternWithMadeRow_4 ?_
    refine ct_goi hW (ct_runV (As := []) (rest := [.int xi]) (q := (R_AL, F_AL, 3)) S hE hW (c_AL_size l G _ _ (B 1) (E 1) (nI pa.length) mo1 haP) haP rfl kc_AL_size kz_AL k_HR_54 ki_AL_size kv_AL_size kd_AL_size ⟨Nat.le_of_ble_eq_true rfl, Nat.le_of_ble_eq_true rfl⟩ hl.1 (Nat.le_of_ble_eq_true rfl) d_HR_patternWithMadeRow_7 ⟨Nat.le_of_ble_eq_true rfl, Nat.le_of_ble_eq_true rfl⟩) (fun v_3 u_1 H locs hp_2 hW => ?_)
    obtain ⟨hv, hu_4⟩ := hp_2
    rw [hu_4] at hW
    rw [hv]
    refine lv_icmp_ge (tgt := 69) hx hb d_HR_patternWithMadeRow_10 (by decide) (fun h10 => ?_) (fun h10 => ?_)
    · exact kn (fun k p hk => hinv k p (by have hkl := (List.getElem?_eq_some_iff.mp hk).1; rw [exi] at h10; have := (nI_leI (by omega) (by omega)).mp h10; omega) hk) _ _ hW ls (lv_sub hl [0, 1, 2] rfl)
    · have hlt : i < pa.length := by rw [exi] at h10; exact Nat.lt_of_not_le (fun q => h10 (nI_le q (by omega)))
      obtain ⟨p, hpi⟩ : ∃ p, Ps[i]? = some p := ⟨_, List.getElem?_eq_getElem (by omega)⟩
      have hpm := hwf p (List.mem_of_getElem? hpi)
      obtain ⟨a, b, d, f, g, e1, ⟨p1, p2, p3, p4, p5⟩, -⟩ := hpa.2 i p hpi
      refine lv_aload_n hx hb d_HR_patternWithMadeRow_13 rfl (lv_at hl 0 rfl) ?_
      refine wd_get S i_HR hK hW hr0 rfl 1 (by decide) k_HR_16 rfl rfl d_HR_patternWithMadeRow_14 ?_
      refine lv_iload_n hx hb d_HR_patternWithMadeRow_17 rfl (lv_at hl 3 rfl) ?_
      rw [exi]
      refine ct_goq hW (ct_runV (As := [.int (nI i)]) (rest := []) (q := (R_AL, F_AL, 3)) S hE hW (c_AL_get l G _ _ (B 1) (E 1) pa i halP hlt) haP rfl kc_AL_get kz_AL k_HR_75 ki_AL_get kv_AL_get kd_AL_get ⟨Nat.le_of_ble_eq_true rfl, Nat.le_of_ble_eq_true rfl⟩ hl.1 (Nat.le_of_ble_eq_true rfl) d_HR_patternWithMadeRow_18 ⟨Nat.le_of_ble_eq_true rfl, Nat.le_of_ble_eq_true rfl⟩) (fun v_7 u_5 H locs hp_6 hW => ?_)
      obtain ⟨hv2, hu_8⟩ := hp_6
      rw [hu_8] at hW
      rw [hv2, e1]
      refine W.eq (g2 := F0 m 21 ls [.ref a]) rfl ?_
      refine wd_cast S (T := F_Pa) (N := 3) k_HR_109 hK hW p1 rfl d_HR_patternWithMadeRow_21 ?_
      refine lv_astore (lv' := [(4, .ref a), (0, .ref r), (1, .int (nI lx)), (2, .int (nI n)), (3, .int xi)]) hx hb d_HR_patternWithMadeRow_24 hl (by decide) rfl (fun ls hl => ?_)
      refine lv_aload hx hb d_HR_patternWithMadeRow_26 (lv_at hl 0 rfl) ?_
      refine wd_get S i_Pa hK hW p1 rfl 0 (by decide) k_HR_155 rfl rfl d_HR_patternWithMadeRow_28 ?_
      refine lv_iload_n hx hb d_HR_patternWithMadeRow_31 rfl (lv_at hl 2 rfl) ?_
      refine lv_icmp_ne (tgt := 63) hx hb d_HR_patternWithMadeRow_32 (by decide) (fun h32 => ?_) (fun h32 => ?_)
      · obtain ⟨xi2, exi2⟩ : ∃ y : Int32, y = xi + 1 := ⟨_, rfl⟩
        refine lv_iinc (v := xi2) (lv' := [(3, .int xi2), (4, .ref a), (0, .ref r), (1, .int (nI lx)), (2, .int (nI n))]) hx hb d_HR_patternWithMadeRow_63 hl (k := 4) rfl (by rw [exi2]; rfl) (by decide) rfl (fun ls hl => ?_)
        have hno : ¬ (p.1 = lx ∧ p.2.1 = ml) := fun q => h32 (by rw [q.1])
        refine lv_goto (tgt := 2) hx hb d_HR_patternWithMadeRow_66 (by decide) ?_
        exact ih (i + 1) xi2 _ _ _ (by omega) hlt (by rw [exi2, exi]; exact nI_1 i) (lt_inv hinv hpi hno) hW (lv_sub hl [2, 3, 4, 0] rfl)
      · have hla : p.1 = lx := (nI_eq (by omega) (by omega)).mp h32
        refine lv_aload hx hb d_HR_patternWithMadeRow_35 (lv_at hl 0 rfl) ?_
        refine wd_get S i_Pa hK hW p1 rfl 1 (by decide) k_HR_158 rfl rfl d_HR_patternWithMadeRow_37 ?_
        refine wd_alen S hK hW 0 p2 rfl d_HR_patternWithMadeRow_40 ?_
        refine lv_iload_n hx hb d_HR_patternWithMadeRow_41 rfl (lv_at hl 3 rfl) ?_
        refine lv_icmp_ne (tgt := 63) hx hb d_HR_patternWithMadeRow_42 (by decide) (fun h42 => ?_) (fun h42 => ?_)
        · obtain ⟨xi2, exi2⟩ : ∃ y : Int32, y = xi + 1 := ⟨_, rfl⟩
          refine lv_iinc (v := xi2) (lv' := [(3, .int xi2), (4, .ref a), (0, .ref r), (1, .int (nI lx)), (2, .int (nI n))]) hx hb d_HR_patternWithMadeRow_63 hl (k := 4) rfl (by rw [exi2]; rfl) (by decide) rfl (fun ls hl => ?_)
          have hno : ¬ (p.1 = lx ∧ p.2.1 = ml) := fun q => h42 (by rw [q.2, hmn])
          refine lv_goto (tgt := 2) hx hb d_HR_patternWithMadeRow_66 (by decide) ?_
          exact ih (i + 1) xi2 _ _ _ (by omega) hlt (by rw [exi2, exi]; exact nI_1 i) (lt_inv hinv hpi hno) hW (lv_sub hl [2, 3, 4, 0] rfl)
        · have hsz2 : p.2.1.length = n := (nI_eq (by omega) (by omega)).mp h42
          refine lv_aload hx hb d_HR_patternWithMadeRow_45 (lv_at hl 0 rfl) ?_
          refine wd_get S i_Pa hK hW p1 rfl 1 (by decide) k_HR_158 rfl rfl d_HR_patternWithMadeRow_47 ?_
          refine lv_aload_n hx hb d_HR_patternWithMadeRow_50 rfl (lv_at hl 1 rfl) ?_
          refine wd_get S i_HR hK hW hr0 rfl 4 (by decide) k_HR_26 rfl rfl d_HR_patternWithMadeRow_51 ?_
          refine lv_iconst (v := 0) hx hb d_HR_patternWithMadeRow_54 (by decide) ?_
          refine ct_goi hW (ct_runS (As := [.ref b, .ref (B 3), .int 0]) (rest := []) S hE hW (c_HR_standsAt l G _ _ b (B 3) p.2.1.length 12 0 f (F 3) p2 a3 (by omega) (by omega) (by omega)) kc_HR_standsAt kz_HR k_HR_161 ks_HR_standsAt kd_HR_standsAt ⟨Nat.le_of_ble_eq_true rfl, Nat.le_of_ble_eq_true rfl⟩ hl.1 (Nat.le_of_ble_eq_true rfl) d_HR_patternWithMadeRow_55 ⟨Nat.le_of_ble_eq_true rfl, Nat.le_of_ble_eq_true rfl⟩) (fun v_11 u_9 H locs hp_10 hW => ?_)
          obtain ⟨hv3, hu_12⟩ := hp_10
          rw [hu_12] at hW
          refine lv_if_eq (tgt := 63) hx hb d_HR_patternWithMadeRow_58 (by decide) (fun h58 => ?_) (fun h58 => ?_)
          · obtain ⟨xi2, exi2⟩ : ∃ y : Int32, y = xi + 1 := ⟨_, rfl⟩
            refine lv_iinc (v := xi2) (lv' := [(3, .int xi2), (4, .ref a), (0, .ref r), (1, .int (nI lx)), (2, .int (nI n))]) hx hb d_HR_patternWithMadeRow_63 hl (k := 4) rfl (by rw [exi2]; rfl) (by decide) rfl (fun ls hl => ?_)
            have hno : ¬ (p.1 = lx ∧ p.2.1 = ml) := fun q => bl_f hv3 h58 ⟨by omega, fun j hj => by rw [Nat.zero_add, li_get hml (by rw [← q.2]; exact hj), ← q.2]; exact (li_get p4 hj).symm⟩
            refine lv_goto (tgt := 2) hx hb d_HR_patternWithMadeRow_66 (by decide) ?_
            exact ih (i + 1) xi2 _ _ _ (by omega) hlt (by rw [exi2, exi]; exact nI_1 i) (lt_inv hinv hpi hno) hW (lv_sub hl [2, 3, 4, 0] rfl)
          · have hall := bl_t hv3 h58
            have hml2 : p.2.1 = ml := li_one p4 hml (by omega) (fun j hj => by rw [← hall.2 j hj, Nat.zero_add])
            exact kh i p hlt hpi ⟨hla, hml2⟩ (fun k q hk hq => hinv k q hk hq) xi exi _ _ hW ls (lv_sub hl [1, 2, 3, 4] rfl)

set_option maxHeartbeats 4000000 in
set_option maxRecDepth 100000 in
/-- patternWithMadeRow(lx, n) -/
theorem c_HR_patternWithMadeRow (l : Launch) (G : ev_G) (w : wd_M) (sz : Nat) (r : Nat) (B E : Nat → Nat) (F : Nat → Nat → Int32) (tot mn wn pn : Int32) (n lx : Nat) (tg : Nat → Nat) (pa : List Nat) (Ps : List hy_P) (ml : List Int32) (hc : hr_c G w r B F tot mn wn pn) (halP : al_ G w (B 1) (E 1) pa) (hpa : pa_ G w tg pa Ps) (hwf : ∀ p ∈ Ps, p.1 < 4 ∧ 1 ≤ p.2.1.length ∧ p.2.1.length ≤ 12) (hPs : Ps.length ≤ 150) (hml : li_ ml (F 3)) (hmn : ml.length = n) (hn : n ≤ 12) (hlx : lx < 4) : ct_i l y_HR_patternWithMadeRow b_HR_patternWithMadeRow 5 (some FieldType.int) (rm_ 3 0 0) G w sz [.ref r, .int (nI lx), .int (nI n)] (fun v u => fm_ Ps (fun p => p.1 = lx ∧ p.2.1 = ml) v ∧ u = w) := by
  refine ct_enter (by decide +kernel) (Nat.le_of_ble_eq_true rfl) ?_
  intro p_ e_ s m below meth c_ hsz S hr hlocks hname hE hW ls hl
  have S : CallFix p_ m c_ b_HR_patternWithMadeRow 5 s _ lw_good "HyphenRows" := S
  have hx := S.1
  have hb := S.2.1
  have hK := hE.1
  have hl : lv_has ls 5 [(0, .ref r), (1, .int (nI lx)), (2, .int (nI n))] := hl
  refine lv_iconst (v := 0) hx hb d_HR_patternWithMadeRow_0 (by decide) ?_
  refine lv_istore_n (lv' := [(3, .int 0), (0, .ref r), (1, .int (nI lx)), (2, .int (nI n))]) hx hb d_HR_patternWithMadeRow_1 rfl hl (by decide) rfl (fun ls hl => ?_)
  refine lo_HR_patternWithMadeRow S hE hc halP hpa hwf hPs hml hmn hn hlx (fun hnone H locs hW ls hl => ?_) (fun i p hi hpi hm hinv xi exi H locs hW ls hl => ?_) (pa.length + 1) 0 0 _ _ _ (by omega) (Nat.zero_le _) nI_0.symm (fun k p hk => absurd hk (Nat.not_lt_zero k)) hW (lv_sub hl [1, 2, 3, 0] rfl)
  · refine lv_iconst (v := -1) hx hb d_HR_patternWithMadeRow_69 (by decide) ?_
    exact ct_iret S hr rfl hlocks hW (⟨Or.inl ⟨rfl, hnone⟩, rfl⟩) (Nat.le_refl _) (Nat.le_refl _) d_HR_patternWithMadeRow_70
  · refine lv_iload_n hx hb d_HR_patternWithMadeRow_61 rfl (lv_at hl 3 rfl) ?_
    exact ct_iret S hr rfl hlocks hW (⟨Or.inr ⟨i, p, exi, hpi, hm, hinv⟩, rfl⟩) (Nat.le_refl _) (Nat.le_refl _) d_HR_patternWithMadeRow_62

set_option maxHeartbeats 4000000 in
set_option maxRecDepth 100000 in
/-- the loop of exceptionWithWordsLetters -/
theorem lo_HR_exceptionWithWordsLetters {p_ : Program} {l : Launch} {e_ : Env} {s : State} {m : MethodId} {args : Array Value} {below : List Frame} {meth : Method} {c_ : Code} {Q : State → Prop} {G : ev_G} {A : Nat → Prop} (S : CallFix p_ m c_ b_HR_exceptionWithWordsLetters 4 s args lw_good "HyphenRows") (hE : ev_K G A s s.heap) {w : wd_M} {r lx : Nat} {B E : Nat → Nat} {F : Nat → Nat → Int32} {tot mn pn : Int32} {tg : Nat → Nat} {ta : List Nat} {Ts : List hy_T} {lt : List Int32} (hc : hr_c G w r B F tot mn (nI lt.length) pn) (halT : al_ G w (B 2) (E 2) ta) (hta : ta_ G w tg ta Ts) (hwf : ∀ t ∈ Ts, t.1 < 4 ∧ t.2.1.length ≤ 30) (hTs : Ts.length ≤ 40) (hrl : li_ lt (fun j => F 6 (j + 1))) (hlt30 : lt.length ≤ 30) (hlx : lx < 4) (kn : (∀ (k : Nat) (p : hy_T), Ts[k]? = some p → ¬ hy_tm lx lt p) → ∀ (H : Heap) (locs : List Loc), wd_W G.1 ev_cl A w s.heap H locs → ∀ ls : Array Slot, lv_has ls 4 [(0, .ref r), (1, .int (nI lx))] → W p_ l e_ (rm_ 3 0 0) s m args below meth c_ H locs 0 0 Q (F0 m 68 ls [])) (kh : ∀ (i : Nat) (p : hy_T), i < ta.length → Ts[i]? = some p → hy_tm lx lt p → (∀ (k : Nat) (p : hy_T), k < i → Ts[k]? = some p → ¬ hy_tm lx lt p) → ∀ xi : Int32, xi = nI i → ∀ (H : Heap) (locs : List Loc), wd_W G.1 ev_cl A w s.heap H locs → ∀ ls : Array Slot, lv_has ls 4 [(0, .ref r), (1, .int (nI lx)), (2, .int xi)] → W p_ l e_ (rm_ 3 0 0) s m args below meth c_ H locs 0 0 Q (F0 m 60 ls [])) :
    ∀ (fu : Nat) (i : Nat) (xi : Int32) (H : Heap) (locs : List Loc) (ls : Array Slot), ta.length < i + fu → i ≤ ta.length → xi = nI i → (∀ (k : Nat) (p : hy_T), k < i → Ts[k]? = some p → ¬ hy_tm lx lt p) → wd_W G.1 ev_cl A w s.heap H locs → lv_has ls 4 [(0, .ref r), (1, .int (nI lx)), (2, .int xi)] → W p_ l e_ (rm_ 3 0 0) s m args below meth c_ H locs 0 0 Q (F0 m 2 ls []) := by
  have hx := S.1
  have hb := S.2.1
  have hK := hE.1
  intro fu
  induction fu with
  | zero =>
    intro i xi H locs ls hfu hi exi hinv hW hl
    exact absurd hfu (by omega)
  | succ fu ih =>
    intro i xi H locs ls hfu hi exi hinv hW hl
    obtain ⟨hr0, a3, a4, a5, a6, a7, a8⟩ := id hc
    obtain ⟨mo2, haT, he2⟩ := id halT
    have hpl := hta.1
    refine lv_iload_n hx hb d_HR_exceptionWithWordsLetters_2 rfl (lv_at hl 2 rfl) ?_
    refine lv_aload_n hx hb d_HR_exceptionWithWordsLetters_3 rfl (lv_at hl 0 rfl) ?_
    refine wd_get S i_HR hK hW hr0 rfl 2 (by decide) k_HR_19 rfl rfl d_HR_exceptionWithWordsLetters_4 ?_
    refine ct_goi hW (ct_runV (As := []) (rest := [.int xi]) (q := (R_AL, F_AL, 3)) S hE hW (c_AL_size l G _ _ (B 2) (E 2) (nI ta.length) mo2 haT) haT rfl kc_AL_size kz_AL k_HR_54 ki_AL_size kv_AL_size kd_AL_size ⟨Nat.le_of_ble_eq_true rfl, Nat.le_of_ble_eq_true rfl⟩ hl.1 (Nat.le_of_ble_eq_true rfl) d_HR_exceptionWithWordsLetters_7 ⟨Nat.le_of_ble_eq_true rfl, Nat.le_of_ble_eq_true rfl⟩) (fun v_3 u_1 H locs hp_2 hW => ?_)
    obtain ⟨hv, hu_4⟩ := hp_2
    rw [hu_4] at hW
    rw [hv]
    refine lv_icmp_ge (tgt := 68) hx hb d_HR_exceptionWithWordsLetters_10 (by decide) (fun h10 => ?_) (fun h10 => ?_)
    · exact kn (fun k p hk => hinv k p (by have hkl := (List.getElem?_eq_some_iff.mp hk).1; rw [exi] at h10; have := (nI_leI (by omega) (by omega)).mp h10; omega) hk) _ _ hW ls (lv_sub hl [0, 1] rfl)
    · have hlt : i < ta.length := by rw [exi] at h10; exact Nat.lt_of_not_le (fun q => h10 (nI_le q (by omega)))
      obtain ⟨p, hpi⟩ : ∃ p, Ts[i]? = some p := ⟨_, List.getElem?_eq_getElem (by omega)⟩
      have hpm := hwf p (List.mem_of_getElem? hpi)
      obtain ⟨a, b, f, e1, ⟨p1, p2, p4⟩, -⟩ := hta.2.2 i p hpi
      refine lv_aload_n hx hb d_HR_exceptionWithWordsLetters_13 rfl (lv_at hl 0 rfl) ?_
      refine wd_get S i_HR hK hW hr0 rfl 2 (by decide) k_HR_19 rfl rfl d_HR_exceptionWithWordsLetters_14 ?_
      refine lv_iload_n hx hb d_HR_exceptionWithWordsLetters_17 rfl (lv_at hl 2 rfl) ?_
      rw [exi]
      refine ct_goq hW (ct_runV (As := [.int (nI i)]) (rest := []) (q := (R_AL, F_AL, 3)) S hE hW (c_AL_get l G _ _ (B 2) (E 2) ta i halT hlt) haT rfl kc_AL_get kz_AL k_HR_75 ki_AL_get kv_AL_get kd_AL_get ⟨Nat.le_of_ble_eq_true rfl, Nat.le_of_ble_eq_true rfl⟩ hl.1 (Nat.le_of_ble_eq_true rfl) d_HR_exceptionWithWordsLetters_18 ⟨Nat.le_of_ble_eq_true rfl, Nat.le_of_ble_eq_true rfl⟩) (fun v_7 u_5 H locs hp_6 hW => ?_)
      obtain ⟨hv2, hu_8⟩ := hp_6
      rw [hu_8] at hW
      rw [hv2, e1]
      refine W.eq (g2 := F0 m 21 ls [.ref a]) rfl ?_
      refine wd_cast S (T := F_To) (N := 3) k_HR_131 hK hW p1 rfl d_HR_exceptionWithWordsLetters_21 ?_
      refine lv_astore_n (lv' := [(3, .ref a), (0, .ref r), (1, .int (nI lx)), (2, .int xi)]) hx hb d_HR_exceptionWithWordsLetters_24 rfl hl (by decide) rfl (fun ls hl => ?_)
      refine lv_aload_n hx hb d_HR_exceptionWithWordsLetters_25 rfl (lv_at hl 0 rfl) ?_
      refine wd_get S i_To hK hW p1 rfl 0 (by decide) k_HR_172 rfl rfl d_HR_exceptionWithWordsLetters_26 ?_
      refine lv_iload_n hx hb d_HR_exceptionWithWordsLetters_29 rfl (lv_at hl 2 rfl) ?_
      refine lv_icmp_ne (tgt := 62) hx hb d_HR_exceptionWithWordsLetters_30 (by decide) (fun h30 => ?_) (fun h30 => ?_)
      · obtain ⟨xi2, exi2⟩ : ∃ y : Int32, y = xi + 1 := ⟨_, rfl⟩
        refine lv_iinc (v := xi2) (lv' := [(2, .int xi2), (3, .ref a), (0, .ref r), (1, .int (nI lx))]) hx hb d_HR_exceptionWithWordsLetters_62 hl (k := 3) rfl (by rw [exi2]; rfl) (by decide) rfl (fun ls hl => ?_)
        have hno : ¬ hy_tm lx lt p := fun q => h30 (by rw [q.1])
        refine lv_goto (tgt := 2) hx hb d_HR_exceptionWithWordsLetters_65 (by decide) ?_
        exact ih (i + 1) xi2 _ _ _ (by omega) hlt (by rw [exi2, exi]; exact nI_1 i) (lt_inv hinv hpi hno) hW (lv_sub hl [2, 3, 0] rfl)
      · have hla : p.1 = lx := (nI_eq (by omega) (by omega)).mp h30
        refine lv_aload_n hx hb d_HR_exceptionWithWordsLetters_33 rfl (lv_at hl 0 rfl) ?_
        refine wd_get S i_To hK hW p1 rfl 1 (by decide) k_HR_173 rfl rfl d_HR_exceptionWithWordsLetters_34 ?_
        refine wd_alen S hK hW 0 p2 rfl d_HR_exceptionWithWordsLetters_37 ?_
        refine lv_aload_n hx hb d_HR_exceptionWithWordsLetters_38 rfl (lv_at hl 1 rfl) ?_
        refine wd_get S i_HR hK hW hr0 rfl 8 (by decide) k_HR_39 rfl rfl d_HR_exceptionWithWordsLetters_39 ?_
        refine lv_icmp_ne (tgt := 62) hx hb d_HR_exceptionWithWordsLetters_42 (by decide) (fun h42 => ?_) (fun h42 => ?_)
        · obtain ⟨xi2, exi2⟩ : ∃ y : Int32, y = xi + 1 := ⟨_, rfl⟩
          refine lv_iinc (v := xi2) (lv' := [(2, .int xi2), (3, .ref a), (0, .ref r), (1, .int (nI lx))]) hx hb d_HR_exceptionWithWordsLetters_62 hl (k := 3) rfl (by rw [exi2]; rfl) (by decide) rfl (fun ls hl => ?_)
          have hno : ¬ hy_tm lx lt p := fun q => h42 (by rw [q.2])
          refine lv_goto (tgt := 2) hx hb d_HR_exceptionWithWordsLetters_65 (by decide) ?_
          exact ih (i + 1) xi2 _ _ _ (by omega) hlt (by rw [exi2, exi]; exact nI_1 i) (lt_inv hinv hpi hno) hW (lv_sub hl [2, 3, 0] rfl)
        · have hsz2 : p.2.1.length = lt.length := (nI_eq (by omega) (by omega)).mp h42
          refine lv_aload_n hx hb d_HR_exceptionWithWordsLetters_45 rfl (lv_at hl 0 rfl) ?_
          refine wd_get S i_To hK hW p1 rfl 1 (by decide) k_HR_173 rfl rfl d_HR_exceptionWithWordsLetters_46 ?_
          refine lv_aload_n hx hb d_HR_exceptionWithWordsLetters_49 rfl (lv_at hl 1 rfl) ?_
          refine wd_get S i_HR hK hW hr0 rfl 9 (by decide) k_HR_42 rfl rfl d_HR_exceptionWithWordsLetters_50 ?_
          refine lv_iconst (v := 1) hx hb d_HR_exceptionWithWordsLetters_53 (by decide) ?_
          refine ct_goi hW (ct_runS (As := [.ref b, .ref (B 6), .int 1]) (rest := []) S hE hW (c_HR_standsAt l G _ _ b (B 6) p.2.1.length 32 1 f (F 6) p2 a6 (by omega) (by omega) (by omega)) kc_HR_standsAt kz_HR k_HR_161 ks_HR_standsAt kd_HR_standsAt ⟨Nat.le_of_ble_eq_true rfl, Nat.le_of_ble_eq_true rfl⟩ hl.1 (Nat.le_of_ble_eq_true rfl) d_HR_exceptionWithWordsLetters_54 ⟨Nat.le_of_ble_eq_true rfl, Nat.le_of_ble_eq_true rfl⟩) (fun v_11 u_9 H locs hp_10 hW => ?_)
          obtain ⟨hv3, hu_12⟩ := hp_10
          rw [hu_12] at hW
          refine lv_if_eq (tgt := 62) hx hb d_HR_exceptionWithWordsLetters_57 (by decide) (fun h57 => ?_) (fun h57 => ?_)
          · obtain ⟨xi2, exi2⟩ : ∃ y : Int32, y = xi + 1 := ⟨_, rfl⟩
            refine lv_iinc (v := xi2) (lv' := [(2, .int xi2), (3, .ref a), (0, .ref r), (1, .int (nI lx))]) hx hb d_HR_exceptionWithWordsLetters_62 hl (k := 3) rfl (by rw [exi2]; rfl) (by decide) rfl (fun ls hl => ?_)
            have hno : ¬ hy_tm lx lt p := fun q => bl_f hv3 h57 ⟨by omega, fun j hj => by have h9 := li_get hrl (i := j) (by rw [← q.2]; exact hj); rw [Nat.add_comm 1 j]; exact h9.trans (by rw [← q.2]; exact (li_get p4 hj).symm)⟩
            refine lv_goto (tgt := 2) hx hb d_HR_exceptionWithWordsLetters_65 (by decide) ?_
            exact ih (i + 1) xi2 _ _ _ (by omega) hlt (by rw [exi2, exi]; exact nI_1 i) (lt_inv hinv hpi hno) hW (lv_sub hl [2, 3, 0] rfl)
          · have hall := bl_t hv3 h57
            have hml2 : p.2.1 = lt := li_one p4 hrl hsz2 (fun j hj => by rw [← hall.2 j hj, Nat.add_comm])
            exact kh i p hlt hpi ⟨hla, hml2⟩ (fun k q hk hq => hinv k q hk hq) xi exi _ _ hW ls (lv_sub hl [1, 2, 3] rfl)

set_option maxHeartbeats 4000000 in
set_option maxRecDepth 100000 in
/-- exceptionWithWordsLetters(lx): the letters lt stand in the row -/
theorem c_HR_exceptionWithWordsLetters (l : Launch) (G : ev_G) (w : wd_M) (sz : Nat) (r : Nat) (B E : Nat → Nat) (F : Nat → Nat → Int32) (tot mn pn : Int32) (lx : Nat) (tg : Nat → Nat) (ta : List Nat) (Ts : List hy_T) (lt : List Int32) (hc : hr_c G w r B F tot mn (nI lt.length) pn) (halT : al_ G w (B 2) (E 2) ta) (hta : ta_ G w tg ta Ts) (hwf : ∀ t ∈ Ts, t.1 < 4 ∧ t.2.1.length ≤ 30) (hTs : Ts.length ≤ 40) (hrl : li_ lt (fun j => F 6 (j + 1))) (hlt30 : lt.length ≤ 30) (hlx : lx < 4) : ct_i l y_HR_exceptionWithWordsLetters b_HR_exceptionWithWordsLetters 4 (some FieldType.int) (rm_ 3 0 0) G w sz [.ref r, .int (nI lx)] (fun v u => fm_ Ts (hy_tm lx lt) v ∧ u = w) := by
  refine ct_enter (by decide +kernel) (Nat.le_of_ble_eq_true rfl) ?_
  intro p_ e_ s m below meth c_ hsz S hr hlocks hname hE hW ls hl
  have S : CallFix p_ m c_ b_HR_exceptionWithWordsLetters 4 s _ lw_good "HyphenRows" := S
  have hx := S.1
  have hb := S.2.1
  have hK := hE.1
  have hl : lv_has ls 4 [(0, .ref r), (1, .int (nI lx))] := hl
  refine lv_iconst (v := 0) hx hb d_HR_exceptionWithWordsLetters_0 (by decide) ?_
  refine lv_istore_n (lv' := [(2, .int 0), (0, .ref r), (1, .int (nI lx))]) hx hb d_HR_exceptionWithWordsLetters_1 rfl hl (by decide) rfl (fun ls hl => ?_)
  refine lo_HR_exceptionWithWordsLetters S hE hc halT hta hwf hTs hrl hlt30 hlx (fun hnone H locs hW ls hl => ?_) (fun i p hi hpi hm hinv xi exi H locs hW ls hl => ?_) (ta.length + 1) 0 0 _ _ _ (by omega) (Nat.zero_le _) nI_0.symm (fun k p hk => absurd hk (Nat.not_lt_zero k)) hW (lv_sub hl [1, 2, 0] rfl)
  · refine lv_iconst (v := -1) hx hb d_HR_exceptionWithWordsLetters_68 (by decide) ?_
    exact ct_iret S hr rfl hlocks hW (⟨Or.inl ⟨rfl, hnone⟩, rfl⟩) (Nat.le_refl _) (Nat.le_refl _) d_HR_exceptionWithWordsLetters_69
  · refine lv_iload_n hx hb d_HR_exceptionWithWordsLetters_60 rfl (lv_at hl 2 rfl) ?_
    exact ct_iret S hr rfl hlocks hW (⟨Or.inr ⟨i, p, exi, hpi, hm, hinv⟩, rfl⟩) (Nat.le_refl _) (Nat.le_refl _) d_HR_exceptionWithWordsLetters_61
