/-! THE CLASS: the digits of the row. -/

/-- digits raised from st on -/
def rz_ (f d : Nat → Int32) (st n : Nat) : Nat → Int32 := fun j => if st ≤ j ∧ j < st + n then (if f j < d (j - st) then d (j - st) else f j) else f j
theorem rz_0 (f d : Nat → Int32) (st : Nat) : ∀ j, f j = rz_ f d st 0 j := by
  intro j
  unfold rz_
  rw [if_neg (by omega)]
theorem rz_s {f d g : Nat → Int32} {st n : Nat} (h : ∀ j, g j = rz_ f d st n j) : ∀ j, upd g (st + n) (if g (st + n) < d n then d n else g (st + n)) j = rz_ f d st (n + 1) j := by
  intro j
  have hg : g (st + n) = f (st + n) := by rw [h]; unfold rz_; rw [if_neg (by omega)]
  by_cases hj : j = st + n
  · subst hj
    rw [pk_us, hg]
    unfold rz_
    rw [if_pos (show st ≤ st + n ∧ st + n < st + (n + 1) by omega), show st + n - st = n by omega]
  · rw [pk_un hj, h j]
    unfold rz_
    by_cases h1 : st ≤ j ∧ j < st + n
    · rw [if_pos h1, if_pos (show st ≤ j ∧ j < st + (n + 1) by omega)]
    · rw [if_neg h1, if_neg (show ¬ (st ≤ j ∧ j < st + (n + 1)) by omega)]
/-- g is f, raised by one pattern at the starts below n -/
def ly_ (f g : Nat → Int32) (ls ds row : List Int32) (n : Nat) : Prop := ∀ j : Nat, f j ≤ g j ∧ (g j = f j ∨ ∃ st : Nat, st < n ∧ hy_at ls row st ∧ st ≤ j ∧ j ≤ st + ls.length ∧ ds.getD (j - st) 0 = g j) ∧ ∀ st : Nat, st < n → hy_at ls row st → st ≤ j → j ≤ st + ls.length → ds.getD (j - st) 0 ≤ g j
theorem ly_0 (f : Nat → Int32) (ls ds row : List Int32) : ly_ f f ls ds row 0 := fun j => ⟨Int32.le_refl _, Or.inl rfl, fun st h => absurd h (Nat.not_lt_zero st)⟩
theorem ly_no {f g : Nat → Int32} {ls ds row : List Int32} {n : Nat} (h : ly_ f g ls ds row n) (hn : ¬ hy_at ls row n) : ly_ f g ls ds row (n + 1) := by
  intro j
  obtain ⟨h1, h2, h3⟩ := h j
  refine ⟨h1, h2.imp id (fun q => ?_), fun st hst hat => ?_⟩
  · obtain ⟨st, q1, q2⟩ := q
    exact ⟨st, by omega, q2⟩
  · by_cases hs : st = n
    · subst hs
      exact absurd hat hn
    · exact h3 st (by omega) hat
theorem ly_up {f g g2 d : Nat → Int32} {ls ds row : List Int32} {n : Nat} (h : ly_ f g ls ds row n) (hat : hy_at ls row n) (hd : li_ ds d) (hl : ds.length = ls.length + 1) (hg : ∀ j, g2 j = rz_ g d n (ls.length + 1) j) : ly_ f g2 ls ds row (n + 1) := by
  intro j
  obtain ⟨h1, h2, h3⟩ := h j
  rw [hg j]
  unfold rz_
  by_cases hj : n ≤ j ∧ j < n + (ls.length + 1)
  · rw [if_pos hj]
    have hdj : d (j - n) = ds.getD (j - n) 0 := li_get hd (by omega)
    by_cases hc : g j < d (j - n)
    · rw [if_pos hc]
      refine ⟨Int32.le_trans h1 (Int32.le_of_lt hc), Or.inr ⟨n, by omega, hat, hj.1, by omega, hdj.symm⟩, fun st hst ha hs1 hs2 => ?_⟩
      by_cases hs : st = n
      · subst hs
        rw [hdj]
        exact Int32.le_refl _
      · exact Int32.le_trans (h3 st (by omega) ha hs1 hs2) (Int32.le_of_lt hc)
    · rw [if_neg hc]
      refine ⟨h1, h2.imp id (fun q => ?_), fun st hst ha hs1 hs2 => ?_⟩
      · obtain ⟨st, q1, q2⟩ := q
        exact ⟨st, by omega, q2⟩
      · by_cases hs : st = n
        · subst hs
          rw [← hdj]
          exact Int32.not_lt.mp hc
        · exact h3 st (by omega) ha hs1 hs2
  · rw [if_neg hj]
    refine ⟨h1, h2.imp id (fun q => ?_), fun st hst ha hs1 hs2 => ?_⟩
    · obtain ⟨st, q1, q2⟩ := q
      exact ⟨st, by omega, q2⟩
    · by_cases hs : st = n
      · subst hs
        exact absurd ⟨hs1, by omega⟩ hj
      · exact h3 st (by omega) ha hs1 hs2
/-- beyond the last start there is none -/
theorem ly_end {f g : Nat → Int32} {ls ds row : List Int32} {n : Nat} (h : ly_ f g ls ds row n) (hn : row.length < n + ls.length) {n2 : Nat} (hn2 : n ≤ n2) : ly_ f g ls ds row n2 := by
  intro j
  obtain ⟨h1, h2, h3⟩ := h j
  refine ⟨h1, h2.imp id (fun q => ?_), fun st hst ha => h3 st ?_ ha⟩
  · obtain ⟨st, q1, q2⟩ := q
    exact ⟨st, by omega, q2⟩
  · have := ha.1
    omega

theorem bt_inv {g : Nat → Int32} {x b : Int32} {i : Nat} (h : ∀ k, k < i → g (k + 1) = hy_bit x k) (hb : b = hy_bit x i) : ∀ k, k < i + 1 → upd g (i + 1) b (k + 1) = hy_bit x k := by
  intro k hk
  by_cases hki : k = i
  · subst hki
    rw [pk_us]
    exact hb
  · rw [pk_un (by omega)]
    exact h k (by omega)

set_option maxHeartbeats 4000000 in
set_option maxRecDepth 100000 in
/-- the loop of takeToldPlaces -/
theorem lo_HR_takeToldPlaces {p_ : Program} {l : Launch} {e_ : Env} {s : State} {m : MethodId} {args : Array Value} {below : List Frame} {meth : Method} {c_ : Code} {Q : State → Prop} {G : ev_G} {A : Nat → Prop} (S : CallFix p_ m c_ b_HR_takeToldPlaces 3 s args lw_good "HyphenRows") (hE : ev_K G A s s.heap) {w : wd_M} {r wl : Nat} {B : Nat → Nat} {F : Nat → Nat → Int32} {tot mn pn : Int32} {x0 : Int32} (hc : hr_c G w r B F tot mn (nI wl) pn) (hwl : wl ≤ 30) (kk : ∀ (g : Nat → Int32) (w1 : wd_M) (H : Heap) (locs : List Loc), (∀ k, k ≤ wl → g (k + 1) = hy_bit x0 k) → w1 = va_up w (B 7) (some (.inl (G.2.1 0, 33, .inl g))) → wd_W G.1 ev_cl A w1 s.heap H locs → ∀ ls : Array Slot, lv_has ls 3 [(0, .ref r), (1, .int x0)] → W p_ l e_ (rm_ 0 0 0) s m args below meth c_ H locs 0 0 Q (F0 m 29 ls [])) :
    ∀ (fu : Nat) (i : Nat) (xi : Int32) (g : Nat → Int32) (w1 : wd_M) (H : Heap) (locs : List Loc) (ls : Array Slot), wl + 1 < i + fu → i ≤ wl + 1 → xi = nI i → (∀ k, k < i → g (k + 1) = hy_bit x0 k) → w1 = va_up w (B 7) (some (.inl (G.2.1 0, 33, .inl g))) → wd_W G.1 ev_cl A w1 s.heap H locs → lv_has ls 3 [(0, .ref r), (1, .int x0), (2, .int xi)] → W p_ l e_ (rm_ 0 0 0) s m args below meth c_ H locs 0 0 Q (F0 m 2 ls []) := by
  have hx := S.1
  have hb := S.2.1
  have hK := hE.1
  intro fu
  induction fu with
  | zero =>
    intro i xi g w1 H locs ls hfu hi exi hinv ew hW hl
    exact absurd hfu (by omega)
  | succ fu ih =>
    intro i xi g w1 H locs ls hfu hi exi hinv ew hW hl
    obtain ⟨hr0, a3, a4, a5, a6, a7, a8⟩ := id hc
    have a0 := a7
    have hr0 := wd_keep ew (wd_ne hr0 a0 (by simp)) hr0
    have a7 := wd_here ew
    refine lv_iload_n hx hb d_HR_takeToldPlaces_2 rfl (lv_at hl 2 rfl) ?_
    refine lv_aload_n hx hb d_HR_takeToldPlaces_3 rfl (lv_at hl 0 rfl) ?_
    refine wd_get S i_HR hK hW hr0 rfl 8 (by decide) k_HR_39 rfl rfl d_HR_takeToldPlaces_4 ?_
    refine lv_icmp_gt (tgt := 29) hx hb d_HR_takeToldPlaces_7 (by decide) (fun h7 => ?_) (fun h7 => ?_)
    · exact kk g w1 H locs (fun k hk => hinv k (by have h9 : ¬ i ≤ wl := fun q => Int32.not_lt.mpr (nI_le q (by omega)) (by rw [exi] at h7; exact h7); omega)) ew hW ls (lv_sub hl [0, 1] rfl)
    · have hlt : i ≤ wl := by rw [exi] at h7; exact (nI_leI (by omega) (by omega)).mp (Int32.not_lt.mp h7)
      refine lv_aload_n hx hb d_HR_takeToldPlaces_10 rfl (lv_at hl 0 rfl) ?_
      refine wd_get S i_HR hK hW hr0 rfl 10 (by decide) k_HR_45 rfl rfl d_HR_takeToldPlaces_11 ?_
      refine lv_iload_n hx hb d_HR_takeToldPlaces_14 rfl (lv_at hl 2 rfl) ?_
      refine lv_iconst (v := 1) hx hb d_HR_takeToldPlaces_15 (by decide) ?_
      refine lv_iadd hx hb d_HR_takeToldPlaces_16 ?_
      refine lv_iload_n hx hb d_HR_takeToldPlaces_17 rfl (lv_at hl 1 rfl) ?_
      refine lv_iload_n hx hb d_HR_takeToldPlaces_18 rfl (lv_at hl 2 rfl) ?_
      refine lv_iushr hx hb d_HR_takeToldPlaces_19 rfl ?_
      refine lv_iconst (v := 1) hx hb d_HR_takeToldPlaces_20 (by decide) ?_
      refine lv_iand hx hb d_HR_takeToldPlaces_21 ?_
      refine lv_topi (fun bt ebt => ?_)
      rw [show xi + 1 = nI (i + 1) from by rw [exi]; exact nI_1 i]
      refine wd_iast S hK hW 0 a7 rfl (vp_in_nI (by omega) (by omega)) d_HR_takeToldPlaces_22 (fun H locs w_1 ew_1 hW => ?_)
      have hr0 := wd_keep ew_1 (wd_ne hr0 a7 (by simp)) hr0
      have a7 : w_1 (B 7) = some (.inl (G.2.1 0, 33, .inl (upd g ((nI (i + 1)) : Int32).toNatClampNeg bt))) := wd_here ew_1
      obtain ⟨xi2, exi2⟩ : ∃ y : Int32, y = xi + 1 := ⟨_, rfl⟩
      refine lv_iinc (v := xi2) (lv' := [(2, .int xi2), (0, .ref r), (1, .int x0)]) hx hb d_HR_takeToldPlaces_23 hl (k := 2) rfl (by rw [exi2]; rfl) (by decide) rfl (fun ls hl => ?_)
      refine lv_goto (tgt := 2) hx hb d_HR_takeToldPlaces_26 (by decide) ?_
      exact ih (i + 1) xi2 (upd g (nI (i + 1)).toNatClampNeg bt) _ _ _ _ (by omega) (by omega) (by rw [exi2, exi]; exact nI_1 i) (by rw [nI_clamp (by omega)]; exact bt_inv hinv (by rw [ebt, exi]; rfl)) (by rw [ew_1, ew]; exact bx_uu _ _ _ _) hW (lv_sub hl [1, 2, 0] rfl)

set_option maxHeartbeats 4000000 in
set_option maxRecDepth 100000 in
/-- takeToldPlaces(x) -/
theorem c_HR_takeToldPlaces (l : Launch) (G : ev_G) (w : wd_M) (sz : Nat) (r wl : Nat) (B : Nat → Nat) (F : Nat → Nat → Int32) (tot mn pn : Int32) (x0 : Int32) (hc : hr_c G w r B F tot mn (nI wl) pn) (hwl : wl ≤ 30) : ct_v l y_HR_takeToldPlaces b_HR_takeToldPlaces 3 none (rm_ 0 0 0) G w sz [.ref r, .int x0] (fun u => ∃ g : Nat → Int32, u = va_up w (B 7) (some (.inl (G.2.1 0, 33, .inl g))) ∧ ∀ k, k ≤ wl → g (k + 1) = hy_bit x0 k) := by
  refine ct_enter (by decide +kernel) (Nat.le_of_ble_eq_true rfl) ?_
  intro p_ e_ s m below meth c_ hsz S hr hlocks hname hE hW ls hl
  have S : CallFix p_ m c_ b_HR_takeToldPlaces 3 s _ lw_good "HyphenRows" := S
  have hx := S.1
  have hb := S.2.1
  have hK := hE.1
  have hl : lv_has ls 3 [(0, .ref r), (1, .int x0)] := hl
  obtain ⟨hr0, a3, a4, a5, a6, a7, a8⟩ := id hc
  refine lv_iconst (v := 0) hx hb d_HR_takeToldPlaces_0 (by decide) ?_
  refine lv_istore_n (lv' := [(2, .int 0), (0, .ref r), (1, .int x0)]) hx hb d_HR_takeToldPlaces_1 rfl hl (by decide) rfl (fun ls hl => ?_)
  refine lo_HR_takeToldPlaces S hE hc hwl (fun g w1 H locs hinv ew hW ls hl => ?_) (wl + 2) 0 0 (F 7) w _ _ _ (by omega) (by omega) nI_0.symm lt_0 (up_id a7) hW (lv_sub hl [1, 2, 0] rfl)
  exact ct_vret S hr hlocks hW (⟨g, ew, hinv⟩) (Nat.le_refl _) (Nat.le_refl _) d_HR_takeToldPlaces_29

set_option maxHeartbeats 4000000 in
set_option maxRecDepth 100000 in
/-- the loop of raiseDigits -/
theorem lo_HR_raiseDigits {p_ : Program} {l : Launch} {e_ : Env} {s : State} {m : MethodId} {args : Array Value} {below : List Frame} {meth : Method} {c_ : Code} {Q : State → Prop} {G : ev_G} {A : Nat → Prop} (S : CallFix p_ m c_ b_HR_raiseDigits 4 s args lw_good "HyphenRows") (hE : ev_K G A s s.heap) {w : wd_M} {r d st nd : Nat} {B : Nat → Nat} {F : Nat → Nat → Int32} {fd : Nat → Int32} {tot mn wn pn : Int32} (hc : hr_c G w r B F tot mn wn pn) (hd : w d = some (.inl (G.2.1 0, nd, .inl fd))) (hst : st + nd ≤ 33) (hnd : nd ≤ 13) (kk : ∀ (g : Nat → Int32) (w1 : wd_M) (H : Heap) (locs : List Loc), (∀ j, g j = rz_ (F 7) fd st nd j) → w1 = va_up w (B 7) (some (.inl (G.2.1 0, 33, .inl g))) → wd_W G.1 ev_cl A w1 s.heap H locs → ∀ ls : Array Slot, lv_has ls 4 [(0, .ref r)] → W p_ l e_ (rm_ 1 0 0) s m args below meth c_ H locs 0 0 Q (F0 m 36 ls [])) :
    ∀ (fu : Nat) (i : Nat) (xi : Int32) (g : Nat → Int32) (w1 : wd_M) (H : Heap) (locs : List Loc) (ls : Array Slot), nd < i + fu → i ≤ nd → xi = nI i → (∀ j, g j = rz_ (F 7) fd st i j) → w1 = va_up w (B 7) (some (.inl (G.2.1 0, 33, .inl g))) → wd_W G.1 ev_cl A w1 s.heap H locs → lv_has ls 4 [(0, .ref r), (1, .ref d), (2, .int (nI st)), (3, .int xi)] → W p_ l e_ (rm_ 1 0 0) s m args below meth c_ H locs 0 0 Q (F0 m 2 ls []) := by
  have hx := S.1
  have hb := S.2.1
  have hK := hE.1
  intro fu
  induction fu with
  | zero =>
    intro i xi g w1 H locs ls hfu hi exi hinv ew hW hl
    exact absurd hfu (by omega)
  | succ fu ih =>
    intro i xi g w1 H locs ls hfu hi exi hinv ew hW hl
    obtain ⟨hr0, a3, a4, a5, a6, a7, a8⟩ := id hc
    have a0 := a7
    have hr0 := wd_keep ew (wd_ne hr0 a0 (by simp)) hr0
    have hd := wd_keep ew (wd_neA hd a0 (by omega)) hd
    have a7 := wd_here ew
    refine lv_iload_n hx hb d_HR_raiseDigits_2 rfl (lv_at hl 3 rfl) ?_
    refine lv_aload_n hx hb d_HR_raiseDigits_3 rfl (lv_at hl 1 rfl) ?_
    refine wd_alen S hK hW 0 hd rfl d_HR_raiseDigits_4 ?_
    refine lv_icmp_ge (tgt := 36) hx hb d_HR_raiseDigits_5 (by decide) (fun h5 => ?_) (fun h5 => ?_)
    · exact kk g w1 H locs (by rw [exi] at h5; have := (nI_leI (by omega) (by omega)).mp h5; rw [show i = nd by omega] at hinv; exact hinv) ew hW ls (lv_sub hl [0] rfl)
    · have hlt : i < nd := by rw [exi] at h5; exact Nat.lt_of_not_le (fun q => h5 (nI_le q (by omega)))
      have hin : vp_in xi nd := by rw [exi]; exact vp_in_nI hlt (by omega)
      have hcl : xi.toNatClampNeg = i := by rw [exi]; exact nI_clamp (by omega)
      have hsi : nI st + xi = nI (st + i) := by rw [exi]; exact nI_add st i
      refine lv_aload_n hx hb d_HR_raiseDigits_8 rfl (lv_at hl 0 rfl) ?_
      refine wd_get S i_HR hK hW hr0 rfl 10 (by decide) k_HR_45 rfl rfl d_HR_raiseDigits_9 ?_
      refine lv_iload_n hx hb d_HR_raiseDigits_12 rfl (lv_at hl 2 rfl) ?_
      refine lv_iload_n hx hb d_HR_raiseDigits_13 rfl (lv_at hl 3 rfl) ?_
      refine lv_iadd hx hb d_HR_raiseDigits_14 ?_
      refine lv_aload_n hx hb d_HR_raiseDigits_15 rfl (lv_at hl 0 rfl) ?_
      refine wd_get S i_HR hK hW hr0 rfl 10 (by decide) k_HR_45 rfl rfl d_HR_raiseDigits_16 ?_
      refine lv_iload_n hx hb d_HR_raiseDigits_19 rfl (lv_at hl 2 rfl) ?_
      refine lv_iload_n hx hb d_HR_raiseDigits_20 rfl (lv_at hl 3 rfl) ?_
      refine lv_iadd hx hb d_HR_raiseDigits_21 ?_
      rw [hsi]
      refine wd_iald S hK hW 0 a7 rfl (vp_in_nI (by omega) (by omega)) d_HR_raiseDigits_22 ?_
      rw [nI_clamp (n := st + i) (by omega)]
      refine lv_aload_n hx hb d_HR_raiseDigits_23 rfl (lv_at hl 1 rfl) ?_
      refine lv_iload_n hx hb d_HR_raiseDigits_24 rfl (lv_at hl 3 rfl) ?_
      refine wd_iald S hK hW 0 hd rfl hin d_HR_raiseDigits_25 ?_
      rw [hcl]
      refine va_mmax hx hb (S.2.2.1.trans hl.1.symm) S.2.2.2.1 (S.2.2.2.2 _ k_HR_188) (S.2.2.2.2 _ ks_Ma_max) (S.2.2.2.2 _ kz_Ma) (S.2.2.2.2 _ kc_Ma_max) (Nat.le_of_ble_eq_true rfl) (Nat.le_of_ble_eq_true rfl) (Nat.le_of_ble_eq_true rfl) (Nat.le_of_ble_eq_true rfl) d_HR_raiseDigits_26 ?_
      refine lv_topi (fun bt ebt => ?_)
      refine wd_iast S hK hW 0 a7 rfl (vp_in_nI (by omega) (by omega)) d_HR_raiseDigits_29 (fun H locs w_1 ew_1 hW => ?_)
      have hr0 := wd_keep ew_1 (wd_ne hr0 a7 (by simp)) hr0
      have hd := wd_keep ew_1 (wd_neA hd a7 (by omega)) hd
      have a7 : w_1 (B 7) = some (.inl (G.2.1 0, 33, .inl (upd g ((nI (st + i)) : Int32).toNatClampNeg bt))) := wd_here ew_1
      obtain ⟨xi2, exi2⟩ : ∃ y : Int32, y = xi + 1 := ⟨_, rfl⟩
      refine lv_iinc (v := xi2) (lv' := [(3, .int xi2), (0, .ref r), (1, .ref d), (2, .int (nI st))]) hx hb d_HR_raiseDigits_30 hl (k := 3) rfl (by rw [exi2]; rfl) (by decide) rfl (fun ls hl => ?_)
      refine lv_goto (tgt := 2) hx hb d_HR_raiseDigits_33 (by decide) ?_
      exact ih (i + 1) xi2 (upd g (nI (st + i)).toNatClampNeg bt) _ _ _ _ (by omega) hlt (by rw [exi2, exi]; exact nI_1 i) (by rw [nI_clamp (by omega), ebt]; exact rz_s hinv) (by rw [ew_1, ew]; exact bx_uu _ _ _ _) hW (lv_sub hl [1, 2, 3, 0] rfl)

set_option maxHeartbeats 4000000 in
set_option maxRecDepth 100000 in
/-- raiseDigits(d, st) -/
theorem c_HR_raiseDigits (l : Launch) (G : ev_G) (w : wd_M) (sz : Nat) (r d st nd : Nat) (B : Nat → Nat) (F : Nat → Nat → Int32) (fd : Nat → Int32) (tot mn wn pn : Int32) (hc : hr_c G w r B F tot mn wn pn) (hd : w d = some (.inl (G.2.1 0, nd, .inl fd))) (hst : st + nd ≤ 33) (hnd : nd ≤ 13) : ct_v l y_HR_raiseDigits b_HR_raiseDigits 4 none (rm_ 1 0 0) G w sz [.ref r, .ref d, .int (nI st)] (fun u => ∃ g : Nat → Int32, u = va_up w (B 7) (some (.inl (G.2.1 0, 33, .inl g))) ∧ ∀ j, g j = rz_ (F 7) fd st nd j) := by
  refine ct_enter (by decide +kernel) (Nat.le_of_ble_eq_true rfl) ?_
  intro p_ e_ s m below meth c_ hsz S hr hlocks hname hE hW ls hl
  have S : CallFix p_ m c_ b_HR_raiseDigits 4 s _ lw_good "HyphenRows" := S
  have hx := S.1
  have hb := S.2.1
  have hK := hE.1
  have hl : lv_has ls 4 [(0, .ref r), (1, .ref d), (2, .int (nI st))] := hl
  obtain ⟨hr0, a3, a4, a5, a6, a7, a8⟩ := id hc
  refine lv_iconst (v := 0) hx hb d_HR_raiseDigits_0 (by decide) ?_
  refine lv_istore_n (lv' := [(3, .int 0), (0, .ref r), (1, .ref d), (2, .int (nI st))]) hx hb d_HR_raiseDigits_1 rfl hl (by decide) rfl (fun ls hl => ?_)
  refine lo_HR_raiseDigits S hE hc hd hst hnd (fun g w1 H locs hinv ew hW ls hl => ?_) (nd + 1) 0 0 (F 7) w _ _ _ (by omega) (Nat.zero_le _) nI_0.symm (rz_0 _ _ _) (up_id a7) hW (lv_sub hl [1, 2, 3, 0] rfl)
  exact ct_vret S hr hlocks hW (⟨g, ew, hinv⟩) (Nat.le_refl _) (Nat.le_refl _) d_HR_raiseDigits_36

set_option maxHeartbeats 4000000 in
set_option maxRecDepth 100000 in
/-- the loop of layOverRow -/
theorem lo_HR_layOverRow {p_ : Program} {l : Launch} {e_ : Env} {s : State} {m : MethodId} {args : Array Value} {below : List Frame} {meth : Method} {c_ : Code} {Q : State → Prop} {G : ev_G} {A : Nat → Prop} (S : CallFix p_ m c_ b_HR_layOverRow 4 s args lw_good "HyphenRows") (hE : ev_K G A s s.heap) {w : wd_M} {r a b d wl : Nat} {B : Nat → Nat} {F : Nat → Nat → Int32} {f g2 : Nat → Int32} {p : hy_P} {row : List Int32} {x2 tot mn pn : Int32} (hc : hr_c G w r B F tot mn (nI wl) pn) (hp1 : pa_1 G w a b d f g2 p) (hrl : li_ row (F 6)) (hrow : row.length = wl + 2) (hwl : wl ≤ 30) (hpn : 1 ≤ p.2.1.length ∧ p.2.1.length ≤ 12) (hdl : p.2.2.length = p.2.1.length + 1) (ex2 : x2 = nI (wl + 2) - nI p.2.1.length) (kk : ∀ (g : Nat → Int32) (w1 : wd_M) (H : Heap) (locs : List Loc), ly_ (F 7) g p.2.1 p.2.2 row (wl + 3) → w1 = va_up w (B 7) (some (.inl (G.2.1 0, 33, .inl g))) → wd_W G.1 ev_cl A w1 s.heap H locs → ∀ ls : Array Slot, lv_has ls 4 [(0, .ref r), (1, .ref a), (2, .int x2)] → W p_ l e_ (rm_ 2 0 0) s m args below meth c_ H locs 0 0 Q (F0 m 50 ls [])) :
    ∀ (fu : Nat) (i : Nat) (xi : Int32) (g : Nat → Int32) (w1 : wd_M) (H : Heap) (locs : List Loc) (ls : Array Slot), wl + 3 < i + fu → i ≤ wl + 3 → xi = nI i → ly_ (F 7) g p.2.1 p.2.2 row i → w1 = va_up w (B 7) (some (.inl (G.2.1 0, 33, .inl g))) → wd_W G.1 ev_cl A w1 s.heap H locs → lv_has ls 4 [(0, .ref r), (1, .ref a), (2, .int x2), (3, .int xi)] → W p_ l e_ (rm_ 2 0 0) s m args below meth c_ H locs 0 0 Q (F0 m 15 ls []) := by
  have hx := S.1
  have hb := S.2.1
  have hK := hE.1
  have hbnd : ∀ i, i ≤ 100 → (nI i ≤ nI (wl + 2) - nI p.2.1.length ↔ i + p.2.1.length ≤ wl + 2) := fun i hi => by
    rw [Int32.le_iff_toInt_le, nI_toInt (by omega), pk_sub_toInt (by omega) (by omega)]
    omega
  intro fu
  induction fu with
  | zero =>
    intro i xi g w1 H locs ls hfu hi exi hinv ew hW hl
    exact absurd hfu (by omega)
  | succ fu ih =>
    intro i xi g w1 H locs ls hfu hi exi hinv ew hW hl
    obtain ⟨hr0, a3, a4, a5, a6, a7, a8⟩ := id hc
    obtain ⟨p1, p2, p3, p4, p5⟩ := id hp1
    have a0 := a7
    have hr0 := wd_keep ew (wd_ne hr0 a0 (by simp)) hr0
    have a6 := wd_keep ew (wd_ne a6 a0 (by simp)) a6
    have p1 := wd_keep ew (wd_ne p1 a0 (by simp)) p1
    have p2 := wd_keep ew (wd_neA p2 a0 (by omega)) p2
    have p3 := wd_keep ew (wd_neA p3 a0 (by omega)) p3
    have hcg : hr_c G w1 r B (fun k => if k = 7 then g else F k) tot mn (nI wl) pn := ⟨hr0, wd_keep ew (wd_ne a3 a0 (by simp)) a3, wd_keep ew (wd_ne a4 a0 (by simp)) a4, wd_keep ew (wd_ne a5 a0 (by simp)) a5, a6, wd_here ew, wd_keep ew (wd_ne a8 a0 (by simp)) a8⟩
    have a7 := wd_here ew
    refine lv_iload_n hx hb d_HR_layOverRow_15 rfl (lv_at hl 3 rfl) ?_
    refine lv_iload_n hx hb d_HR_layOverRow_16 rfl (lv_at hl 2 rfl) ?_
    refine lv_icmp_gt (tgt := 50) hx hb d_HR_layOverRow_17 (by decide) (fun h17 => ?_) (fun h17 => ?_)
    · exact kk g w1 H locs (ly_end hinv (by rw [hrow]; have h9 : ¬ i + p.2.1.length ≤ wl + 2 := fun q => Int32.not_lt.mpr ((hbnd i (by omega)).mpr q) (by rw [exi, ex2] at h17; exact h17); omega) hi) ew hW ls (lv_sub hl [0, 1, 2] rfl)
    · have hlt : i + p.2.1.length ≤ wl + 2 := (hbnd i (by omega)).mp (by rw [exi, ex2] at h17; exact Int32.not_lt.mp h17)
      refine lv_aload_n hx hb d_HR_layOverRow_20 rfl (lv_at hl 1 rfl) ?_
      refine wd_get S i_Pa hK hW p1 rfl 1 (by decide) k_HR_158 rfl rfl d_HR_layOverRow_21 ?_
      refine lv_aload_n hx hb d_HR_layOverRow_24 rfl (lv_at hl 0 rfl) ?_
      refine wd_get S i_HR hK hW hr0 rfl 9 (by decide) k_HR_42 rfl rfl d_HR_layOverRow_25 ?_
      refine lv_iload_n hx hb d_HR_layOverRow_28 rfl (lv_at hl 3 rfl) ?_
      rw [exi]
      refine ct_goi hW (ct_runS (As := [.ref b, .ref (B 6), .int (nI i)]) (rest := []) S hE hW (c_HR_standsAt l G _ _ b (B 6) p.2.1.length 32 i f (F 6) p2 a6 (by omega) (by omega) (by omega)) kc_HR_standsAt kz_HR k_HR_161 ks_HR_standsAt kd_HR_standsAt ⟨Nat.le_of_ble_eq_true rfl, Nat.le_of_ble_eq_true rfl⟩ hl.1 (Nat.le_of_ble_eq_true rfl) d_HR_layOverRow_29 ⟨Nat.le_of_ble_eq_true rfl, Nat.le_of_ble_eq_true rfl⟩) (fun v_3 u_1 H locs hp_2 hW => ?_)
      obtain ⟨hv3, hu_4⟩ := hp_2
      rw [hu_4] at hW
      have hat : (i + p.2.1.length ≤ 32 ∧ ∀ j, j < p.2.1.length → F 6 (i + j) = f j) ↔ hy_at p.2.1 row i := by
        refine ⟨fun q => ⟨by omega, fun j hj => ?_⟩, fun q => ⟨by omega, fun j hj => ?_⟩⟩
        · rw [← li_get hrl (by omega), q.2 j hj, li_get p4 hj]
        · rw [li_get hrl (by omega), q.2 j hj, li_get p4 hj]
      refine lv_if_eq (tgt := 44) hx hb d_HR_layOverRow_32 (by decide) (fun h32 => ?_) (fun h32 => ?_)
      · obtain ⟨xi2, exi2⟩ : ∃ y : Int32, y = xi + 1 := ⟨_, rfl⟩
        refine lv_iinc (v := xi2) (lv' := [(3, .int xi2), (0, .ref r), (1, .ref a), (2, .int x2)]) hx hb d_HR_layOverRow_44 hl (k := 3) rfl (by rw [exi2]; rfl) (by decide) rfl (fun ls hl => ?_)
        refine lv_goto (tgt := 15) hx hb d_HR_layOverRow_47 (by decide) ?_
        exact ih (i + 1) xi2 g _ _ _ _ (by omega) (by omega) (by rw [exi2, exi]; exact nI_1 i) (ly_no hinv (fun q => bl_f hv3 h32 (hat.mpr q))) ew hW (lv_sub hl [1, 2, 3, 0] rfl)
      · have hya := hat.mp (bl_t hv3 h32)
        refine lv_aload_n hx hb d_HR_layOverRow_35 rfl (lv_at hl 0 rfl) ?_
        refine lv_aload_n hx hb d_HR_layOverRow_36 rfl (lv_at hl 1 rfl) ?_
        refine wd_get S i_Pa hK hW p1 rfl 2 (by decide) k_HR_111 rfl rfl d_HR_layOverRow_37 ?_
        refine lv_iload_n hx hb d_HR_layOverRow_40 rfl (lv_at hl 3 rfl) ?_
        rw [exi]
        refine ct_gov hW (ct_runV (As := [.ref d, .int (nI i)]) (rest := []) (q := (R_HR, F_HR, 13)) S hE hW (c_HR_raiseDigits l G _ _ r d i (p.2.1.length + 1) B (fun k => if k = 7 then g else F k) g2 tot mn (nI wl) pn hcg p3 (by omega) (by omega)) hr0 rfl kc_HR_raiseDigits kz_HR k_HR_185 ki_HR_raiseDigits kv_HR_raiseDigits kd_HR_raiseDigits ⟨Nat.le_of_ble_eq_true rfl, Nat.le_of_ble_eq_true rfl⟩ hl.1 (Nat.le_of_ble_eq_true rfl) d_HR_layOverRow_41 ⟨Nat.le_of_ble_eq_true rfl, Nat.le_of_ble_eq_true rfl⟩) (fun u_5 H locs hp_6 hW => ?_)
        obtain ⟨g3, hu, hg3⟩ := hp_6
        rw [if_pos rfl] at hg3
        have hr0 := wd_keep hu (wd_ne hr0 a7 (by simp)) hr0
        obtain ⟨xi2, exi2⟩ : ∃ y : Int32, y = xi + 1 := ⟨_, rfl⟩
        refine lv_iinc (v := xi2) (lv' := [(3, .int xi2), (0, .ref r), (1, .ref a), (2, .int x2)]) hx hb d_HR_layOverRow_44 hl (k := 3) rfl (by rw [exi2]; rfl) (by decide) rfl (fun ls hl => ?_)
        refine lv_goto (tgt := 15) hx hb d_HR_layOverRow_47 (by decide) ?_
        exact ih (i + 1) xi2 g3 _ _ _ _ (by omega) (by omega) (by rw [exi2, exi]; exact nI_1 i) (ly_up hinv hya p5 hdl hg3) (by rw [hu, ew]; exact bx_uu _ _ _ _) hW (lv_sub hl [1, 2, 3, 0] rfl)

set_option maxHeartbeats 4000000 in
set_option maxRecDepth 100000 in
/-- layOverRow(pattern) -/
theorem c_HR_layOverRow (l : Launch) (G : ev_G) (w : wd_M) (sz : Nat) (r a b d wl : Nat) (B : Nat → Nat) (F : Nat → Nat → Int32) (f g2 : Nat → Int32) (p : hy_P) (row : List Int32) (tot mn pn : Int32) (hc : hr_c G w r B F tot mn (nI wl) pn) (hp1 : pa_1 G w a b d f g2 p) (hrl : li_ row (F 6)) (hrow : row.length = wl + 2) (hwl : wl ≤ 30) (hpn : 1 ≤ p.2.1.length ∧ p.2.1.length ≤ 12) (hdl : p.2.2.length = p.2.1.length + 1) : ct_v l y_HR_layOverRow b_HR_layOverRow 4 none (rm_ 2 0 0) G w sz [.ref r, .ref a] (fun u => ∃ g : Nat → Int32, u = va_up w (B 7) (some (.inl (G.2.1 0, 33, .inl g))) ∧ ly_ (F 7) g p.2.1 p.2.2 row (wl + 3)) := by
  refine ct_enter (by decide +kernel) (Nat.le_of_ble_eq_true rfl) ?_
  intro p_ e_ s m below meth c_ hsz S hr hlocks hname hE hW ls hl
  have S : CallFix p_ m c_ b_HR_layOverRow 4 s _ lw_good "HyphenRows" := S
  have hx := S.1
  have hb := S.2.1
  have hK := hE.1
  have hl : lv_has ls 4 [(0, .ref r), (1, .ref a)] := hl
  obtain ⟨hr0, a3, a4, a5, a6, a7, a8⟩ := id hc
  obtain ⟨p1, p2, p3, p4, p5⟩ := id hp1
  refine lv_aload_n hx hb d_HR_layOverRow_0 rfl (lv_at hl 0 rfl) ?_
  refine wd_get S i_HR hK hW hr0 rfl 8 (by decide) k_HR_39 rfl rfl d_HR_layOverRow_1 ?_
  refine lv_iconst (v := 2) hx hb d_HR_layOverRow_4 (by decide) ?_
  refine lv_iadd hx hb d_HR_layOverRow_5 ?_
  refine lv_aload_n hx hb d_HR_layOverRow_6 rfl (lv_at hl 1 rfl) ?_
  refine wd_get S i_Pa hK hW p1 rfl 1 (by decide) k_HR_158 rfl rfl d_HR_layOverRow_7 ?_
  refine wd_alen S hK hW 0 p2 rfl d_HR_layOverRow_10 ?_
  refine lv_isub hx hb d_HR_layOverRow_11 ?_
  refine lv_topi (fun x2 ex2 => ?_)
  rw [show nI wl + 2 = nI (wl + 2) from nI_add wl 2] at ex2
  refine lv_istore_n (lv' := [(2, .int x2), (0, .ref r), (1, .ref a)]) hx hb d_HR_layOverRow_12 rfl hl (by decide) rfl (fun ls hl => ?_)
  refine lv_iconst (v := 0) hx hb d_HR_layOverRow_13 (by decide) ?_
  refine lv_istore_n (lv' := [(3, .int 0), (2, .int x2), (0, .ref r), (1, .ref a)]) hx hb d_HR_layOverRow_14 rfl hl (by decide) rfl (fun ls hl => ?_)
  refine lo_HR_layOverRow S hE hc hp1 hrl hrow hwl hpn hdl ex2 (fun g w1 H locs hinv ew hW ls hl => ?_) (wl + 4) 0 0 (F 7) w _ _ _ (by omega) (by omega) nI_0.symm (ly_0 _ _ _ _) (up_id a7) hW (lv_sub hl [2, 3, 1, 0] rfl)
  exact ct_vret S hr hlocks hW (⟨g, ew, hinv⟩) (Nat.le_refl _) (Nat.le_refl _) d_HR_layOverRow_50
