/-! THE CLASS: rows that stand in rows. -/

set_option maxHeartbeats 4000000 in
set_option maxRecDepth 100000 in
/-- the loop of standsAt -/
theorem lo_HR_standsAt {p_ : Program} {l : Launch} {e_ : Env} {s : State} {m : MethodId} {args : Array Value} {below : List Frame} {meth : Method} {c_ : Code} {Q : State → Prop} {G : ev_G} {A : Nat → Prop} (S : CallFix p_ m c_ b_HR_standsAt 4 s args lw_good "HyphenRows") (hE : ev_K G A s s.heap) {w : wd_M} {H : Heap} {locs : List Loc} {a b na nb k : Nat} {fa fb : Nat → Int32} (hW : wd_W G.1 ev_cl A w s.heap H locs) (ha : w a = some (.inl (G.2.1 0, na, .inl fa))) (hb2 : w b = some (.inl (G.2.1 0, nb, .inl fb))) (hkn : k + na ≤ nb) (hnb : nb ≤ 1000) (kt : (∀ i, i < na → fb (k + i) = fa i) → ∀ ls : Array Slot, lv_has ls 4 [(0, .ref a), (1, .ref b), (2, .int (nI k))] → W p_ l e_ (rm_ 0 0 0) s m args below meth c_ H locs 0 0 Q (F0 m 42 ls [])) (kf : ∀ i, i < na → ¬ fb (k + i) = fa i → ∀ ls : Array Slot, lv_has ls 4 [(0, .ref a), (1, .ref b), (2, .int (nI k))] → W p_ l e_ (rm_ 0 0 0) s m args below meth c_ H locs 0 0 Q (F0 m 34 ls [])) :
    ∀ (fu : Nat) (i : Nat) (xi : Int32) (ls : Array Slot), na < i + fu → i ≤ na → xi = nI i → (∀ j, j < i → fb (k + j) = fa j) → lv_has ls 4 [(0, .ref a), (1, .ref b), (2, .int (nI k)), (3, .int xi)] → W p_ l e_ (rm_ 0 0 0) s m args below meth c_ H locs 0 0 Q (F0 m 17 ls []) := by
  have hx := S.1
  have hb := S.2.1
  have hK := hE.1
  intro fu
  induction fu with
  | zero =>
    intro i xi ls hfu hi exi hinv hl
    exact absurd hfu (by omega)
  | succ fu ih =>
    intro i xi ls hfu hi exi hinv hl
    refine lv_iload_n hx hb d_HR_standsAt_17 rfl (lv_at hl 3 rfl) ?_
    refine lv_aload_n hx hb d_HR_standsAt_18 rfl (lv_at hl 0 rfl) ?_
    refine wd_alen S hK hW 0 ha rfl d_HR_standsAt_19 ?_
    refine lv_icmp_ge (tgt := 42) hx hb d_HR_standsAt_20 (by decide) (fun h20 => ?_) (fun h20 => ?_)
    · exact kt (fun j hj => hinv j (by rw [exi] at h20; have := (nI_leI (by omega) (by omega)).mp h20; omega)) ls (lv_sub hl [0, 1, 2] rfl)
    · have hlt : i < na := by rw [exi] at h20; exact Nat.lt_of_not_le (fun q => h20 (nI_le q (by omega)))
      refine lv_aload_n hx hb d_HR_standsAt_23 rfl (lv_at hl 1 rfl) ?_
      refine lv_iload_n hx hb d_HR_standsAt_24 rfl (lv_at hl 2 rfl) ?_
      refine lv_iload_n hx hb d_HR_standsAt_25 rfl (lv_at hl 3 rfl) ?_
      refine lv_iadd hx hb d_HR_standsAt_26 ?_
      rw [show nI k + xi = nI (k + i) from by rw [exi]; exact nI_add k i]
      refine wd_iald S hK hW 0 hb2 rfl (vp_in_nI (by omega) (by omega)) d_HR_standsAt_27 ?_
      refine lv_aload_n hx hb d_HR_standsAt_28 rfl (lv_at hl 0 rfl) ?_
      refine lv_iload_n hx hb d_HR_standsAt_29 rfl (lv_at hl 3 rfl) ?_
      have hin : vp_in xi na := by rw [exi]; exact vp_in_nI hlt (by omega)
      refine wd_iald S hK hW 0 ha rfl hin d_HR_standsAt_30 ?_
      rw [nI_clamp (n := k + i) (by omega), show xi.toNatClampNeg = i from by rw [exi]; exact nI_clamp (by omega)]
      refine lv_icmp_eq (tgt := 36) hx hb d_HR_standsAt_31 (by decide) (fun h31 => ?_) (fun h31 => ?_)
      · obtain ⟨xi2, exi2⟩ : ∃ y : Int32, y = xi + 1 := ⟨_, rfl⟩
        refine lv_iinc (v := xi2) (lv' := [(3, .int xi2), (0, .ref a), (1, .ref b), (2, .int (nI k))]) hx hb d_HR_standsAt_36 hl (k := 3) rfl (by rw [exi2]; rfl) (by decide) rfl (fun ls hl => ?_)
        refine lv_goto (tgt := 17) hx hb d_HR_standsAt_39 (by decide) ?_
        exact ih (i + 1) xi2 _ (by omega) (by omega) (by rw [exi2, exi]; exact nI_1 i) (lt_s hinv h31) (lv_sub hl [1, 2, 3, 0] rfl)
      · exact kf i hlt h31 ls (lv_sub hl [0, 1, 2] rfl)

set_option maxHeartbeats 4000000 in
set_option maxRecDepth 100000 in
/-- standsAt(a, b, k): the row a stands in b from k on -/
theorem c_HR_standsAt (l : Launch) (G : ev_G) (w : wd_M) (sz : Nat) (a b na nb k : Nat) (fa fb : Nat → Int32) (ha : w a = some (.inl (G.2.1 0, na, .inl fa))) (hb2 : w b = some (.inl (G.2.1 0, nb, .inl fb))) (hna : na ≤ 1000) (hnb : nb ≤ 1000) (hk : k ≤ 1000) : ct_i l y_HR_standsAt b_HR_standsAt 4 (some FieldType.boolean) (rm_ 0 0 0) G w sz [.ref a, .ref b, .int (nI k)] (fun v u => bl_ v (k + na ≤ nb ∧ ∀ i, i < na → fb (k + i) = fa i) ∧ u = w) := by
  refine ct_enter (by decide +kernel) (Nat.le_of_ble_eq_true rfl) ?_
  intro p_ e_ s m below meth c_ hsz S hr hlocks hname hE hW ls hl
  have S : CallFix p_ m c_ b_HR_standsAt 4 s _ lw_good "HyphenRows" := S
  have hx := S.1
  have hb := S.2.1
  have hK := hE.1
  have hl : lv_has ls 4 [(0, .ref a), (1, .ref b), (2, .int (nI k))] := hl
  have hbnd : nI k ≤ nI nb - nI na ↔ k + na ≤ nb := by
    rw [Int32.le_iff_toInt_le, nI_toInt (by omega), pk_sub_toInt (by omega) (by omega)]
    omega
  refine lv_iload_n hx hb d_HR_standsAt_0 rfl (lv_at hl 2 rfl) ?_
  refine lv_if_lt (tgt := 13) hx hb d_HR_standsAt_1 (by decide) (fun h1 => ?_) (fun h1 => ?_)
  · exact absurd h1 (nI_pos (by omega))
  · refine lv_iload_n hx hb d_HR_standsAt_4 rfl (lv_at hl 2 rfl) ?_
    refine lv_aload_n hx hb d_HR_standsAt_5 rfl (lv_at hl 1 rfl) ?_
    refine wd_alen S hK hW 0 hb2 rfl d_HR_standsAt_6 ?_
    refine lv_aload_n hx hb d_HR_standsAt_7 rfl (lv_at hl 0 rfl) ?_
    refine wd_alen S hK hW 0 ha rfl d_HR_standsAt_8 ?_
    refine lv_isub hx hb d_HR_standsAt_9 ?_
    refine lv_icmp_le (tgt := 15) hx hb d_HR_standsAt_10 (by decide) (fun h10 => ?_) (fun h10 => ?_)
    · have hkn : k + na ≤ nb := hbnd.mp h10
      refine lv_iconst (v := 0) hx hb d_HR_standsAt_15 (by decide) ?_
      refine lv_istore_n (lv' := [(3, .int 0), (0, .ref a), (1, .ref b), (2, .int (nI k))]) hx hb d_HR_standsAt_16 rfl hl (by decide) rfl (fun ls hl => ?_)
      refine lo_HR_standsAt S hE hW ha hb2 hkn hnb (fun hall ls hl => ?_) (fun i hi hne ls hl => ?_) (na + 1) 0 0 _ (by omega) (Nat.zero_le na) nI_0.symm lt_0 (lv_sub hl [1, 2, 3, 0] rfl)
      · refine lv_iconst (v := 1) hx hb d_HR_standsAt_42 (by decide) ?_
        exact ct_iret S hr rfl hlocks hW (⟨Or.inl ⟨rfl, hkn, hall⟩, rfl⟩) (Nat.le_refl _) (Nat.le_refl _) d_HR_standsAt_43
      · refine lv_iconst (v := 0) hx hb d_HR_standsAt_34 (by decide) ?_
        exact ct_iret S hr rfl hlocks hW (⟨Or.inr ⟨rfl, fun q => hne (q.2 i hi)⟩, rfl⟩) (Nat.le_refl _) (Nat.le_refl _) d_HR_standsAt_35
    · refine lv_iconst (v := 0) hx hb d_HR_standsAt_13 (by decide) ?_
      exact ct_iret S hr rfl hlocks hW (⟨Or.inr ⟨rfl, fun q => h10 (hbnd.mpr q.1)⟩, rfl⟩) (Nat.le_refl _) (Nat.le_refl _) d_HR_standsAt_14
