/-! ARRAYLIST GROWS. -/

set_option maxHeartbeats 4000000 in
set_option maxRecDepth 100000 in
/-- newLength(cap, 1, cap >> 1) -/
theorem c_As_newLength (l : Launch) (G : ev_G) (w : wd_M) (sz : Nat) (cap : Nat) (hc : cap ≤ 1000) : ct_i l y_As_newLength b_As_newLength 4 (some FieldType.int) (rm_ 1 0 0) G w sz [.int (nI cap), .int 1, .int (nI cap >>> ((1 : Int32) &&& 31))] (fun v u => v = nI (cap + max 1 (cap / 2)) ∧ u = w) := by
  refine ct_enter (by decide +kernel) (Nat.le_of_ble_eq_true rfl) ?_
  intro p_ e_ s m below meth c_ hsz S hr hlocks hname hE hW ls hl
  have S : CallFix p_ m c_ b_As_newLength 4 s _ lw_good "jdk/internal/util/ArraysSupport" := S
  have hx := S.1
  have hb := S.2.1
  have hK := hE.1
  have hl : lv_has ls 4 [(0, .int (nI cap)), (1, .int 1), (2, .int (nI cap >>> ((1 : Int32) &&& 31)))] := hl
  have hmx : (if (1 : Int32) < nI cap >>> ((1 : Int32) &&& 31) then nI cap >>> ((1 : Int32) &&& 31) else 1) = nI (max 1 (cap / 2)) := by
    rw [pk_shrN (by omega) _ 1 (by decide)]
    split
    · rename_i h
      have h2 : 1 < cap / 2 ^ 1 := (nI_ltI (a := 1) (b := cap / 2 ^ 1) (by omega) (by omega)).mp h
      rw [show max 1 (cap / 2) = cap / 2 ^ 1 by omega]
    · rename_i h
      have h2 : ¬ 1 < cap / 2 ^ 1 := fun q => h ((nI_ltI (a := 1) (b := cap / 2 ^ 1) (by omega) (by omega)).mpr q)
      rw [show max 1 (cap / 2) = 1 by omega]
      rfl
  refine lv_iload_n hx hb d_As_newLength_0 rfl (lv_at hl 0 rfl) ?_
  refine lv_iload_n hx hb d_As_newLength_1 rfl (lv_at hl 1 rfl) ?_
  refine lv_iload_n hx hb d_As_newLength_2 rfl (lv_at hl 2 rfl) ?_
  refine va_mmax hx hb (S.2.2.1.trans hl.1.symm) S.2.2.2.1 (S.2.2.2.2 _ k_As_194) (S.2.2.2.2 _ ks_Ma_max) (S.2.2.2.2 _ kz_Ma) (S.2.2.2.2 _ kc_Ma_max) (Nat.le_of_ble_eq_true rfl) (Nat.le_of_ble_eq_true rfl) (Nat.le_of_ble_eq_true rfl) (Nat.le_of_ble_eq_true rfl) d_As_newLength_3 ?_
  rw [show (if (1 : Int32) < nI cap >>> ((1 : Int32) &&& 31) then nI cap >>> ((1 : Int32) &&& 31) else 1) = nI (max 1 (cap / 2)) from hmx]
  refine lv_iadd hx hb d_As_newLength_6 ?_
  refine lv_topi (fun y3 ey3 => ?_)
  refine lv_istore_n (lv' := [(3, .int y3), (0, .int (nI cap)), (1, .int 1), (2, .int (nI cap >>> ((1 : Int32) &&& 31)))]) hx hb d_As_newLength_7 rfl hl (by decide) rfl (fun ls hl => ?_)
  refine lv_iconst (v := 0) hx hb d_As_newLength_8 (by decide) ?_
  refine lv_iload_n hx hb d_As_newLength_9 rfl (lv_at hl 0 rfl) ?_
  rw [nI_add] at ey3
  refine lv_icmp_ge (tgt := 21) hx hb d_As_newLength_10 (by decide) (fun h10 => ?_) (fun h10 => ?_)
  · exact absurd h10 (by rw [ey3, ← nI_0]; exact nI_ge (by omega) (by omega))
  · refine lv_iload_n hx hb d_As_newLength_13 rfl (lv_at hl 0 rfl) ?_
    refine lv_ldc hx hb S.2.2.2.1 (S.2.2.2.2 _ kk_As_200) d_As_newLength_14 ?_
    refine lv_icmp_gt (tgt := 21) hx hb d_As_newLength_16 (by decide) (fun h16 => ?_) (fun h16 => ?_)
    · exact absurd h16 (by rw [ey3]; exact nI_nlt (a := 2147483639) (b := cap + max 1 (cap / 2)) (by omega) (by decide))
    · refine lv_iload_n hx hb d_As_newLength_19 rfl (lv_at hl 0 rfl) ?_
      exact ct_iret S hr rfl hlocks hW (⟨ey3, rfl⟩) (Nat.le_refl _) (Nat.le_refl _) d_As_newLength_20

set_option maxHeartbeats 4000000 in
set_option maxRecDepth 100000 in
/-- copyOf(objects, k, Object[].class) -/
theorem c_Ar_copyOf3 (l : Launch) (G : ev_G) (w : wd_M) (sz : Nat) (ed cap k : Nat) (f : Nat → Option Nat) (he : w ed = some (.inl (G.2.1 2, cap, .inr (.inr (.inr (.inr f)))))) (hk : cap ≤ k) (hk3 : k ≤ 300) (hob : ∀ i, i < cap → ∀ y, f i = some y → ob_ w y) : ct_q l y_Ar_copyOf3 b_Ar_copyOf3 4 (some (FieldType.array (FieldType.object "java/lang/Object"))) (rm_ 1 1 300) G w sz [.ref ed, .int (nI k), .ref (G.2.2 1)] (fun v u => ∃ (q : Nat) (g : Nat → Option Nat), v = some q ∧ w q = none ∧ u = va_up w q (some (.inl (G.2.1 2, k, .inr (.inr (.inr (.inr g)))))) ∧ ∀ i, i < cap → g i = f i) := by
  refine ct_enter (by decide +kernel) (Nat.le_of_ble_eq_true rfl) ?_
  intro p_ e_ s m below meth c_ hsz S hr hlocks hname hE hW ls hl
  have S : CallFix p_ m c_ b_Ar_copyOf3 4 s _ lw_good "java/util/Arrays" := S
  have hx := S.1
  have hb := S.2.1
  have hK := hE.1
  have hl : lv_has ls 4 [(0, .ref ed), (1, .int (nI k)), (2, .ref (G.2.2 1))] := hl
  refine lv_aload_n hx hb d_Ar_copyOf3_0 rfl (lv_at hl 2 rfl) ?_
  refine va_ldcM hx hb S.2.2.2.1 (S.2.2.2.2 _ k_Ar_110) hE.2.1.2.2.2.2.1 d_Ar_copyOf3_1 ?_
  refine lv_acmp_ne (rx := some (G.2.2 1)) (ry := some (G.2.2 1)) (tgt := 13) hx hb d_Ar_copyOf3_3 (by decide) (fun h3 => absurd rfl h3) (fun _ => ?_)
  refine lv_iload_n hx hb d_Ar_copyOf3_6 rfl (lv_at hl 1 rfl) ?_
  refine wd_newq S k_Ar_2 hE.2.1.2.2.2.1 hK hW 2 rfl (n := (nI k)) (N' := k) (nI_pos (by omega)) (nI_clamp (by omega)) (by omega) (Nat.le_refl _) (by show 0 + k ≤ 300; omega) d_Ar_copyOf3_7 (fun q H hq w_1 ew_1 hW => ?_)
  have he := wd_keep ew_1 (wd_neN he hq) he
  have cq : w_1 q = some (.inl (G.2.1 2, k, .inr (.inr (.inr (.inr (fun _ => none)))))) := wd_here ew_1
  refine W.widen (k := 1) (n := 300) (Nat.le_refl _) (by omega) ?_
  refine lv_goto (tgt := 24) hx hb d_Ar_copyOf3_10 (by decide) ?_
  refine lv_astore_n (lv' := [(3, .ref q), (0, .ref ed), (1, .int (nI k)), (2, .ref (G.2.2 1))]) hx hb d_Ar_copyOf3_24 rfl hl (by decide) rfl (fun ls hl => ?_)
  refine lv_aload_n hx hb d_Ar_copyOf3_25 rfl (lv_at hl 1 rfl) ?_
  refine lv_iconst (v := 0) hx hb d_Ar_copyOf3_26 (by decide) ?_
  refine lv_aload_n hx hb d_Ar_copyOf3_27 rfl (lv_at hl 0 rfl) ?_
  refine lv_iconst (v := 0) hx hb d_Ar_copyOf3_28 (by decide) ?_
  refine lv_aload_n hx hb d_Ar_copyOf3_29 rfl (lv_at hl 1 rfl) ?_
  refine wd_alen S hK hW 2 he rfl d_Ar_copyOf3_30 ?_
  refine lv_iload_n hx hb d_Ar_copyOf3_31 rfl (lv_at hl 2 rfl) ?_
  refine va_mmin hx hb (S.2.2.1.trans hl.1.symm) S.2.2.2.1 (S.2.2.2.2 _ k_Ar_304) (S.2.2.2.2 _ ks_Ma_min) (S.2.2.2.2 _ kz_Ma) (S.2.2.2.2 _ kc_Ma_min) (Nat.le_of_ble_eq_true rfl) (Nat.le_of_ble_eq_true rfl) (Nat.le_of_ble_eq_true rfl) (Nat.le_of_ble_eq_true rfl) d_Ar_copyOf3_32 ?_
  rw [show (if nI k < nI cap then nI k else nI cap) = nI cap from if_neg (nI_nlt hk (by omega))]
  refine wd_copyM S hl.1 k_Ar_150 kn_Sy_arraycopy ks_Sy_arraycopy kz_Sy hK hW 2 he cq rfl (by decide) (by decide) (nI_pos (by omega)) (by rw [nI_clamp (by omega)]; show 0 + cap ≤ cap; omega) (by rw [nI_clamp (by omega)]; show 0 + cap ≤ k; omega) (fun i hi y hy => ?_) (Nat.le_of_ble_eq_true rfl) (Nat.le_of_ble_eq_true rfl) d_Ar_copyOf3_35 (fun H locs w_2 ew_2 hW => ?_)
  · rw [nI_clamp (by omega)] at hi
    have hy : f i = some y := by rw [← hy]; show f i = f (0 + i); rw [Nat.zero_add]
    obtain ⟨ci, fs, r, g1, g2, g3⟩ := ob_cast hE.2.1 (hob i hi y hy)
    exact ⟨ci, fs, r, wd_keep ew_1 (wd_neN g1 hq) g1, g2, g3⟩
  refine lv_aload_n hx hb d_Ar_copyOf3_38 rfl (lv_at hl 0 rfl) ?_
  refine W.eq (g2 := F0 m 39 ls [va_rf (some q)]) rfl ?_
  exact ct_qret S hr (by first | exact Or.inl ⟨_, rfl⟩ | exact Or.inr ⟨_, rfl⟩) hlocks hW (⟨q, va_cpy f (fun _ => none) (Int32.toNatClampNeg 0) (Int32.toNatClampNeg 0) (nI cap).toNatClampNeg, rfl, hq, by rw [ew_2, ew_1]; exact bx_uu _ _ _ _, fun i hi => by rw [nI_clamp (by omega)]; exact (pk_cpy_in (Nat.zero_le _) (by show i < 0 + cap; omega)).trans (by show f (0 + (i - 0)) = f i; rw [Nat.zero_add, Nat.sub_zero])⟩) (Nat.le_refl _) (Nat.le_refl _) d_Ar_copyOf3_39

set_option maxHeartbeats 4000000 in
set_option maxRecDepth 100000 in
/-- copyOf(objects, k) -/
theorem c_Ar_copyOf2 (l : Launch) (G : ev_G) (w : wd_M) (sz : Nat) (ed cap k : Nat) (f : Nat → Option Nat) (he : w ed = some (.inl (G.2.1 2, cap, .inr (.inr (.inr (.inr f)))))) (hk : cap ≤ k) (hk3 : k ≤ 300) (hob : ∀ i, i < cap → ∀ y, f i = some y → ob_ w y) : ct_q l y_Ar_copyOf2 b_Ar_copyOf2 2 (some (FieldType.array (FieldType.object "java/lang/Object"))) (rm_ 2 1 300) G w sz [.ref ed, .int (nI k)] (fun v u => ∃ (q : Nat) (g : Nat → Option Nat), v = some q ∧ w q = none ∧ u = va_up w q (some (.inl (G.2.1 2, k, .inr (.inr (.inr (.inr g)))))) ∧ ∀ i, i < cap → g i = f i) := by
  refine ct_enter (by decide +kernel) (Nat.le_of_ble_eq_true rfl) ?_
  intro p_ e_ s m below meth c_ hsz S hr hlocks hname hE hW ls hl
  have S : CallFix p_ m c_ b_Ar_copyOf2 2 s _ lw_good "java/util/Arrays" := S
  have hx := S.1
  have hb := S.2.1
  have hK := hE.1
  have hl : lv_has ls 2 [(0, .ref ed), (1, .int (nI k))] := hl
  refine lv_aload_n hx hb d_Ar_copyOf2_0 rfl (lv_at hl 0 rfl) ?_
  refine lv_iload_n hx hb d_Ar_copyOf2_1 rfl (lv_at hl 1 rfl) ?_
  refine lv_aload_n hx hb d_Ar_copyOf2_2 rfl (lv_at hl 0 rfl) ?_
  refine va_getC hx hb (S.2.2.1.trans hl.1.symm) (C := "[Ljava/lang/Object;") S.2.2.2.1 (S.2.2.2.2 _ k_Ar_86) (va_Dc.use hE.2.1.2.2.2.2.2) (S.2.2.2.2 _ kv_Oa_Oj_getClass) (S.2.2.2.2 _ ki_Oj_getClass) (S.2.2.2.2 _ kn_Oj_getClass) hE.2.1.2.2.2.2.1 (wd_oarr hE hW he) (Nat.le_of_ble_eq_true rfl) (Nat.le_of_ble_eq_true rfl) d_Ar_copyOf2_3 ?_
  refine ct_goq hW (ct_runS (As := [.ref ed, .int (nI k), .ref (G.2.2 1)]) (rest := []) S hE hW (c_Ar_copyOf3 l G _ _ ed cap k f he hk hk3 hob) kc_Ar_copyOf3 kz_Ar k_Ar_300 ks_Ar_copyOf3 kd_Ar_copyOf3 ⟨Nat.le_of_ble_eq_true rfl, Nat.le_of_ble_eq_true rfl⟩ hl.1 (Nat.le_of_ble_eq_true rfl) d_Ar_copyOf2_6 ⟨Nat.le_of_ble_eq_true rfl, Nat.le_of_ble_eq_true rfl⟩) (fun v_3 u_1 H locs hp_2 hW => ?_)
  exact ct_qret S hr (by first | exact Or.inl ⟨_, rfl⟩ | exact Or.inr ⟨_, rfl⟩) hlocks hW (hp_2) (Nat.le_refl _) (Nat.le_refl _) d_Ar_copyOf2_9

set_option maxHeartbeats 4000000 in
set_option maxRecDepth 100000 in
/-- grow(size + 1), when the array is full -/
theorem c_AL_grow1 (l : Launch) (G : ev_G) (w : wd_M) (sz : Nat) (a ed : Nat) (els : List Nat) (mo : Int32) (ha : w a = some (.inr (4, [.ref ed, .int (nI els.length), .int mo]))) (he : (ed = G.2.2 0 ∧ els = []) ∨ ∃ f : Nat → Option Nat, w ed = some (.inl (G.2.1 2, els.length, .inr (.inr (.inr (.inr f))))) ∧ 0 < els.length ∧ ∀ i, i < els.length → f i = els[i]?) (hlen : els.length < 200) (hob : ∀ y ∈ els, ob_ w y) : ct_q l y_AL_grow1 b_AL_grow1 4 (some (FieldType.array (FieldType.object "java/lang/Object"))) (rm_ 3 1 300) G w sz [.ref a, .int (nI (els.length + 1))] (fun v u => ∃ (q cap2 : Nat) (g : Nat → Option Nat), v = some q ∧ w q = none ∧ els.length < cap2 ∧ cap2 ≤ 300 ∧ (∀ i, i < els.length → g i = els[i]?) ∧ u = va_up (va_up w q (some (.inl (G.2.1 2, cap2, .inr (.inr (.inr (.inr g)))))) ) a (some (.inr (4, [.ref q, .int (nI els.length), .int mo])))) := by
  refine ct_enter (by decide +kernel) (Nat.le_of_ble_eq_true rfl) ?_
  intro p_ e_ s m below meth c_ hsz S hr hlocks hname hE hW ls hl
  have S : CallFix p_ m c_ b_AL_grow1 4 s _ lw_good "java/util/ArrayList" := S
  have hx := S.1
  have hb := S.2.1
  have hK := hE.1
  have hl : lv_has ls 4 [(0, .ref a), (1, .int (nI (els.length + 1)))] := hl
  rcases he with ⟨rfl, rfl⟩ | ⟨f, he, hpos, hf⟩
  · refine lv_aload_n hx hb d_AL_grow1_0 rfl (lv_at hl 0 rfl) ?_
    refine wd_get S i_AL hK hW ha rfl 0 (by decide) k_AL_9 rfl rfl d_AL_grow1_1 ?_
    refine va_tlen hx hb hE.2.2.2.1 hW.2.1 (v := 0) rfl d_AL_grow1_4 ?_
    refine lv_istore_n (lv' := [(2, .int 0), (0, .ref a), (1, .int (nI (([] : List Nat).length + 1)))]) hx hb d_AL_grow1_5 rfl hl (by decide) rfl (fun ls hl => ?_)
    refine lv_iload_n hx hb d_AL_grow1_6 rfl (lv_at hl 0 rfl) ?_
    refine lv_if_gt (tgt := 20) hx hb d_AL_grow1_7 (by decide) (fun h7 => ?_) (fun h7 => ?_)
    · exact absurd h7 (by decide)
    · refine lv_aload_n hx hb d_AL_grow1_10 rfl (lv_at hl 1 rfl) ?_
      refine wd_get S i_AL hK hW ha rfl 0 (by decide) k_AL_9 rfl rfl d_AL_grow1_11 ?_
      refine va_gets hx hb hE.2.2.1 hW.2.1 S.2.2.2.1 (S.2.2.2.2 _ k_AL_39) (fun _ h9 => h9) d_AL_grow1_14 ?_
      refine lv_acmp_eq (rx := some (G.2.2 0)) (ry := some (G.2.2 0)) (tgt := 45) hx hb d_AL_grow1_17 (by decide) (fun _ => ?_) (fun h17 => absurd rfl h17)
      refine lv_aload_n hx hb d_AL_grow1_45 rfl (lv_at hl 1 rfl) ?_
      refine lv_bipush (v := 10) hx hb d_AL_grow1_46 (by decide) ?_
      refine lv_iload_n hx hb d_AL_grow1_48 rfl (lv_at hl 2 rfl) ?_
      refine va_mmax hx hb (S.2.2.1.trans hl.1.symm) S.2.2.2.1 (S.2.2.2.2 _ k_AL_79) (S.2.2.2.2 _ ks_Ma_max) (S.2.2.2.2 _ kz_Ma) (S.2.2.2.2 _ kc_Ma_max) (Nat.le_of_ble_eq_true rfl) (Nat.le_of_ble_eq_true rfl) (Nat.le_of_ble_eq_true rfl) (Nat.le_of_ble_eq_true rfl) d_AL_grow1_49 ?_
      rw [show (if (10 : Int32) < nI (([] : List Nat).length + 1) then nI (([] : List Nat).length + 1) else 10) = 10 from by decide]
      refine wd_newq S k_AL_7 hE.2.1.2.2.2.1 hK hW 2 rfl (n := 10) (N' := 10) (by decide) (by decide) (by decide) (Nat.le_of_ble_eq_true rfl) (Nat.le_of_ble_eq_true rfl) d_AL_grow1_52 (fun q H hq w_1 ew_1 hW => ?_)
      have ha := wd_keep ew_1 (wd_neN ha hq) ha
      have cq : w_1 q = some (.inl (G.2.1 2, 10, .inr (.inr (.inr (.inr (fun _ => none)))))) := wd_here ew_1
      refine lv_dup_x1 hx hb d_AL_grow1_55 rfl rfl ?_
      refine wd_put S i_AL t_AL t_AL_ok n_AL hK hW ha rfl 0 (by decide) k_AL_9 rfl rfl rfl rfl (Nat.le_of_ble_eq_true rfl) d_AL_grow1_56 (fun H locs w_2 ew_2 hW => ?_)
      have cq := wd_keep ew_2 (wd_ne cq ha (by simp)) cq
      have ha : w_2 a = some (.inr (4, [.ref q, .int (nI ([] : List Nat).length), .int mo])) := wd_here ew_2
      refine W.eq (g2 := F0 m 59 ls [va_rf (some q)]) rfl ?_
      exact ct_qret S hr (by first | exact Or.inl ⟨_, rfl⟩ | exact Or.inr ⟨_, rfl⟩) hlocks hW (⟨q, 10, fun _ => none, rfl, hq, by decide, by decide, fun i hi => absurd hi (Nat.not_lt_zero i), by rw [ew_2, ew_1] <;> rfl⟩) (Nat.le_of_ble_eq_true rfl) (Nat.le_of_ble_eq_true rfl) d_AL_grow1_59
  · refine lv_aload_n hx hb d_AL_grow1_0 rfl (lv_at hl 0 rfl) ?_
    refine wd_get S i_AL hK hW ha rfl 0 (by decide) k_AL_9 rfl rfl d_AL_grow1_1 ?_
    refine wd_alen S hK hW 2 he rfl d_AL_grow1_4 ?_
    refine lv_topi (fun x2 ex2 => ?_)
    refine lv_istore_n (lv' := [(2, .int x2), (0, .ref a), (1, .int (nI (els.length + 1)))]) hx hb d_AL_grow1_5 rfl hl (by decide) rfl (fun ls hl => ?_)
    refine lv_iload_n hx hb d_AL_grow1_6 rfl (lv_at hl 0 rfl) ?_
    refine lv_if_gt (tgt := 20) hx hb d_AL_grow1_7 (by decide) (fun h7 => ?_) (fun h7 => ?_)
    · refine lv_iload_n hx hb d_AL_grow1_20 rfl (lv_at hl 0 rfl) ?_
      refine lv_iload_n hx hb d_AL_grow1_21 rfl (lv_at hl 2 rfl) ?_
      refine lv_iload_n hx hb d_AL_grow1_22 rfl (lv_at hl 0 rfl) ?_
      refine lv_isub hx hb d_AL_grow1_23 ?_
      refine lv_iload_n hx hb d_AL_grow1_24 rfl (lv_at hl 0 rfl) ?_
      refine lv_iconst (v := 1) hx hb d_AL_grow1_25 (by decide) ?_
      refine lv_ishr hx hb d_AL_grow1_26 ?_
      rw [show nI (els.length + 1) - x2 = 1 from by rw [ex2, pk_sub (by omega), show els.length + 1 - els.length = 1 by omega]; rfl, ex2]
      refine ct_goi hW (ct_runS (As := [.int (nI els.length), .int 1, .int (nI els.length >>> ((1 : Int32) &&& 31))]) (rest := []) S hE hW (c_As_newLength l G _ _ els.length (by omega)) kc_As_newLength kz_As k_AL_73 ks_As_newLength kd_As_newLength ⟨Nat.le_of_ble_eq_true rfl, Nat.le_of_ble_eq_true rfl⟩ hl.1 (Nat.le_of_ble_eq_true rfl) d_AL_grow1_27 ⟨Nat.le_of_ble_eq_true rfl, Nat.le_of_ble_eq_true rfl⟩) (fun v_5 u_3 H locs hp_4 hW => ?_)
      obtain ⟨hv1, hu_6⟩ := hp_4
      rw [hu_6] at hW
      rw [hv1]
      refine lv_topi (fun x3 ex3 => ?_)
      refine lv_istore_n (lv' := [(3, .int x3), (2, .int x2), (0, .ref a), (1, .int (nI (els.length + 1)))]) hx hb d_AL_grow1_30 rfl hl (by decide) rfl (fun ls hl => ?_)
      refine lv_aload_n hx hb d_AL_grow1_31 rfl (lv_at hl 2 rfl) ?_
      refine lv_aload_n hx hb d_AL_grow1_32 rfl (lv_at hl 2 rfl) ?_
      refine wd_get S i_AL hK hW ha rfl 0 (by decide) k_AL_9 rfl rfl d_AL_grow1_33 ?_
      refine lv_iload_n hx hb d_AL_grow1_36 rfl (lv_at hl 0 rfl) ?_
      rw [ex3]
      refine ct_goq hW (ct_runS (As := [.ref ed, .int (nI (els.length + max 1 (els.length / 2)))]) (rest := [.ref a]) S hE hW (c_Ar_copyOf2 l G _ _ ed els.length (els.length + max 1 (els.length / 2)) f he (by omega) (by omega) (fun i hi y hy => hob y (by rw [hf i hi] at hy; exact List.mem_of_getElem? hy))) kc_Ar_copyOf2 kz_Ar k_AL_66 ks_Ar_copyOf2 kd_Ar_copyOf2 ⟨Nat.le_of_ble_eq_true rfl, Nat.le_of_ble_eq_true rfl⟩ hl.1 (Nat.le_of_ble_eq_true rfl) d_AL_grow1_37 ⟨Nat.le_of_ble_eq_true rfl, Nat.le_of_ble_eq_true rfl⟩) (fun v_9 u_7 H locs hp_8 hW => ?_)
      obtain ⟨q, g, hv, hq, hu, hg⟩ := hp_8
      have ha := wd_keep hu (wd_neN ha hq) ha
      rw [hv]
      refine W.eq (g2 := F0 m 40 ls [.ref q, .ref a]) rfl ?_
      refine lv_dup_x1 hx hb d_AL_grow1_40 rfl rfl ?_
      refine wd_put S i_AL t_AL t_AL_ok n_AL hK hW ha rfl 0 (by decide) k_AL_9 rfl rfl rfl rfl (Nat.le_of_ble_eq_true rfl) d_AL_grow1_41 (fun H locs w_10 ew_10 hW => ?_)
      have ha : w_10 a = some (.inr (4, [.ref q, .int (nI els.length), .int mo])) := wd_here ew_10
      refine W.eq (g2 := F0 m 44 ls [va_rf (some q)]) rfl ?_
      exact ct_qret S hr (by first | exact Or.inl ⟨_, rfl⟩ | exact Or.inr ⟨_, rfl⟩) hlocks hW (⟨q, els.length + max 1 (els.length / 2), g, rfl, hq, by omega, by omega, fun i hi => (hg i hi).trans (hf i hi), by rw [ew_10, hu] <;> rfl⟩) (Nat.le_of_ble_eq_true rfl) (Nat.le_of_ble_eq_true rfl) d_AL_grow1_44
    · exact absurd (by rw [ex2]; exact nI_0 ▸ nI_lt hpos (by omega)) h7

set_option maxHeartbeats 4000000 in
set_option maxRecDepth 100000 in
/-- grow(), when the array is full -/
theorem c_AL_grow0 (l : Launch) (G : ev_G) (w : wd_M) (sz : Nat) (a ed : Nat) (els : List Nat) (mo : Int32) (ha : w a = some (.inr (4, [.ref ed, .int (nI els.length), .int mo]))) (he : (ed = G.2.2 0 ∧ els = []) ∨ ∃ f : Nat → Option Nat, w ed = some (.inl (G.2.1 2, els.length, .inr (.inr (.inr (.inr f))))) ∧ 0 < els.length ∧ ∀ i, i < els.length → f i = els[i]?) (hlen : els.length < 200) (hob : ∀ y ∈ els, ob_ w y) : ct_q l y_AL_grow0 b_AL_grow0 1 (some (FieldType.array (FieldType.object "java/lang/Object"))) (rm_ 4 1 300) G w sz [.ref a] (fun v u => ∃ (q cap2 : Nat) (g : Nat → Option Nat), v = some q ∧ w q = none ∧ els.length < cap2 ∧ cap2 ≤ 300 ∧ (∀ i, i < els.length → g i = els[i]?) ∧ u = va_up (va_up w q (some (.inl (G.2.1 2, cap2, .inr (.inr (.inr (.inr g)))))) ) a (some (.inr (4, [.ref q, .int (nI els.length), .int mo])))) := by
  refine ct_enter (by decide +kernel) (Nat.le_of_ble_eq_true rfl) ?_
  intro p_ e_ s m below meth c_ hsz S hr hlocks hname hE hW ls hl
  have S : CallFix p_ m c_ b_AL_grow0 1 s _ lw_good "java/util/ArrayList" := S
  have hx := S.1
  have hb := S.2.1
  have hK := hE.1
  have hl : lv_has ls 1 [(0, .ref a)] := hl
  refine lv_aload_n hx hb d_AL_grow0_0 rfl (lv_at hl 0 rfl) ?_
  refine lv_aload_n hx hb d_AL_grow0_1 rfl (lv_at hl 0 rfl) ?_
  refine wd_get S i_AL hK hW ha rfl 1 (by decide) k_AL_48 rfl rfl d_AL_grow0_2 ?_
  refine lv_iconst (v := 1) hx hb d_AL_grow0_5 (by decide) ?_
  refine lv_iadd hx hb d_AL_grow0_6 ?_
  rw [nI_1]
  refine ct_goq hW (ct_runV (As := [.int (nI (els.length + 1))]) (rest := []) (q := (R_AL, F_AL, 3)) S hE hW (c_AL_grow1 l G _ _ a ed els mo ha he hlen hob) ha rfl kc_AL_grow1 kz_AL k_AL_69 ki_AL_grow1 kv_AL_grow1 kd_AL_grow1 ⟨Nat.le_of_ble_eq_true rfl, Nat.le_of_ble_eq_true rfl⟩ hl.1 (Nat.le_of_ble_eq_true rfl) d_AL_grow0_7 ⟨Nat.le_of_ble_eq_true rfl, Nat.le_of_ble_eq_true rfl⟩) (fun v_3 u_1 H locs hp_2 hW => ?_)
  exact ct_qret S hr (by first | exact Or.inl ⟨_, rfl⟩ | exact Or.inr ⟨_, rfl⟩) hlocks hW (hp_2) (Nat.le_refl _) (Nat.le_refl _) d_AL_grow0_10

theorem al_put {els : List Nat} {g : Nat → Option Nat} {v : Nat} (hg : ∀ i, i < els.length → g i = els[i]?) : ∀ i, i < els.length + 1 → va_up g els.length (some v) i = (els ++ [v])[i]? := by
  intro i hi
  by_cases h : i = els.length
  · subst h
    rw [va_up_self]
    simp
  · rw [va_up_ne _ _ h, hg i (by omega), List.getElem?_append_left (by omega)]
/-- two writes at a, and at q between them -/
theorem up_4 {α : Type} (w : Nat → α) {a q : Nat} (n : q ≠ a) (x1 y1 x2 y2 : α) : va_up (va_up (va_up (va_up w q x1) a y1) q x2) a y2 = va_up (va_up w q x2) a y2 := by
  funext b
  by_cases h1 : b = a
  · subst h1
    simp [va_up]
  · by_cases h2 : b = q
    · subst h2
      simp [va_up, h1]
    · simp [va_up, h1, h2]

set_option maxHeartbeats 4000000 in
set_option maxRecDepth 100000 in
/-- add(v, elementData, size) -/
theorem c_AL_add3 (l : Launch) (G : ev_G) (w : wd_M) (sz : Nat) (a ed v : Nat) (els : List Nat) (mo : Int32) (ha : w a = some (.inr (4, [.ref ed, .int (nI els.length), .int mo]))) (he : ea_ G w ed els) (hlen : els.length < 200) (hob : ∀ y ∈ els, ob_ w y) (hv : ob_ w v) : ct_v l y_AL_add3 b_AL_add3 4 none (rm_ 5 1 300) G w sz [.ref a, .ref v, .ref ed, .int (nI els.length)] (fun u => ∃ (q cap : Nat) (g : Nat → Option Nat), (q = ed ∨ w q = none) ∧ els.length + 1 ≤ cap ∧ cap ≤ 1000 ∧ (∀ i, i < els.length + 1 → g i = (els ++ [v])[i]?) ∧ u = va_up (va_up w q (some (.inl (G.2.1 2, cap, .inr (.inr (.inr (.inr g)))))) ) a (some (.inr (4, [.ref q, .int (nI (els.length + 1)), .int mo])))) := by
  refine ct_enter (by decide +kernel) (Nat.le_of_ble_eq_true rfl) ?_
  intro p_ e_ s m below meth c_ hsz S hr hlocks hname hE hW ls hl
  have S : CallFix p_ m c_ b_AL_add3 4 s _ lw_good "java/util/ArrayList" := S
  have hx := S.1
  have hb := S.2.1
  have hK := hE.1
  have hl : lv_has ls 4 [(0, .ref a), (1, .ref v), (2, .ref ed), (3, .int (nI els.length))] := hl
  rcases he with ⟨rfl, rfl⟩ | ⟨cap, f, he, h1, h2, h3, hf⟩
  · refine lv_iload_n hx hb d_AL_add3_0 rfl (lv_at hl 3 rfl) ?_
    refine lv_aload_n hx hb d_AL_add3_1 rfl (lv_at hl 2 rfl) ?_
    refine va_tlen hx hb hE.2.2.2.1 hW.2.1 (v := 0) rfl d_AL_add3_2 ?_
    refine lv_icmp_ne (tgt := 11) hx hb d_AL_add3_3 (by decide) (fun h3 => ?_) (fun h3 => ?_)
    · exact absurd rfl h3
    · refine lv_aload_n hx hb d_AL_add3_6 rfl (lv_at hl 0 rfl) ?_
      refine ct_goq hW (ct_runV (As := []) (rest := []) (q := (R_AL, F_AL, 3)) S hE hW (c_AL_grow0 l G _ _ a (G.2.2 0) ([] : List Nat) mo ha (Or.inl ⟨rfl, rfl⟩) hlen hob) ha rfl kc_AL_grow0 kz_AL k_AL_129 ki_AL_grow0 kv_AL_grow0 kd_AL_grow0 ⟨Nat.le_of_ble_eq_true rfl, Nat.le_of_ble_eq_true rfl⟩ hl.1 (Nat.le_of_ble_eq_true rfl) d_AL_add3_7 ⟨Nat.le_of_ble_eq_true rfl, Nat.le_of_ble_eq_true rfl⟩) (fun v_3 u_1 H locs hp_2 hW => ?_)
      obtain ⟨q, cap2, g, hvq, hq, hc1, hc2, hg, hu⟩ := hp_2
      have hqa : q ≠ a := fun h => by rw [h] at hq; rw [hq] at ha; cases ha
      have hv : ob_ u_1 v := by obtain ⟨ci, fs, g1, g2⟩ := hv; refine ⟨ci, fs, ?_, g2⟩; rw [hu, va_up_ne _ _ (fun h => by rw [h] at g1; rw [g1] at ha; cases ha; simp at g2), va_up_ne _ _ (wd_neN g1 hq)]; exact g1
      have hes : u_1 q = some (.inl (G.2.1 2, cap2, .inr (.inr (.inr (.inr g))))) := by rw [hu, va_up_ne _ _ hqa]; exact va_up_self _ _ _
      have ha : u_1 a = some (.inr (4, [.ref q, .int (nI ([] : List Nat).length), .int mo])) := by rw [hu]; exact va_up_self _ _ _
      rw [hvq]
      refine W.eq (g2 := F0 m 10 ls [.ref q]) rfl ?_
      refine lv_astore_n (lv' := [(2, .ref q), (0, .ref a), (1, .ref v), (3, .int (nI ([] : List Nat).length))]) hx hb d_AL_add3_10 rfl hl (by decide) rfl (fun ls hl => ?_)
      refine lv_aload_n hx hb d_AL_add3_11 rfl (lv_at hl 0 rfl) ?_
      refine lv_iload_n hx hb d_AL_add3_12 rfl (lv_at hl 3 rfl) ?_
      refine lv_aload_n hx hb d_AL_add3_13 rfl (lv_at hl 2 rfl) ?_
      obtain ⟨ci, fs, r9, g1, g2, g3⟩ := ob_cast hE.2.1 hv
      refine wd_aast S hK hW 2 ci hes rfl g3 g1 g2 (vp_in_nI (by omega) (by omega)) d_AL_add3_14 (fun H locs w_4 ew_4 hW => ?_)
      have ha := wd_keep ew_4 (wd_ne ha hes (by simp)) ha
      refine lv_aload_n hx hb d_AL_add3_15 rfl (lv_at hl 1 rfl) ?_
      refine lv_iload_n hx hb d_AL_add3_16 rfl (lv_at hl 3 rfl) ?_
      refine lv_iconst (v := 1) hx hb d_AL_add3_17 (by decide) ?_
      refine lv_iadd hx hb d_AL_add3_18 ?_
      refine lv_topi (fun nsz ensz => ?_)
      refine wd_put S i_AL t_AL t_AL_ok n_AL hK hW ha rfl 1 (by decide) k_AL_48 rfl rfl rfl rfl (Nat.le_of_ble_eq_true rfl) d_AL_add3_19 (fun H locs w_5 ew_5 hW => ?_)
      have ha : w_5 a = some (.inr (4, [.ref q, .int nsz, .int mo])) := wd_here ew_5
      exact ct_vret S hr hlocks hW (⟨q, cap2, _, Or.inr hq, by omega, by omega, al_put hg, by rw [ew_5, ensz, ew_4, hu, ← nI_1, show (nI ([] : List Nat).length).toNatClampNeg = ([] : List Nat).length from nI_clamp (by omega)]; exact up_4 w hqa _ _ _ _⟩) (Nat.le_of_ble_eq_true rfl) (Nat.le_of_ble_eq_true rfl) d_AL_add3_22
  · refine lv_iload_n hx hb d_AL_add3_0 rfl (lv_at hl 3 rfl) ?_
    refine lv_aload_n hx hb d_AL_add3_1 rfl (lv_at hl 2 rfl) ?_
    refine wd_alen S hK hW 2 he rfl d_AL_add3_2 ?_
    refine lv_icmp_ne (tgt := 11) hx hb d_AL_add3_3 (by decide) (fun h3x => ?_) (fun h3x => ?_)
    · have hlt : els.length < cap := Nat.lt_of_le_of_ne h1 (fun q => h3x (by rw [q]))
      refine lv_aload_n hx hb d_AL_add3_11 rfl (lv_at hl 2 rfl) ?_
      refine lv_iload_n hx hb d_AL_add3_12 rfl (lv_at hl 3 rfl) ?_
      refine lv_aload_n hx hb d_AL_add3_13 rfl (lv_at hl 1 rfl) ?_
      obtain ⟨ci, fs, r9, g1, g2, g3⟩ := ob_cast hE.2.1 hv
      refine wd_aast S hK hW 2 ci he rfl g3 g1 g2 (vp_in_nI hlt (by omega)) d_AL_add3_14 (fun H locs w_6 ew_6 hW => ?_)
      have ha := wd_keep ew_6 (wd_ne ha he (by simp)) ha
      refine lv_aload_n hx hb d_AL_add3_15 rfl (lv_at hl 0 rfl) ?_
      refine lv_iload_n hx hb d_AL_add3_16 rfl (lv_at hl 3 rfl) ?_
      refine lv_iconst (v := 1) hx hb d_AL_add3_17 (by decide) ?_
      refine lv_iadd hx hb d_AL_add3_18 ?_
      refine lv_topi (fun nsz ensz => ?_)
      refine wd_put S i_AL t_AL t_AL_ok n_AL hK hW ha rfl 1 (by decide) k_AL_48 rfl rfl rfl rfl (Nat.le_of_ble_eq_true rfl) d_AL_add3_19 (fun H locs w_7 ew_7 hW => ?_)
      have ha : w_7 a = some (.inr (4, [.ref ed, .int nsz, .int mo])) := wd_here ew_7
      exact ct_vret S hr hlocks hW (⟨ed, cap, _, Or.inl rfl, by omega, by omega, al_put hf, by rw [ew_7, ensz, ew_6, ← nI_1, show (nI els.length).toNatClampNeg = els.length from nI_clamp (by omega)] <;> rfl⟩) (Nat.le_of_ble_eq_true rfl) (Nat.le_of_ble_eq_true rfl) d_AL_add3_22
    · have hce : els.length = cap := (nI_eq (by omega) (by omega)).mp h3x
      refine lv_aload_n hx hb d_AL_add3_6 rfl (lv_at hl 0 rfl) ?_
      refine ct_goq hW (ct_runV (As := []) (rest := []) (q := (R_AL, F_AL, 3)) S hE hW (c_AL_grow0 l G _ _ a ed els mo ha (Or.inr ⟨f, by rw [hce]; exact he, by omega, hf⟩) hlen hob) ha rfl kc_AL_grow0 kz_AL k_AL_129 ki_AL_grow0 kv_AL_grow0 kd_AL_grow0 ⟨Nat.le_of_ble_eq_true rfl, Nat.le_of_ble_eq_true rfl⟩ hl.1 (Nat.le_of_ble_eq_true rfl) d_AL_add3_7 ⟨Nat.le_of_ble_eq_true rfl, Nat.le_of_ble_eq_true rfl⟩) (fun v_10 u_8 H locs hp_9 hW => ?_)
      obtain ⟨q, cap2, g, hvq, hq, hc1, hc2, hg, hu⟩ := hp_9
      have hqa : q ≠ a := fun h => by rw [h] at hq; rw [hq] at ha; cases ha
      have hv : ob_ u_8 v := by obtain ⟨ci, fs, g1, g2⟩ := hv; refine ⟨ci, fs, ?_, g2⟩; rw [hu, va_up_ne _ _ (fun h => by rw [h] at g1; rw [g1] at ha; cases ha; simp at g2), va_up_ne _ _ (wd_neN g1 hq)]; exact g1
      have hes : u_8 q = some (.inl (G.2.1 2, cap2, .inr (.inr (.inr (.inr g))))) := by rw [hu, va_up_ne _ _ hqa]; exact va_up_self _ _ _
      have ha : u_8 a = some (.inr (4, [.ref q, .int (nI els.length), .int mo])) := by rw [hu]; exact va_up_self _ _ _
      rw [hvq]
      refine W.eq (g2 := F0 m 10 ls [.ref q]) rfl ?_
      refine lv_astore_n (lv' := [(2, .ref q), (0, .ref a), (1, .ref v), (3, .int (nI els.length))]) hx hb d_AL_add3_10 rfl hl (by decide) rfl (fun ls hl => ?_)
      refine lv_aload_n hx hb d_AL_add3_11 rfl (lv_at hl 0 rfl) ?_
      refine lv_iload_n hx hb d_AL_add3_12 rfl (lv_at hl 3 rfl) ?_
      refine lv_aload_n hx hb d_AL_add3_13 rfl (lv_at hl 2 rfl) ?_
      obtain ⟨ci, fs, r9, g1, g2, g3⟩ := ob_cast hE.2.1 hv
      refine wd_aast S hK hW 2 ci hes rfl g3 g1 g2 (vp_in_nI (by omega) (by omega)) d_AL_add3_14 (fun H locs w_11 ew_11 hW => ?_)
      have ha := wd_keep ew_11 (wd_ne ha hes (by simp)) ha
      refine lv_aload_n hx hb d_AL_add3_15 rfl (lv_at hl 1 rfl) ?_
      refine lv_iload_n hx hb d_AL_add3_16 rfl (lv_at hl 3 rfl) ?_
      refine lv_iconst (v := 1) hx hb d_AL_add3_17 (by decide) ?_
      refine lv_iadd hx hb d_AL_add3_18 ?_
      refine lv_topi (fun nsz ensz => ?_)
      refine wd_put S i_AL t_AL t_AL_ok n_AL hK hW ha rfl 1 (by decide) k_AL_48 rfl rfl rfl rfl (Nat.le_of_ble_eq_true rfl) d_AL_add3_19 (fun H locs w_12 ew_12 hW => ?_)
      have ha : w_12 a = some (.inr (4, [.ref q, .int nsz, .int mo])) := wd_here ew_12
      exact ct_vret S hr hlocks hW (⟨q, cap2, _, Or.inr hq, by omega, by omega, al_put hg, by rw [ew_12, ensz, ew_11, hu, ← nI_1, show (nI els.length).toNatClampNeg = els.length from nI_clamp (by omega)]; exact up_4 w hqa _ _ _ _⟩) (Nat.le_of_ble_eq_true rfl) (Nat.le_of_ble_eq_true rfl) d_AL_add3_22

theorem ob_up {w w1 : wd_M} {a y : Nat} {fs gs : List Value} (h : ob_ w y) (e1 : w1 = va_up w a (some (.inr (4, gs)))) (ha : w a = some (.inr (4, fs))) : ob_ w1 y := by
  obtain ⟨ci, hs, h1, h2⟩ := h
  refine ⟨ci, hs, wd_keep e1 (wd_ne h1 ha (fun q => ?_)) h1, h2⟩
  cases q
  simp at h2
theorem ea_up {G : ev_G} {w w1 : wd_M} {a ed : Nat} {els : List Nat} {x : Option va_E} (h : ea_ G w ed els) (e1 : w1 = va_up w a x) (n : ed ≠ a) : ea_ G w1 ed els := by
  rcases h with h | ⟨cap, f, h1, h2⟩
  · exact Or.inl h
  · exact Or.inr ⟨cap, f, wd_keep e1 n h1, h2⟩
/-- the array of a list isn't the list -/
theorem wd_ne_ea {G : ev_G} {A : Nat → Prop} {s : State} {H : Heap} {locs : List Loc} {w : wd_M} {a ed : Nat} {els : List Nat} {ci : Nat} {fs : List Value} (hE : ev_K G A s s.heap) (hW : wd_W G.1 ev_cl A w s.heap H locs) (ha : w a = some (.inr (ci, fs))) (he : ea_ G w ed els) : ed ≠ a := by
  rcases he with ⟨h, -⟩ | ⟨cap, f, h1, h2⟩
  · intro z
    exact hE.2.2.2.1.out (by rw [← h, z]; exact hW.1.inA ha)
  · exact wd_ne h1 ha (by simp)

set_option maxHeartbeats 4000000 in
set_option maxRecDepth 100000 in
/-- add(v) -/
theorem c_AL_add1 (l : Launch) (G : ev_G) (w : wd_M) (sz : Nat) (a ed v : Nat) (els : List Nat) (hal : al_ G w a ed els) (hlen : els.length < 200) (hob : ∀ y ∈ els, ob_ w y) (hv : ob_ w v) : ct_i l y_AL_add1 b_AL_add1 2 (some FieldType.boolean) (rm_ 6 1 300) G w sz [.ref a, .ref v] (fun r u => r = 1 ∧ ∃ q : Nat, (q = ed ∨ w q = none) ∧ al_ G u a q (els ++ [v]) ∧ u q ≠ none ∧ (∀ x, x ≠ a → x ≠ q → u x = w x)) := by
  refine ct_enter (by decide +kernel) (Nat.le_of_ble_eq_true rfl) ?_
  intro p_ e_ s m below meth c_ hsz S hr hlocks hname hE hW ls hl
  have S : CallFix p_ m c_ b_AL_add1 2 s _ lw_good "java/util/ArrayList" := S
  have hx := S.1
  have hb := S.2.1
  have hK := hE.1
  have hl : lv_has ls 2 [(0, .ref a), (1, .ref v)] := hl
  obtain ⟨mo, ha, he⟩ := hal
  have hW0 := hW
  have ha0 := ha
  refine lv_aload_n hx hb d_AL_add1_0 rfl (lv_at hl 0 rfl) ?_
  refine lv_dup hx hb d_AL_add1_1 rfl ?_
  refine wd_getS S i_AL hK hW ha rfl 2 (by decide) k_AL_63 km_AL_modCount rfl d_AL_add1_2 ?_
  refine lv_iconst (v := 1) hx hb d_AL_add1_5 (by decide) ?_
  refine lv_iadd hx hb d_AL_add1_6 ?_
  refine lv_topi (fun mo1 emo1 => ?_)
  refine wd_putS S i_AL t_AL t_AL_ok n_AL hK hW ha rfl 2 (by decide) k_AL_63 km_AL_modCount rfl rfl rfl (Nat.le_of_ble_eq_true rfl) d_AL_add1_7 (fun H locs w_1 emoW hW => ?_)
  have ha : w_1 a = some (.inr (4, [.ref ed, .int (nI els.length), .int mo1])) := wd_here emoW
  refine lv_aload_n hx hb d_AL_add1_10 rfl (lv_at hl 0 rfl) ?_
  refine lv_aload_n hx hb d_AL_add1_11 rfl (lv_at hl 1 rfl) ?_
  refine lv_aload_n hx hb d_AL_add1_12 rfl (lv_at hl 0 rfl) ?_
  refine wd_get S i_AL hK hW ha rfl 0 (by decide) k_AL_9 rfl rfl d_AL_add1_13 ?_
  refine lv_aload_n hx hb d_AL_add1_16 rfl (lv_at hl 0 rfl) ?_
  refine wd_get S i_AL hK hW ha rfl 1 (by decide) k_AL_48 rfl rfl d_AL_add1_17 ?_
  refine ct_gov hW (ct_runV (As := [.ref v, .ref ed, .int (nI els.length)]) (rest := []) (q := (R_AL, F_AL, 3)) S hE hW (c_AL_add3 l G _ _ a ed v els mo1 ha (ea_up he emoW (wd_ne_ea hE hW0 ha0 he)) hlen (fun y hy => ob_up (hob y hy) emoW ha0) (ob_up hv emoW ha0)) ha rfl kc_AL_add3 kz_AL k_AL_131 ki_AL_add3 kv_AL_add3 kd_AL_add3 ⟨Nat.le_of_ble_eq_true rfl, Nat.le_of_ble_eq_true rfl⟩ hl.1 (Nat.le_of_ble_eq_true rfl) d_AL_add1_20 ⟨Nat.le_of_ble_eq_true rfl, Nat.le_of_ble_eq_true rfl⟩) (fun u_2 H locs hp_3 hW => ?_)
  obtain ⟨q, cap, g, hq, hc1, hc2, hg, hu⟩ := hp_3
  refine lv_iconst (v := 1) hx hb d_AL_add1_23 (by decide) ?_
  have hqa : q ≠ a := hq.elim (fun h => by rw [h]; exact wd_ne_ea hE hW0 ha0 he) (fun h z => by rw [z, wd_here emoW] at h; cases h)
  exact ct_iret S hr rfl hlocks hW (⟨rfl, q, hq.imp id (fun h => by rw [emoW, va_up_ne _ _ hqa] at h; exact h), ⟨mo1, by rw [hu, va_up_self, List.length_append]; rfl, Or.inr ⟨cap, g, by rw [hu, va_up_ne _ _ hqa, va_up_self], by rw [List.length_append]; exact hc1, by omega, hc2, fun i hi => hg i (by rw [List.length_append] at hi; exact hi)⟩⟩, by rw [hu, va_up_ne _ _ hqa, va_up_self]; exact Option.some_ne_none _, fun x h1 h2 => by rw [hu, va_up_ne _ _ h1, va_up_ne _ _ h2, emoW, va_up_ne _ _ h1]⟩) (Nat.le_refl _) (Nat.le_refl _) d_AL_add1_24
