/-! ARRAYLIST: remove. ARRAYS: copyOf, copyOfRange, fill of ints. -/

theorem nI_pred2 {k n : Nat} (h : k < n) : nI n - 1 = nI (n - 1) := by
  obtain ⟨j, rfl⟩ : ∃ j, n = j + 1 := ⟨n - 1, by omega⟩
  rw [nI_pred]
  rfl
theorem al_rm_last {els : List Nat} {f : Nat → Option Nat} {k : Nat} (hf : ∀ i, i < els.length → f i = els[i]?) (hk : k + 1 = els.length) : ∀ i, i < (els.eraseIdx k).length → va_up f (els.length - 1) none i = (els.eraseIdx k)[i]? := by
  intro i hi
  rw [List.length_eraseIdx_of_lt (by omega)] at hi
  rw [va_up_ne _ _ (by omega), hf i (by omega), List.getElem?_eraseIdx_of_lt (by omega)]
theorem al_rm_mid {els : List Nat} {f : Nat → Option Nat} {k : Nat} (hf : ∀ i, i < els.length → f i = els[i]?) (hk : k + 1 < els.length) : ∀ i, i < (els.eraseIdx k).length → va_up (va_cpy f f (k + 1) k (els.length - 1 - k)) (els.length - 1) none i = (els.eraseIdx k)[i]? := by
  intro i hi
  rw [List.length_eraseIdx_of_lt (by omega)] at hi
  rw [va_up_ne _ _ (by omega)]
  by_cases h : i < k
  · rw [pk_cpy_out (Or.inl h), hf i (by omega), List.getElem?_eraseIdx_of_lt h]
  · rw [pk_cpy_in (by omega) (by omega), hf _ (by omega), List.getElem?_eraseIdx_of_ge (by omega)]
    congr 1
    omega
theorem up_rm {α : Type} (w : Nat → α) {a q : Nat} (n : a ≠ q) (x1 x2 y : α) : va_up (va_up (va_up w a x1) a x2) q y = va_up (va_up w a x2) q y := by rw [bx_uu]
theorem up_rm2 {α : Type} (w : Nat → α) {a q : Nat} (n : a ≠ q) (x1 y1 x2 y2 : α) : va_up (va_up (va_up (va_up w a x1) q y1) a x2) q y2 = va_up (va_up w a x2) q y2 := up_4 w n x1 y1 x2 y2

theorem fl_inv {f : Nat → Int32} {i : Nat} {x : Int32} (h : ∀ j, j < i → f j = x) : ∀ j, j < i + 1 → upd f i x j = x := by
  intro j hj
  by_cases hji : j = i
  · rw [hji, pk_us]
  · rw [pk_un hji]
    exact h j (by omega)

set_option maxHeartbeats 4000000 in
set_option maxRecDepth 100000 in
/-- fastRemove(es, k) -/
theorem c_AL_fastRemove (l : Launch) (G : ev_G) (w : wd_M) (sz : Nat) (a ed cap k : Nat) (els : List Nat) (mo : Int32) (f : Nat → Option Nat) (ha : w a = some (.inr (4, [.ref ed, .int (nI els.length), .int mo]))) (he : w ed = some (.inl (G.2.1 2, cap, .inr (.inr (.inr (.inr f)))))) (h1 : els.length ≤ cap) (h3 : cap ≤ 1000) (hf : ∀ i, i < els.length → f i = els[i]?) (hk : k < els.length) (hob : ∀ y ∈ els, ob_ w y) : ct_v l y_AL_fastRemove b_AL_fastRemove 4 none (rm_ 1 0 0) G w sz [.ref a, .ref ed, .int (nI k)] (fun u => ∃ (mo2 : Int32) (g : Nat → Option Nat), (∀ i, i < (els.eraseIdx k).length → g i = (els.eraseIdx k)[i]?) ∧ u = va_up (va_up w a (some (.inr (4, [.ref ed, .int (nI (els.length - 1)), .int mo2])))) ed (some (.inl (G.2.1 2, cap, .inr (.inr (.inr (.inr g))))))) := by
  refine ct_enter (by decide +kernel) (Nat.le_of_ble_eq_true rfl) ?_
  intro p_ e_ s m below meth c_ hsz S hr hlocks hname hE hW ls hl
  have S : CallFix p_ m c_ b_AL_fastRemove 4 s _ lw_good "java/util/ArrayList" := S
  have hx := S.1
  have hb := S.2.1
  have hK := hE.1
  have hl : lv_has ls 4 [(0, .ref a), (1, .ref ed), (2, .int (nI k))] := hl
  have ha0 := ha
  have he0 := he
  refine lv_aload_n hx hb d_AL_fastRemove_0 rfl (lv_at hl 0 rfl) ?_
  refine lv_dup hx hb d_AL_fastRemove_1 rfl ?_
  refine wd_getS S i_AL hK hW ha rfl 2 (by decide) k_AL_63 km_AL_modCount rfl d_AL_fastRemove_2 ?_
  refine lv_iconst (v := 1) hx hb d_AL_fastRemove_5 (by decide) ?_
  refine lv_iadd hx hb d_AL_fastRemove_6 ?_
  refine lv_topi (fun mo1 emo1 => ?_)
  refine wd_putS S i_AL t_AL t_AL_ok n_AL hK hW ha rfl 2 (by decide) k_AL_63 km_AL_modCount rfl rfl rfl (Nat.le_of_ble_eq_true rfl) d_AL_fastRemove_7 (fun H locs w_1 ew_1 hW => ?_)
  have he := wd_keep ew_1 (wd_ne he ha (by simp)) he
  have ha : w_1 a = some (.inr (4, [.ref ed, .int (nI els.length), .int mo1])) := wd_here ew_1
  refine lv_aload_n hx hb d_AL_fastRemove_10 rfl (lv_at hl 0 rfl) ?_
  refine wd_get S i_AL hK hW ha rfl 1 (by decide) k_AL_48 rfl rfl d_AL_fastRemove_11 ?_
  refine lv_iconst (v := 1) hx hb d_AL_fastRemove_14 (by decide) ?_
  refine lv_isub hx hb d_AL_fastRemove_15 ?_
  refine lv_topi (fun n3 en3 => ?_)
  rw [nI_pred2 hk] at en3
  refine lv_dup hx hb d_AL_fastRemove_16 rfl ?_
  refine lv_istore_n (lv' := [(3, .int n3), (0, .ref a), (1, .ref ed), (2, .int (nI k))]) hx hb d_AL_fastRemove_17 rfl hl (by decide) rfl (fun ls hl => ?_)
  refine lv_iload_n hx hb d_AL_fastRemove_18 rfl (lv_at hl 3 rfl) ?_
  refine lv_icmp_le (tgt := 34) hx hb d_AL_fastRemove_19 (by decide) (fun h19 => ?_) (fun h19 => ?_)
  · have hkl : k + 1 = els.length := by rw [en3] at h19; have h5 := (nI_leI (by omega) (by omega)).mp h19; omega
    refine lv_aload_n hx hb d_AL_fastRemove_34 rfl (lv_at hl 2 rfl) ?_
    refine lv_aload_n hx hb d_AL_fastRemove_35 rfl (lv_at hl 1 rfl) ?_
    refine lv_iload_n hx hb d_AL_fastRemove_36 rfl (lv_at hl 0 rfl) ?_
    refine lv_dup_x1 hx hb d_AL_fastRemove_37 rfl rfl ?_
    refine wd_put S i_AL t_AL t_AL_ok n_AL hK hW ha rfl 1 (by decide) k_AL_48 rfl rfl rfl rfl (Nat.le_of_ble_eq_true rfl) d_AL_fastRemove_38 (fun H locs w_2 ew_2 hW => ?_)
    have he := wd_keep ew_2 (wd_ne he ha (by simp)) he
    have ha : w_2 a = some (.inr (4, [.ref ed, .int n3, .int mo1])) := wd_here ew_2
    refine lv_null hx hb d_AL_fastRemove_41 ?_
    refine wd_aastN S hK hW 2 he rfl (by rw [en3]; exact vp_in_nI (by omega) (by omega)) d_AL_fastRemove_42 (fun H locs w_3 ew_3 hW => ?_)
    have hae : a ≠ ed := wd_ne ha0 he0 (by simp)
    exact ct_vret S hr hlocks hW (⟨mo1, va_up f n3.toNatClampNeg none, by rw [en3, nI_clamp (by omega)]; exact al_rm_last hf hkl, by rw [ew_3, ew_2, ew_1, en3]; exact up_rm _ hae _ _ _⟩) (Nat.le_refl _) (Nat.le_refl _) d_AL_fastRemove_43
  · have hkl : k + 1 < els.length := by rw [en3] at h19; have h5 : ¬ els.length - 1 ≤ k := fun q => h19 ((nI_leI (a := els.length - 1) (b := k) (by omega) (by omega)).mpr q); omega
    refine lv_aload_n hx hb d_AL_fastRemove_22 rfl (lv_at hl 2 rfl) ?_
    refine lv_iload_n hx hb d_AL_fastRemove_23 rfl (lv_at hl 3 rfl) ?_
    refine lv_iconst (v := 1) hx hb d_AL_fastRemove_24 (by decide) ?_
    refine lv_iadd hx hb d_AL_fastRemove_25 ?_
    refine lv_aload_n hx hb d_AL_fastRemove_26 rfl (lv_at hl 2 rfl) ?_
    refine lv_iload_n hx hb d_AL_fastRemove_27 rfl (lv_at hl 3 rfl) ?_
    refine lv_iload_n hx hb d_AL_fastRemove_28 rfl (lv_at hl 0 rfl) ?_
    refine lv_iload_n hx hb d_AL_fastRemove_29 rfl (lv_at hl 3 rfl) ?_
    refine lv_isub hx hb d_AL_fastRemove_30 ?_
    rw [show nI k + 1 = nI (k + 1) from nI_1 k, show n3 - nI k = nI (els.length - 1 - k) from by rw [en3, pk_sub (by omega)]]
    refine wd_copyM S hl.1 k_AL_112 kn_Sy_arraycopy ks_Sy_arraycopy kz_Sy hK hW 2 he he rfl (nI_pos (by omega)) (nI_pos (by omega)) (nI_pos (by omega)) (by rw [nI_clamp (by omega), nI_clamp (by omega)]; omega) (by rw [nI_clamp (by omega), nI_clamp (by omega)]; omega) (fun i hi y hy => ?_) (Nat.le_of_ble_eq_true rfl) (Nat.le_of_ble_eq_true rfl) d_AL_fastRemove_31 (fun H locs w_4 ew_4 hW => ?_)
    · rw [nI_clamp (by omega)] at hi hy
      exact ob_cast hE.2.1 (ob_up (hob y (by rw [hf _ (by omega)] at hy; exact List.mem_of_getElem? hy)) ew_1 ha0)
    rw [nI_clamp (by omega), nI_clamp (by omega), nI_clamp (by omega)] at ew_4
    have ha := wd_keep ew_4 (wd_ne ha he (by simp)) ha
    have he : w_4 ed = some (.inl (G.2.1 2, cap, .inr (.inr (.inr (.inr (va_cpy f f (k + 1) k (els.length - 1 - k))))))) := wd_here ew_4
    refine lv_aload_n hx hb d_AL_fastRemove_34 rfl (lv_at hl 2 rfl) ?_
    refine lv_aload_n hx hb d_AL_fastRemove_35 rfl (lv_at hl 1 rfl) ?_
    refine lv_iload_n hx hb d_AL_fastRemove_36 rfl (lv_at hl 0 rfl) ?_
    refine lv_dup_x1 hx hb d_AL_fastRemove_37 rfl rfl ?_
    refine wd_put S i_AL t_AL t_AL_ok n_AL hK hW ha rfl 1 (by decide) k_AL_48 rfl rfl rfl rfl (Nat.le_of_ble_eq_true rfl) d_AL_fastRemove_38 (fun H locs w_5 ew_5 hW => ?_)
    have he := wd_keep ew_5 (wd_ne he ha (by simp)) he
    have ha : w_5 a = some (.inr (4, [.ref ed, .int n3, .int mo1])) := wd_here ew_5
    refine lv_null hx hb d_AL_fastRemove_41 ?_
    refine wd_aastN S hK hW 2 he rfl (by rw [en3]; exact vp_in_nI (by omega) (by omega)) d_AL_fastRemove_42 (fun H locs w_6 ew_6 hW => ?_)
    have hae : a ≠ ed := wd_ne ha0 he0 (by simp)
    exact ct_vret S hr hlocks hW (⟨mo1, va_up (va_cpy f f (k + 1) k (els.length - 1 - k)) n3.toNatClampNeg none, by rw [en3, nI_clamp (by omega)]; exact al_rm_mid hf hkl, by rw [ew_6, ew_5, ew_4, ew_1, en3]; exact up_rm2 _ hae _ _ _ _⟩) (Nat.le_refl _) (Nat.le_refl _) d_AL_fastRemove_43

theorem up_dom {w : wd_M} {a x : Nat} {y z : va_E} (ha : w a = some z) : va_up w a (some y) x = none ↔ w x = none := by
  by_cases h : x = a
  · subst h
    rw [va_up_self, ha]
    simp
  · rw [va_up_ne _ _ h]
theorem up_dom2 {w : wd_M} {a b x : Nat} {y1 y2 z1 z2 : va_E} (ha : w a = some z1) (hb : w b = some z2) : va_up (va_up w a (some y1)) b (some y2) x = none ↔ w x = none := by
  by_cases h : x = b
  · subst h
    rw [va_up_self, hb]
    simp
  · rw [va_up_ne _ _ h]
    exact up_dom ha

set_option maxHeartbeats 4000000 in
set_option maxRecDepth 100000 in
/-- remove(k), in range -/
theorem c_AL_remove (l : Launch) (G : ev_G) (w : wd_M) (sz : Nat) (a ed k : Nat) (els : List Nat) (hal : al_ G w a ed els) (hk : k < els.length) (hob : ∀ y ∈ els, ob_ w y) : ct_q l y_AL_remove b_AL_remove 4 (some (FieldType.object "java/lang/Object")) (rm_ 2 0 0) G w sz [.ref a, .int (nI k)] (fun _ u => al_ G u a ed (els.eraseIdx k) ∧ (∀ x, x ≠ a → x ≠ ed → u x = w x) ∧ ∀ x, u x = none ↔ w x = none) := by
  refine ct_enter (by decide +kernel) (Nat.le_of_ble_eq_true rfl) ?_
  intro p_ e_ s m below meth c_ hsz S hr hlocks hname hE hW ls hl
  have S : CallFix p_ m c_ b_AL_remove 4 s _ lw_good "java/util/ArrayList" := S
  have hx := S.1
  have hb := S.2.1
  have hK := hE.1
  have hl : lv_has ls 4 [(0, .ref a), (1, .int (nI k))] := hl
  obtain ⟨mo, ha, he⟩ := hal
  rcases he with ⟨-, rfl⟩ | ⟨cap, f, he, h1, h2, h3, hf⟩
  · exact absurd hk (Nat.not_lt_zero k)
  refine lv_iload_n hx hb d_AL_remove_0 rfl (lv_at hl 1 rfl) ?_
  refine lv_aload_n hx hb d_AL_remove_1 rfl (lv_at hl 0 rfl) ?_
  refine wd_get S i_AL hK hW ha rfl 1 (by decide) k_AL_48 rfl rfl d_AL_remove_2 ?_
  refine ct_goi hW (ct_runS (As := [.int (nI k), .int (nI els.length)]) (rest := []) S hE hW (c_Ob_checkIndex l G _ _ (nI k) (nI els.length) (nI_pos (by omega)) (nI_ge hk (by omega))) kc_Ob_checkIndex kz_Ob k_AL_118 ks_Ob_checkIndex kd_Ob_checkIndex ⟨Nat.le_of_ble_eq_true rfl, Nat.le_of_ble_eq_true rfl⟩ hl.1 (Nat.le_of_ble_eq_true rfl) d_AL_remove_5 ⟨Nat.le_of_ble_eq_true rfl, Nat.le_of_ble_eq_true rfl⟩) (fun v_3 u_1 H locs hp_2 hW => ?_)
  obtain ⟨hv1, hu_4⟩ := hp_2
  rw [hu_4] at hW
  refine lv_pop hx hb d_AL_remove_8 rfl ?_
  refine lv_aload_n hx hb d_AL_remove_9 rfl (lv_at hl 0 rfl) ?_
  refine wd_get S i_AL hK hW ha rfl 0 (by decide) k_AL_9 rfl rfl d_AL_remove_10 ?_
  refine lv_astore_n (lv' := [(2, .ref ed), (0, .ref a), (1, .int (nI k))]) hx hb d_AL_remove_13 rfl hl (by decide) rfl (fun ls hl => ?_)
  refine lv_aload_n hx hb d_AL_remove_14 rfl (lv_at hl 0 rfl) ?_
  refine lv_iload_n hx hb d_AL_remove_15 rfl (lv_at hl 2 rfl) ?_
  refine wd_aald S hK hW 2 he rfl (vp_in_nI (by omega) (by omega)) d_AL_remove_16 ?_
  obtain ⟨y, hy⟩ : ∃ y, f k = some y := ⟨els[k], by rw [hf k hk]; exact List.getElem?_eq_getElem hk⟩
  rw [nI_clamp (by omega), hy]
  refine W.eq (g2 := F0 m 17 ls [.ref y]) rfl ?_
  refine lv_astore_n (lv' := [(3, .ref y), (2, .ref ed), (0, .ref a), (1, .int (nI k))]) hx hb d_AL_remove_17 rfl hl (by decide) rfl (fun ls hl => ?_)
  refine lv_aload_n hx hb d_AL_remove_18 rfl (lv_at hl 2 rfl) ?_
  refine lv_aload_n hx hb d_AL_remove_19 rfl (lv_at hl 1 rfl) ?_
  refine lv_iload_n hx hb d_AL_remove_20 rfl (lv_at hl 3 rfl) ?_
  refine ct_gov hW (ct_runV (As := [.ref ed, .int (nI k)]) (rest := []) (q := (R_AL, F_AL, 3)) S hE hW (c_AL_fastRemove l G _ _ a ed cap k els mo f ha he h1 h3 hf hk hob) ha rfl kc_AL_fastRemove kz_AL k_AL_144 ki_AL_fastRemove kv_AL_fastRemove kd_AL_fastRemove ⟨Nat.le_of_ble_eq_true rfl, Nat.le_of_ble_eq_true rfl⟩ hl.1 (Nat.le_of_ble_eq_true rfl) d_AL_remove_21 ⟨Nat.le_of_ble_eq_true rfl, Nat.le_of_ble_eq_true rfl⟩) (fun u_5 H locs hp_6 hW => ?_)
  obtain ⟨mo2, g, hg, hu⟩ := hp_6
  refine lv_aload_n hx hb d_AL_remove_24 rfl (lv_at hl 0 rfl) ?_
  refine W.eq (g2 := F0 m 25 ls [va_rf (some y)]) rfl ?_
  have hae : a ≠ ed := wd_ne ha he (by simp)
  have hle : (els.eraseIdx k).length = els.length - 1 := List.length_eraseIdx_of_lt hk
  exact ct_qret S hr (by first | exact Or.inl ⟨_, rfl⟩ | exact Or.inr ⟨_, rfl⟩) hlocks hW (⟨⟨mo2, by rw [hu, va_up_ne _ _ hae, va_up_self, hle], Or.inr ⟨cap, g, by rw [hu, va_up_self], by omega, by omega, h3, hg⟩⟩, fun x z1 z2 => by rw [hu, va_up_ne _ _ z2, va_up_ne _ _ z1], fun x => by rw [hu]; exact up_dom2 ha he⟩) (Nat.le_refl _) (Nat.le_refl _) d_AL_remove_25

set_option maxHeartbeats 4000000 in
set_option maxRecDepth 100000 in
/-- the loop of fill -/
theorem lo_Ar_fill {p_ : Program} {l : Launch} {e_ : Env} {s : State} {m : MethodId} {args : Array Value} {below : List Frame} {meth : Method} {c_ : Code} {Q : State → Prop} {G : ev_G} {A : Nat → Prop} (S : CallFix p_ m c_ b_Ar_fill 4 s args lw_good "java/util/Arrays") (hE : ev_K G A s s.heap) {w : wd_M} {a n : Nat} {x : Int32} (hn : n ≤ 1000) (kk : ∀ (f : Nat → Int32) (w1 : wd_M) (H : Heap) (locs : List Loc) (ls : Array Slot), (∀ j, j < n → f j = x) → w1 = va_up w a (some (.inl (G.2.1 0, n, .inl f))) → wd_W G.1 ev_cl A w1 s.heap H locs → lv_has ls 4 [(0, .ref a), (1, .int x), (3, .int (nI n))] → W p_ l e_ (rm_ 0 0 0) s m args below meth c_ H locs 0 0 Q (F0 m 20 ls [])) :
    ∀ (fu : Nat) (i : Nat) (xi : Int32) (f : Nat → Int32) (w1 : wd_M) (H : Heap) (locs : List Loc) (ls : Array Slot), n < i + fu → i ≤ n → xi = nI i → (∀ j, j < i → f j = x) → w1 = va_up w a (some (.inl (G.2.1 0, n, .inl f))) → wd_W G.1 ev_cl A w1 s.heap H locs → lv_has ls 4 [(0, .ref a), (1, .int x), (2, .int xi), (3, .int (nI n))] → W p_ l e_ (rm_ 0 0 0) s m args below meth c_ H locs 0 0 Q (F0 m 5 ls []) := by
  have hx := S.1
  have hb := S.2.1
  have hK := hE.1
  intro fu
  induction fu with
  | zero =>
    intro i xi f w1 H locs ls hfu hi exi hinv ew hW hl
    exact absurd hfu (by omega)
  | succ fu ih =>
    intro i xi f w1 H locs ls hfu hi exi hinv ew hW hl
    have ha := wd_here ew
    refine lv_iload_n hx hb d_Ar_fill_5 rfl (lv_at hl 2 rfl) ?_
    refine lv_iload_n hx hb d_Ar_fill_6 rfl (lv_at hl 3 rfl) ?_
    refine lv_icmp_ge (tgt := 20) hx hb d_Ar_fill_7 (by decide) (fun h7 => ?_) (fun h7 => ?_)
    · exact kk f w1 H locs ls (fun j hj => hinv j (by rw [exi] at h7; have := (nI_leI (by omega) (by omega)).mp h7; omega)) ew hW (lv_sub hl [0, 1, 3] rfl)
    · have hlt : i < n := by rw [exi] at h7; exact Nat.lt_of_not_le (fun q => h7 (nI_le q (by omega)))
      refine lv_aload_n hx hb d_Ar_fill_10 rfl (lv_at hl 0 rfl) ?_
      refine lv_iload_n hx hb d_Ar_fill_11 rfl (lv_at hl 2 rfl) ?_
      refine lv_iload_n hx hb d_Ar_fill_12 rfl (lv_at hl 1 rfl) ?_
      have hin : vp_in xi n := by rw [exi]; exact vp_in_nI hlt (by omega)
      refine wd_iast S hK hW 0 ha rfl hin d_Ar_fill_13 (fun H locs w_1 ew_1 hW => ?_)
      have ha : w_1 a = some (.inl (G.2.1 0, n, .inl (upd f (xi : Int32).toNatClampNeg x))) := wd_here ew_1
      obtain ⟨xi2, exi2⟩ : ∃ y : Int32, y = xi + 1 := ⟨_, rfl⟩
      refine lv_iinc (v := xi2) (lv' := [(2, .int xi2), (0, .ref a), (1, .int x), (3, .int (nI n))]) hx hb d_Ar_fill_14 hl (k := 2) rfl (by rw [exi2]; rfl) (by decide) rfl (fun ls hl => ?_)
      refine lv_goto (tgt := 5) hx hb d_Ar_fill_17 (by decide) ?_
      exact ih (i + 1) xi2 (upd f xi.toNatClampNeg x) _ _ _ _ (by omega) hlt (by rw [exi2, exi]; exact nI_1 i) (by rw [exi, nI_clamp (by omega)]; exact fl_inv hinv) (by rw [ew_1, ew]; exact bx_uu _ _ _ _) hW (lv_sub hl [1, 2, 0, 3] rfl)

theorem up_id {w : wd_M} {a : Nat} {x : va_E} (h : w a = some x) : w = va_up w a (some x) := by
  funext b
  by_cases hb : b = a
  · subst hb
    rw [va_up_self]
    exact h
  · rw [va_up_ne _ _ hb]

set_option maxHeartbeats 4000000 in
set_option maxRecDepth 100000 in
/-- fill(a, x) -/
theorem c_Ar_fill (l : Launch) (G : ev_G) (w : wd_M) (sz : Nat) (a n : Nat) (x : Int32) (f : Nat → Int32) (ha : w a = some (.inl (G.2.1 0, n, .inl f))) (hn : n ≤ 1000) : ct_v l y_Ar_fill b_Ar_fill 4 none (rm_ 0 0 0) G w sz [.ref a, .int x] (fun u => ∃ g : Nat → Int32, (∀ j, j < n → g j = x) ∧ u = va_up w a (some (.inl (G.2.1 0, n, .inl g)))) := by
  refine ct_enter (by decide +kernel) (Nat.le_of_ble_eq_true rfl) ?_
  intro p_ e_ s m below meth c_ hsz S hr hlocks hname hE hW ls hl
  have S : CallFix p_ m c_ b_Ar_fill 4 s _ lw_good "java/util/Arrays" := S
  have hx := S.1
  have hb := S.2.1
  have hK := hE.1
  have hl : lv_has ls 4 [(0, .ref a), (1, .int x)] := hl
  refine lv_iconst (v := 0) hx hb d_Ar_fill_0 (by decide) ?_
  refine lv_istore_n (lv' := [(2, .int 0), (0, .ref a), (1, .int x)]) hx hb d_Ar_fill_1 rfl hl (by decide) rfl (fun ls hl => ?_)
  refine lv_aload_n hx hb d_Ar_fill_2 rfl (lv_at hl 1 rfl) ?_
  refine wd_alen S hK hW 0 ha rfl d_Ar_fill_3 ?_
  refine lv_topi (fun n3 en3 => ?_)
  refine lv_istore_n (lv' := [(3, .int n3), (2, .int 0), (0, .ref a), (1, .int x)]) hx hb d_Ar_fill_4 rfl hl (by decide) rfl (fun ls hl => ?_)
  rw [en3] at hl
  refine lo_Ar_fill S hE (w := w) (a := a) (n := n) (x := x) hn (fun f w1 H locs ls hinv ew hW hl => ?_) (n + 1) 0 0 f w _ _ _ (by omega) (Nat.zero_le n) nI_0.symm (fun j hj => absurd hj (Nat.not_lt_zero j)) ?_ hW (lv_sub hl [2, 3, 1, 0] rfl)
  · exact ct_vret S hr hlocks hW (⟨f, hinv, ew⟩) (Nat.le_refl _) (Nat.le_refl _) d_Ar_fill_20
  · exact up_id ha

theorem if_ltk {k n : Nat} (h : k ≤ n) (hn : n < 2 ^ 31) : (if nI k < nI n then nI k else nI n) = nI k := by
  split
  · rfl
  · rename_i h9
    exact (nI_eq hn (by omega)).mpr (Nat.le_antisymm (Nat.le_of_not_lt fun q => h9 (nI_lt q hn)) h)

set_option maxHeartbeats 4000000 in
set_option maxRecDepth 100000 in
/-- copyOf(ints, k) -/
theorem c_Ar_copyOfI (l : Launch) (G : ev_G) (w : wd_M) (sz : Nat) (a n k : Nat) (f : Nat → Int32) (ha : w a = some (.inl (G.2.1 0, n, .inl f))) (hk : k ≤ n) (hn : n ≤ 40) : ct_q l y_Ar_copyOfI b_Ar_copyOfI 3 (some (FieldType.array FieldType.int)) (rm_ 1 1 40) G w sz [.ref a, .int (nI k)] (fun v u => ∃ (q : Nat) (g : Nat → Int32), v = some q ∧ w q = none ∧ u = va_up w q (some (.inl (G.2.1 0, k, .inl g))) ∧ ∀ i, i < k → g i = f i) := by
  refine ct_enter (by decide +kernel) (Nat.le_of_ble_eq_true rfl) ?_
  intro p_ e_ s m below meth c_ hsz S hr hlocks hname hE hW ls hl
  have S : CallFix p_ m c_ b_Ar_copyOfI 3 s _ lw_good "java/util/Arrays" := S
  have hx := S.1
  have hb := S.2.1
  have hK := hE.1
  have hl : lv_has ls 3 [(0, .ref a), (1, .int (nI k))] := hl
  refine lv_iload_n hx hb d_Ar_copyOfI_0 rfl (lv_at hl 1 rfl) ?_
  refine lv_aload_n hx hb d_Ar_copyOfI_1 rfl (lv_at hl 0 rfl) ?_
  refine wd_alen S hK hW 0 ha rfl d_Ar_copyOfI_2 ?_
  refine lv_icmp_ne (tgt := 14) hx hb d_Ar_copyOfI_3 (by decide) (fun h3 => ?_) (fun h3 => ?_)
  · refine lv_iload_n hx hb d_Ar_copyOfI_14 rfl (lv_at hl 1 rfl) ?_
    refine wd_newa S (atype := .int) ka_int rfl hK hW 0 rfl (n := (nI k)) (N' := k) (a0 := (k, .inl (fun _ => 0))) (fun _ => rfl) (nI_pos (by omega)) (nI_clamp (by omega)) (by show k * 4 ≤ 536870912; omega) (Nat.le_refl _) (by show 0 + k ≤ 40; omega) d_Ar_copyOfI_15 (fun q H hq w_1 ew_1 hW => ?_)
    have ha := wd_keep ew_1 (wd_neN ha hq) ha
    have cq : w_1 q = some (.inl (G.2.1 0, k, .inl (fun _ => 0))) := wd_here ew_1
    refine W.widen (k := 1) (n := 40) (Nat.le_refl _) (by omega) ?_
    refine lv_astore_n (lv' := [(2, .ref q), (0, .ref a), (1, .int (nI k))]) hx hb d_Ar_copyOfI_17 rfl hl (by decide) rfl (fun ls hl => ?_)
    refine lv_aload_n hx hb d_Ar_copyOfI_18 rfl (lv_at hl 1 rfl) ?_
    refine lv_iconst (v := 0) hx hb d_Ar_copyOfI_19 (by decide) ?_
    refine lv_aload_n hx hb d_Ar_copyOfI_20 rfl (lv_at hl 0 rfl) ?_
    refine lv_iconst (v := 0) hx hb d_Ar_copyOfI_21 (by decide) ?_
    refine lv_aload_n hx hb d_Ar_copyOfI_22 rfl (lv_at hl 1 rfl) ?_
    refine wd_alen S hK hW 0 ha rfl d_Ar_copyOfI_23 ?_
    refine lv_iload_n hx hb d_Ar_copyOfI_24 rfl (lv_at hl 2 rfl) ?_
    refine va_mmin hx hb (S.2.2.1.trans hl.1.symm) S.2.2.2.1 (S.2.2.2.2 _ k_Ar_304) (S.2.2.2.2 _ ks_Ma_min) (S.2.2.2.2 _ kz_Ma) (S.2.2.2.2 _ kc_Ma_min) (Nat.le_of_ble_eq_true rfl) (Nat.le_of_ble_eq_true rfl) (Nat.le_of_ble_eq_true rfl) (Nat.le_of_ble_eq_true rfl) d_Ar_copyOfI_25 ?_
    rw [show (if nI k < nI n then nI k else nI n) = nI k from if_ltk hk (by omega)]
    refine wd_copyi S hl.1 k_Ar_150 kn_Sy_arraycopy ks_Sy_arraycopy kz_Sy hK hW 0 ha cq rfl (by decide) (by decide) (nI_pos (by omega)) (by rw [nI_clamp (by omega)]; show 0 + k ≤ n; omega) (by rw [nI_clamp (by omega)]; show 0 + k ≤ k; omega) (Nat.le_of_ble_eq_true rfl) (Nat.le_of_ble_eq_true rfl) d_Ar_copyOfI_28 (fun H locs w_2 ew_2 hW => ?_)
    refine lv_aload_n hx hb d_Ar_copyOfI_31 rfl (lv_at hl 0 rfl) ?_
    refine W.eq (g2 := F0 m 32 ls [va_rf (some q)]) rfl ?_
    exact ct_qret S hr (by first | exact Or.inl ⟨_, rfl⟩ | exact Or.inr ⟨_, rfl⟩) hlocks hW (⟨q, _, rfl, hq, by rw [ew_2, ew_1]; exact bx_uu _ _ _ _, fun i hi => by rw [nI_clamp (by omega)]; exact (pk_cpy_in (Nat.zero_le _) (by show i < 0 + k; omega)).trans (by show f (0 + (i - 0)) = f i; rw [Nat.zero_add, Nat.sub_zero])⟩) (Nat.le_refl _) (Nat.le_refl _) d_Ar_copyOfI_32
  · have hkn : k = n := (nI_eq (by omega) (by omega)).mp h3
    subst hkn
    refine lv_aload_n hx hb d_Ar_copyOfI_6 rfl (lv_at hl 0 rfl) ?_
    refine wd_cloneI S hl.1 k_Ar_316 km_Ia_clone kn_Oj_clone ki_Oj_clone kv_Ia_clone hE.2.1.2.2.1 hK hW 0 ha rfl (Nat.le_of_ble_eq_true rfl) (Nat.le_of_ble_eq_true rfl) (Nat.le_of_ble_eq_true rfl) (by show 0 + k ≤ 40; omega) d_Ar_copyOfI_7 (fun q H hq w_3 ew_3 hW => ?_)
    have cq : w_3 q = some (.inl (G.2.1 0, k, .inl f)) := wd_here ew_3
    refine wd_castI S k_Ar_317 hK hW 0 cq rfl d_Ar_copyOfI_10 ?_
    refine W.eq (g2 := F0 m 13 ls [va_rf (some q)]) rfl ?_
    exact ct_qret S hr (by first | exact Or.inl ⟨_, rfl⟩ | exact Or.inr ⟨_, rfl⟩) hlocks hW (⟨q, f, rfl, hq, ew_3, fun _ _ => rfl⟩) (Nat.le_refl _) (by show 0 + k ≤ 40; omega) d_Ar_copyOfI_13

set_option maxHeartbeats 4000000 in
set_option maxRecDepth 100000 in
/-- checkLength(x, y), in order -/
theorem c_Ar_checkLength (l : Launch) (G : ev_G) (w : wd_M) (sz : Nat) (x y : Int32) (hxy : x ≤ y) : ct_v l y_Ar_checkLength b_Ar_checkLength 2 none (rm_ 0 0 0) G w sz [.int x, .int y] (fun u => u = w) := by
  refine ct_enter (by decide +kernel) (Nat.le_of_ble_eq_true rfl) ?_
  intro p_ e_ s m below meth c_ hsz S hr hlocks hname hE hW ls hl
  have S : CallFix p_ m c_ b_Ar_checkLength 2 s _ lw_good "java/util/Arrays" := S
  have hx := S.1
  have hb := S.2.1
  have hK := hE.1
  have hl : lv_has ls 2 [(0, .int x), (1, .int y)] := hl
  refine lv_iload_n hx hb d_Ar_checkLength_0 rfl (lv_at hl 1 rfl) ?_
  refine lv_iload_n hx hb d_Ar_checkLength_1 rfl (lv_at hl 0 rfl) ?_
  refine lv_icmp_ge (tgt := 37) hx hb d_Ar_checkLength_2 (by decide) (fun h2 => ?_) (fun h2 => ?_)
  · exact ct_vret S hr hlocks hW (rfl) (Nat.le_refl _) (Nat.le_refl _) d_Ar_checkLength_37
  · exact absurd hxy h2

set_option maxHeartbeats 4000000 in
set_option maxRecDepth 100000 in
/-- copyOfRangeInt(ints, 1, k + 1) -/
theorem c_Ar_copyOfRangeInt (l : Launch) (G : ev_G) (w : wd_M) (sz : Nat) (a n k : Nat) (f : Nat → Int32) (ha : w a = some (.inl (G.2.1 0, n, .inl f))) (hk : 1 + k ≤ n) (hn : n ≤ 40) : ct_q l y_Ar_copyOfRangeInt b_Ar_copyOfRangeInt 5 (some (FieldType.array FieldType.int)) (rm_ 1 1 40) G w sz [.ref a, .int 1, .int (nI (k + 1))] (fun v u => ∃ (q : Nat) (g : Nat → Int32), v = some q ∧ w q = none ∧ u = va_up w q (some (.inl (G.2.1 0, k, .inl g))) ∧ ∀ i, i < k → g i = f (1 + i)) := by
  refine ct_enter (by decide +kernel) (Nat.le_of_ble_eq_true rfl) ?_
  intro p_ e_ s m below meth c_ hsz S hr hlocks hname hE hW ls hl
  have S : CallFix p_ m c_ b_Ar_copyOfRangeInt 5 s _ lw_good "java/util/Arrays" := S
  have hx := S.1
  have hb := S.2.1
  have hK := hE.1
  have hl : lv_has ls 5 [(0, .ref a), (1, .int 1), (2, .int (nI (k + 1)))] := hl
  refine lv_iload_n hx hb d_Ar_copyOfRangeInt_0 rfl (lv_at hl 1 rfl) ?_
  refine lv_iload_n hx hb d_Ar_copyOfRangeInt_1 rfl (lv_at hl 2 rfl) ?_
  refine ct_gov hW (ct_runS (As := [.int 1, .int (nI (k + 1))]) (rest := []) S hE hW (c_Ar_checkLength l G _ _ 1 (nI (k + 1)) (nI_le (a := 1) (by omega) (by omega))) kc_Ar_checkLength kz_Ar k_Ar_343 ks_Ar_checkLength kd_Ar_checkLength ⟨Nat.le_of_ble_eq_true rfl, Nat.le_of_ble_eq_true rfl⟩ hl.1 (Nat.le_of_ble_eq_true rfl) d_Ar_copyOfRangeInt_2 ⟨Nat.le_of_ble_eq_true rfl, Nat.le_of_ble_eq_true rfl⟩) (fun u_1 H locs hp_2 hW => ?_)
  rw [hp_2] at hW
  refine lv_iload_n hx hb d_Ar_copyOfRangeInt_5 rfl (lv_at hl 2 rfl) ?_
  refine lv_iload_n hx hb d_Ar_copyOfRangeInt_6 rfl (lv_at hl 1 rfl) ?_
  refine lv_isub hx hb d_Ar_copyOfRangeInt_7 ?_
  refine lv_topi (fun x3 ex3 => ?_)
  rw [nI_pred] at ex3
  refine lv_istore_n (lv' := [(3, .int x3), (0, .ref a), (1, .int 1), (2, .int (nI (k + 1)))]) hx hb d_Ar_copyOfRangeInt_8 rfl hl (by decide) rfl (fun ls hl => ?_)
  rw [ex3] at hl
  refine lv_iload_n hx hb d_Ar_copyOfRangeInt_9 rfl (lv_at hl 0 rfl) ?_
  refine wd_newa S (atype := .int) ka_int rfl hK hW 0 rfl (n := (nI k)) (N' := k) (a0 := (k, .inl (fun _ => 0))) (fun _ => rfl) (nI_pos (by omega)) (nI_clamp (by omega)) (by show k * 4 ≤ 536870912; omega) (Nat.le_refl _) (by show 0 + 0 + k ≤ 40; omega) d_Ar_copyOfRangeInt_10 (fun q H hq w_4 ew_4 hW => ?_)
  have ha := wd_keep ew_4 (wd_neN ha hq) ha
  have cq : w_4 q = some (.inl (G.2.1 0, k, .inl (fun _ => 0))) := wd_here ew_4
  refine W.widen (k := 1) (n := 40) (Nat.le_refl _) (by show 0 + 0 + k ≤ 40; omega) ?_
  refine lv_astore (lv' := [(4, .ref q), (3, .int (nI k)), (0, .ref a), (1, .int 1), (2, .int (nI (k + 1)))]) hx hb d_Ar_copyOfRangeInt_12 hl (by decide) rfl (fun ls hl => ?_)
  refine lv_aload_n hx hb d_Ar_copyOfRangeInt_14 rfl (lv_at hl 2 rfl) ?_
  refine lv_iload_n hx hb d_Ar_copyOfRangeInt_15 rfl (lv_at hl 3 rfl) ?_
  refine lv_aload hx hb d_Ar_copyOfRangeInt_16 (lv_at hl 0 rfl) ?_
  refine lv_iconst (v := 0) hx hb d_Ar_copyOfRangeInt_18 (by decide) ?_
  refine lv_aload_n hx hb d_Ar_copyOfRangeInt_19 rfl (lv_at hl 2 rfl) ?_
  refine wd_alen S hK hW 0 ha rfl d_Ar_copyOfRangeInt_20 ?_
  refine lv_iload_n hx hb d_Ar_copyOfRangeInt_21 rfl (lv_at hl 3 rfl) ?_
  refine lv_isub hx hb d_Ar_copyOfRangeInt_22 ?_
  refine lv_iload_n hx hb d_Ar_copyOfRangeInt_23 rfl (lv_at hl 1 rfl) ?_
  rw [show nI n - 1 = nI (n - 1) from nI_pred2 (k := 0) (by omega)]
  refine va_mmin hx hb (S.2.2.1.trans hl.1.symm) S.2.2.2.1 (S.2.2.2.2 _ k_Ar_304) (S.2.2.2.2 _ ks_Ma_min) (S.2.2.2.2 _ kz_Ma) (S.2.2.2.2 _ kc_Ma_min) (Nat.le_of_ble_eq_true rfl) (Nat.le_of_ble_eq_true rfl) (Nat.le_of_ble_eq_true rfl) (Nat.le_of_ble_eq_true rfl) d_Ar_copyOfRangeInt_24 ?_
  rw [show (if nI k < nI (n - 1) then nI k else nI (n - 1)) = nI k from if_ltk (by omega) (by omega)]
  refine wd_copyi S hl.1 k_Ar_150 kn_Sy_arraycopy ks_Sy_arraycopy kz_Sy hK hW 0 ha cq rfl (by decide) (by decide) (nI_pos (by omega)) (by rw [nI_clamp (by omega)]; show 1 + k ≤ n; omega) (by rw [nI_clamp (by omega)]; show 0 + k ≤ k; omega) (Nat.le_of_ble_eq_true rfl) (Nat.le_of_ble_eq_true rfl) d_Ar_copyOfRangeInt_27 (fun H locs w_5 ew_5 hW => ?_)
  refine lv_aload hx hb d_Ar_copyOfRangeInt_30 (lv_at hl 0 rfl) ?_
  refine W.eq (g2 := F0 m 32 ls [va_rf (some q)]) rfl ?_
  exact ct_qret S hr (by first | exact Or.inl ⟨_, rfl⟩ | exact Or.inr ⟨_, rfl⟩) hlocks hW (⟨q, _, rfl, hq, by rw [ew_5, ew_4]; exact bx_uu _ _ _ _, fun i hi => by rw [nI_clamp (by omega)]; exact (pk_cpy_in (Nat.zero_le _) (by show i < 0 + k; omega)).trans (by show f (1 + (i - 0)) = f (1 + i); rw [Nat.sub_zero])⟩) (Nat.le_refl _) (Nat.le_refl _) d_Ar_copyOfRangeInt_32

set_option maxHeartbeats 4000000 in
set_option maxRecDepth 100000 in
/-- copyOfRange(ints, 1, k + 1) -/
theorem c_Ar_copyOfRange (l : Launch) (G : ev_G) (w : wd_M) (sz : Nat) (a n k : Nat) (f : Nat → Int32) (ha : w a = some (.inl (G.2.1 0, n, .inl f))) (hk : 1 + k ≤ n) (hn : n ≤ 40) : ct_q l y_Ar_copyOfRange b_Ar_copyOfRange 3 (some (FieldType.array FieldType.int)) (rm_ 2 1 40) G w sz [.ref a, .int 1, .int (nI (k + 1))] (fun v u => ∃ (q : Nat) (g : Nat → Int32), v = some q ∧ w q = none ∧ u = va_up w q (some (.inl (G.2.1 0, k, .inl g))) ∧ ∀ i, i < k → g i = f (1 + i)) := by
  refine ct_enter (by decide +kernel) (Nat.le_of_ble_eq_true rfl) ?_
  intro p_ e_ s m below meth c_ hsz S hr hlocks hname hE hW ls hl
  have S : CallFix p_ m c_ b_Ar_copyOfRange 3 s _ lw_good "java/util/Arrays" := S
  have hx := S.1
  have hb := S.2.1
  have hK := hE.1
  have hl : lv_has ls 3 [(0, .ref a), (1, .int 1), (2, .int (nI (k + 1)))] := hl
  refine lv_iload_n hx hb d_Ar_copyOfRange_0 rfl (lv_at hl 1 rfl) ?_
  refine lv_if_ne (tgt := 10) hx hb d_Ar_copyOfRange_1 (by decide) (fun h1 => ?_) (fun h1 => ?_)
  · refine lv_aload_n hx hb d_Ar_copyOfRange_10 rfl (lv_at hl 0 rfl) ?_
    refine lv_iload_n hx hb d_Ar_copyOfRange_11 rfl (lv_at hl 1 rfl) ?_
    refine lv_iload_n hx hb d_Ar_copyOfRange_12 rfl (lv_at hl 2 rfl) ?_
    refine ct_goq hW (ct_runS (As := [.ref a, .int 1, .int (nI (k + 1))]) (rest := []) S hE hW (c_Ar_copyOfRangeInt l G _ _ a n k f ha hk hn) kc_Ar_copyOfRangeInt kz_Ar k_Ar_351 ks_Ar_copyOfRangeInt kd_Ar_copyOfRangeInt ⟨Nat.le_of_ble_eq_true rfl, Nat.le_of_ble_eq_true rfl⟩ hl.1 (Nat.le_of_ble_eq_true rfl) d_Ar_copyOfRange_13 ⟨Nat.le_of_ble_eq_true rfl, Nat.le_of_ble_eq_true rfl⟩) (fun v_3 u_1 H locs hp_2 hW => ?_)
    exact ct_qret S hr (by first | exact Or.inl ⟨_, rfl⟩ | exact Or.inr ⟨_, rfl⟩) hlocks hW (hp_2) (Nat.le_refl _) (Nat.le_refl _) d_Ar_copyOfRange_16
  · exact absurd h1 (by decide)
