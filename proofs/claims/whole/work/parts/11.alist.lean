/-! ARRAYLIST. The empty array of the JDK lies outside every world. -/
/-- the elements of a list lie in e: the JDK's own empty array, or one of ours -/
def ea_ (G : ev_G) (w : wd_M) (e : Nat) (els : List Nat) : Prop := (e = G.2.2 0 ∧ els = []) ∨ ∃ (cap : Nat) (f : Nat → Option Nat), w e = some (.inl (G.2.1 2, cap, .inr (.inr (.inr (.inr f))))) ∧ els.length ≤ cap ∧ 0 < cap ∧ cap ≤ 1000 ∧ ∀ i : Nat, i < els.length → f i = els[i]?
/-- a list -/
def al_ (G : ev_G) (w : wd_M) (a e : Nat) (els : List Nat) : Prop := ∃ mo : Int32, w a = some (.inr (4, [.ref e, .int (nI els.length), .int mo])) ∧ ea_ G w e els
/-- an object that may lie in a list -/
def ob_ (w : wd_M) (y : Nat) : Prop := ∃ (ci : Nat) (fs : List Value), w y = some (.inr (ci, fs)) ∧ (ci = 1 ∨ ci = 2 ∨ ci = 3)
theorem ob_cast {G : ev_G} {w : wd_M} {y : Nat} {U : State} (hN : ev_N G U) (h : ob_ w y) : ∃ (ci : Nat) (fs : List Value) (r : vw_C), w y = some (.inr (ci, fs)) ∧ ev_cl[ci]? = some r ∧ va_Nw (.castable r.1 "java/lang/Object") U := by
  obtain ⟨ci, fs, h1, rfl | rfl | rfl⟩ := h
  · exact ⟨1, fs, _, h1, rfl, (hN.2.1 R_La (by simp)).1⟩
  · exact ⟨2, fs, _, h1, rfl, (hN.2.1 R_Pa (by simp)).1⟩
  · exact ⟨3, fs, _, h1, rfl, (hN.2.1 R_To (by simp)).1⟩

set_option maxHeartbeats 4000000 in
set_option maxRecDepth 100000 in
/-- AbstractCollection() -/
theorem c_Ac_init (l : Launch) (G : ev_G) (w : wd_M) (sz : Nat) (a : Nat)  : ct_v l y_Ac_init b_Ac_init 1 none (rm_ 1 0 0) G w sz [.ref a] (fun u => u = w) := by
  refine ct_enter (by decide +kernel) (Nat.le_of_ble_eq_true rfl) ?_
  intro p_ e_ s m below meth c_ hsz S hr hlocks hname hE hW ls hl
  have S : CallFix p_ m c_ b_Ac_init 1 s _ lw_good "java/util/AbstractCollection" := S
  have hx := S.1
  have hb := S.2.1
  have hK := hE.1
  have hl : lv_has ls 1 [(0, .ref a)] := hl
  refine lv_aload_n hx hb d_Ac_init_0 rfl (lv_at hl 0 rfl) ?_
  refine W.objInit hx hb S.2.2.2.1 (S.2.2.2.2 _ k_Ac_1) (S.2.2.2.2 _ ki_Oj_init) (S.2.2.2.2 _ kc_Oj_init) rfl (by rw [S.2.2.1]; exact hl.1) rfl d_Ac_init_1 (Nat.le_of_ble_eq_true rfl) (Nat.le_of_ble_eq_true rfl) ?_
  refine W.eq (g2 := F0 m 4 ls []) rfl ?_
  exact ct_vret S hr hlocks hW (rfl) (Nat.le_refl _) (Nat.le_refl _) d_Ac_init_4

set_option maxHeartbeats 4000000 in
set_option maxRecDepth 100000 in
/-- AbstractList() -/
theorem c_Ab_init (l : Launch) (G : ev_G) (w : wd_M) (sz : Nat) (a : Nat) (ed : Value) (n mo : Int32) (ha : w a = some (.inr (4, [ed, .int n, .int mo]))) : ct_v l y_Ab_init b_Ab_init 1 none (rm_ 2 0 0) G w sz [.ref a] (fun u => u = va_up w a (some (.inr (4, [ed, .int n, .int 0])))) := by
  refine ct_enter (by decide +kernel) (Nat.le_of_ble_eq_true rfl) ?_
  intro p_ e_ s m below meth c_ hsz S hr hlocks hname hE hW ls hl
  have S : CallFix p_ m c_ b_Ab_init 1 s _ lw_good "java/util/AbstractList" := S
  have hx := S.1
  have hb := S.2.1
  have hK := hE.1
  have hl : lv_has ls 1 [(0, .ref a)] := hl
  refine lv_aload_n hx hb d_Ab_init_0 rfl (lv_at hl 0 rfl) ?_
  refine ct_gov hW (ct_runI (As := []) (rest := []) S hE hW (c_Ac_init l G _ _ a) kc_Ac_init kz_Ac k_Ab_1 ki_Ac_init rfl kd_Ac_init ⟨Nat.le_of_ble_eq_true rfl, Nat.le_of_ble_eq_true rfl⟩ hl.1 (Nat.le_of_ble_eq_true rfl) d_Ab_init_1 ⟨Nat.le_of_ble_eq_true rfl, Nat.le_of_ble_eq_true rfl⟩) (fun u_1 H locs hp_2 hW => ?_)
  rw [hp_2] at hW
  refine lv_aload_n hx hb d_Ab_init_4 rfl (lv_at hl 0 rfl) ?_
  refine lv_iconst (v := 0) hx hb d_Ab_init_5 (by decide) ?_
  refine wd_put S i_AL t_AL t_AL_ok n_AL hK hW ha rfl 2 (by decide) k_Ab_7 rfl rfl rfl rfl (Nat.le_of_ble_eq_true rfl) d_Ab_init_6 (fun H locs w_4 ew_4 hW => ?_)
  have ha : w_4 a = some (.inr (4, [ed, .int n, .int 0])) := wd_here ew_4
  exact ct_vret S hr hlocks hW (ew_4) (Nat.le_refl _) (Nat.le_refl _) d_Ab_init_9

set_option maxHeartbeats 4000000 in
set_option maxRecDepth 100000 in
/-- ArrayList() -/
theorem c_AL_init (l : Launch) (G : ev_G) (w : wd_M) (sz : Nat) (a : Nat) (ha : w a = some (.inr (4, [.null, .int 0, .int 0]))) : ct_v l y_AL_init b_AL_init 1 none (rm_ 3 0 0) G w sz [.ref a] (fun u => u = va_up w a (some (.inr (4, [.ref (G.2.2 0), .int 0, .int 0])))) := by
  refine ct_enter (by decide +kernel) (Nat.le_of_ble_eq_true rfl) ?_
  intro p_ e_ s m below meth c_ hsz S hr hlocks hname hE hW ls hl
  have S : CallFix p_ m c_ b_AL_init 1 s _ lw_good "java/util/ArrayList" := S
  have hx := S.1
  have hb := S.2.1
  have hK := hE.1
  have hl : lv_has ls 1 [(0, .ref a)] := hl
  refine lv_aload_n hx hb d_AL_init_0 rfl (lv_at hl 0 rfl) ?_
  refine ct_gov hW (ct_runI (As := []) (rest := []) S hE hW (c_Ab_init l G _ _ a .null 0 0 ha) kc_Ab_init kz_Ab k_AL_1 ki_Ab_init rfl kd_Ab_init ⟨Nat.le_of_ble_eq_true rfl, Nat.le_of_ble_eq_true rfl⟩ hl.1 (Nat.le_of_ble_eq_true rfl) d_AL_init_1 ⟨Nat.le_of_ble_eq_true rfl, Nat.le_of_ble_eq_true rfl⟩) (fun u_1 H locs hp_2 hW => ?_)
  have ha : u_1 a = some (.inr (4, [.null, .int 0, .int 0])) := wd_here hp_2
  refine lv_aload_n hx hb d_AL_init_4 rfl (lv_at hl 0 rfl) ?_
  refine va_gets hx hb hE.2.2.1 hW.2.1 S.2.2.2.1 (S.2.2.2.2 _ k_AL_39) (fun _ h9 => h9) d_AL_init_5 ?_
  refine wd_put S i_AL t_AL t_AL_ok n_AL hK hW ha rfl 0 (by decide) k_AL_9 rfl rfl rfl rfl (Nat.le_of_ble_eq_true rfl) d_AL_init_8 (fun H locs w_4 ew_4 hW => ?_)
  have ha : w_4 a = some (.inr (4, [.ref (G.2.2 0), .int 0, .int 0])) := wd_here ew_4
  exact ct_vret S hr hlocks hW (by rw [ew_4, hp_2]; exact bx_uu _ _ _ _) (Nat.le_refl _) (Nat.le_refl _) d_AL_init_11

set_option maxHeartbeats 4000000 in
set_option maxRecDepth 100000 in
/-- checkIndex(i, n, null), in range -/
theorem c_Pc_checkIndex (l : Launch) (G : ev_G) (w : wd_M) (sz : Nat) (i n : Int32) (hi0 : ¬ i < 0) (hin : ¬ n ≤ i) : ct_i l y_Pc_checkIndex b_Pc_checkIndex 3 (some FieldType.int) (rm_ 0 0 0) G w sz [.int i, .int n, .null] (fun v u => v = i ∧ u = w) := by
  refine ct_enter (by decide +kernel) (Nat.le_of_ble_eq_true rfl) ?_
  intro p_ e_ s m below meth c_ hsz S hr hlocks hname hE hW ls hl
  have S : CallFix p_ m c_ b_Pc_checkIndex 3 s _ lw_good "jdk/internal/util/Preconditions" := S
  have hx := S.1
  have hb := S.2.1
  have hK := hE.1
  have hl : lv_has ls 3 [(0, .int i), (1, .int n), (2, .null)] := hl
  refine lv_iload_n hx hb d_Pc_checkIndex_0 rfl (lv_at hl 0 rfl) ?_
  refine lv_if_lt (tgt := 9) hx hb d_Pc_checkIndex_1 (by decide) (fun h1 => ?_) (fun h1 => ?_)
  · exact absurd h1 hi0
  · refine lv_iload_n hx hb d_Pc_checkIndex_4 rfl (lv_at hl 0 rfl) ?_
    refine lv_iload_n hx hb d_Pc_checkIndex_5 rfl (lv_at hl 1 rfl) ?_
    refine lv_icmp_lt (tgt := 16) hx hb d_Pc_checkIndex_6 (by decide) (fun h6 => ?_) (fun h6 => ?_)
    · refine lv_iload_n hx hb d_Pc_checkIndex_16 rfl (lv_at hl 0 rfl) ?_
      exact ct_iret S hr rfl hlocks hW (⟨rfl, rfl⟩) (Nat.le_refl _) (Nat.le_refl _) d_Pc_checkIndex_17
    · exact absurd (Int32.not_lt.mp h6) hin

set_option maxHeartbeats 4000000 in
set_option maxRecDepth 100000 in
/-- Objects.checkIndex(i, n), in range -/
theorem c_Ob_checkIndex (l : Launch) (G : ev_G) (w : wd_M) (sz : Nat) (i n : Int32) (hi0 : ¬ i < 0) (hin : ¬ n ≤ i) : ct_i l y_Ob_checkIndex b_Ob_checkIndex 2 (some FieldType.int) (rm_ 1 0 0) G w sz [.int i, .int n] (fun v u => v = i ∧ u = w) := by
  refine ct_enter (by decide +kernel) (Nat.le_of_ble_eq_true rfl) ?_
  intro p_ e_ s m below meth c_ hsz S hr hlocks hname hE hW ls hl
  have S : CallFix p_ m c_ b_Ob_checkIndex 2 s _ lw_good "java/util/Objects" := S
  have hx := S.1
  have hb := S.2.1
  have hK := hE.1
  have hl : lv_has ls 2 [(0, .int i), (1, .int n)] := hl
  refine lv_iload_n hx hb d_Ob_checkIndex_0 rfl (lv_at hl 0 rfl) ?_
  refine lv_iload_n hx hb d_Ob_checkIndex_1 rfl (lv_at hl 1 rfl) ?_
  refine lv_null hx hb d_Ob_checkIndex_2 ?_
  refine ct_goi hW (ct_runS (As := [.int i, .int n, .null]) (rest := []) S hE hW (c_Pc_checkIndex l G _ _ i n hi0 hin) kc_Pc_checkIndex kz_Pc k_Ob_105 ks_Pc_checkIndex kd_Pc_checkIndex ⟨Nat.le_of_ble_eq_true rfl, Nat.le_of_ble_eq_true rfl⟩ hl.1 (Nat.le_of_ble_eq_true rfl) d_Ob_checkIndex_3 ⟨Nat.le_of_ble_eq_true rfl, Nat.le_of_ble_eq_true rfl⟩) (fun v_3 u_1 H locs hp_2 hW => ?_)
  obtain ⟨hv, hu_4⟩ := hp_2
  rw [hu_4] at hW
  exact ct_iret S hr rfl hlocks hW (⟨hv, rfl⟩) (Nat.le_refl _) (Nat.le_refl _) d_Ob_checkIndex_6

set_option maxHeartbeats 4000000 in
set_option maxRecDepth 100000 in
/-- elementData(i) -/
theorem c_AL_elementData (l : Launch) (G : ev_G) (w : wd_M) (sz : Nat) (a e cap : Nat) (n mo i : Int32) (f : Nat → Option Nat) (ha : w a = some (.inr (4, [.ref e, .int n, .int mo]))) (he : w e = some (.inl (G.2.1 2, cap, .inr (.inr (.inr (.inr f)))))) (hin : vp_in i cap) : ct_q l y_AL_elementData b_AL_elementData 2 (some (FieldType.object "java/lang/Object")) (rm_ 0 0 0) G w sz [.ref a, .int i] (fun v u => v = f i.toNatClampNeg ∧ u = w) := by
  refine ct_enter (by decide +kernel) (Nat.le_of_ble_eq_true rfl) ?_
  intro p_ e_ s m below meth c_ hsz S hr hlocks hname hE hW ls hl
  have S : CallFix p_ m c_ b_AL_elementData 2 s _ lw_good "java/util/ArrayList" := S
  have hx := S.1
  have hb := S.2.1
  have hK := hE.1
  have hl : lv_has ls 2 [(0, .ref a), (1, .int i)] := hl
  refine lv_aload_n hx hb d_AL_elementData_0 rfl (lv_at hl 0 rfl) ?_
  refine wd_get S i_AL hK hW ha rfl 0 (by decide) k_AL_9 rfl rfl d_AL_elementData_1 ?_
  refine lv_iload_n hx hb d_AL_elementData_4 rfl (lv_at hl 1 rfl) ?_
  refine wd_aald S hK hW 2 he rfl hin d_AL_elementData_5 ?_
  exact ct_qret S hr (by first | exact Or.inl ⟨_, rfl⟩ | exact Or.inr ⟨_, rfl⟩) hlocks hW (⟨rfl, rfl⟩) (Nat.le_refl _) (Nat.le_refl _) d_AL_elementData_6

set_option maxHeartbeats 4000000 in
set_option maxRecDepth 100000 in
/-- get(k), in range -/
theorem c_AL_get (l : Launch) (G : ev_G) (w : wd_M) (sz : Nat) (a e : Nat) (els : List Nat) (k : Nat) (hal : al_ G w a e els) (hk : k < els.length) : ct_q l y_AL_get b_AL_get 2 (some (FieldType.object "java/lang/Object")) (rm_ 2 0 0) G w sz [.ref a, .int (nI k)] (fun v u => v = els[k]? ∧ u = w) := by
  refine ct_enter (by decide +kernel) (Nat.le_of_ble_eq_true rfl) ?_
  intro p_ e_ s m below meth c_ hsz S hr hlocks hname hE hW ls hl
  have S : CallFix p_ m c_ b_AL_get 2 s _ lw_good "java/util/ArrayList" := S
  have hx := S.1
  have hb := S.2.1
  have hK := hE.1
  have hl : lv_has ls 2 [(0, .ref a), (1, .int (nI k))] := hl
  obtain ⟨mo, ha, he⟩ := hal
  rcases he with ⟨-, rfl⟩ | ⟨cap, f, he, h1, h2, h3, hf⟩
  · exact absurd hk (Nat.not_lt_zero k)
  refine lv_iload_n hx hb d_AL_get_0 rfl (lv_at hl 1 rfl) ?_
  refine lv_aload_n hx hb d_AL_get_1 rfl (lv_at hl 0 rfl) ?_
  refine wd_get S i_AL hK hW ha rfl 1 (by decide) k_AL_48 rfl rfl d_AL_get_2 ?_
  refine ct_goi hW (ct_runS (As := [.int (nI k), .int (nI els.length)]) (rest := []) S hE hW (c_Ob_checkIndex l G _ _ (nI k) (nI els.length) (nI_pos (by omega)) (nI_ge hk (by omega))) kc_Ob_checkIndex kz_Ob k_AL_118 ks_Ob_checkIndex kd_Ob_checkIndex ⟨Nat.le_of_ble_eq_true rfl, Nat.le_of_ble_eq_true rfl⟩ hl.1 (Nat.le_of_ble_eq_true rfl) d_AL_get_5 ⟨Nat.le_of_ble_eq_true rfl, Nat.le_of_ble_eq_true rfl⟩) (fun v_3 u_1 H locs hp_2 hW => ?_)
  obtain ⟨hv1, hu_4⟩ := hp_2
  rw [hu_4] at hW
  refine lv_pop hx hb d_AL_get_8 rfl ?_
  refine lv_aload_n hx hb d_AL_get_9 rfl (lv_at hl 0 rfl) ?_
  refine lv_iload_n hx hb d_AL_get_10 rfl (lv_at hl 1 rfl) ?_
  refine ct_goq hW (ct_runV (As := [.int (nI k)]) (rest := []) (q := (R_AL, F_AL, 3)) S hE hW (c_AL_elementData l G _ _ a e cap (nI els.length) mo (nI k) f ha he (vp_in_nI (by omega) (by omega))) ha rfl kc_AL_elementData kz_AL k_AL_123 ki_AL_elementData kv_AL_elementData kd_AL_elementData ⟨Nat.le_of_ble_eq_true rfl, Nat.le_of_ble_eq_true rfl⟩ hl.1 (Nat.le_of_ble_eq_true rfl) d_AL_get_11 ⟨Nat.le_of_ble_eq_true rfl, Nat.le_of_ble_eq_true rfl⟩) (fun v_7 u_5 H locs hp_6 hW => ?_)
  obtain ⟨hv2, hu_8⟩ := hp_6
  rw [hu_8] at hW
  rw [nI_clamp (by omega), hf k hk] at hv2
  exact ct_qret S hr (by first | exact Or.inl ⟨_, rfl⟩ | exact Or.inr ⟨_, rfl⟩) hlocks hW (⟨hv2, rfl⟩) (Nat.le_refl _) (Nat.le_refl _) d_AL_get_14
