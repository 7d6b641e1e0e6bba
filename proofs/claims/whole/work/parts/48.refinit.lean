/-! THE REFERENCE: its constructor. -/

set_option maxHeartbeats 4000000 in
set_option maxRecDepth 100000 in
/-- HyphenRowsModel() -/
theorem c_Mo_init (l : Launch) (G : ev_G) (w : wd_M) (sz : Nat) (tg : Nat → Nat) (t : Nat) (ht0 : w t = some (.inr (5, [.int 0, .null, .null, .null, .null, .null, .int 0, .null, .null, .int 0, .int 0, .null, .null, .null, .null, .int 0, .null, .null, .null, .null, .int 0, .null, .null, .int 0, .null]))) : ct_v l y_Mo_init b_Mo_init 1 none (rm_ 1 18 7549) G w sz [.ref t] (fun u => ∃ tg2 : Nat → Nat, mo_ G u tg2 t [] [] [] [] [] [] [] ∧ (∀ x, w x ≠ none → x ≠ t → tg2 x = tg x) ∧ ∀ x, w x ≠ none → x ≠ t → u x = w x) := by
  refine ct_enter (by decide +kernel) (Nat.le_of_ble_eq_true rfl) ?_
  intro p_ e_ s m below meth c_ hsz S hr hlocks hname hE hW ls hl
  have S : CallFix p_ m c_ b_Mo_init 1 s _ lw_good "HyphenRowsModel" := S
  have hx := S.1
  have hb := S.2.1
  have hK := hE.1
  have hl : lv_has ls 1 [(0, .ref t)] := hl
  refine lv_aload_n hx hb d_Mo_init_0 rfl (lv_at hl 0 rfl) ?_
  refine W.objInit hx hb S.2.2.2.1 (S.2.2.2.2 _ k_Mo_1) (S.2.2.2.2 _ ki_Oj_init) (S.2.2.2.2 _ kc_Oj_init) rfl (by rw [S.2.2.1]; exact hl.1) rfl d_Mo_init_1 (Nat.le_of_ble_eq_true rfl) (Nat.le_of_ble_eq_true rfl) ?_
  refine W.eq (g2 := F0 m 4 ls []) rfl ?_
  refine lv_aload_n hx hb d_Mo_init_4 rfl (lv_at hl 0 rfl) ?_
  refine lv_sipush (v := 1024) hx hb d_Mo_init_5 (by decide) ?_
  refine wd_newa S (atype := .int) ka_int rfl hK hW 0 rfl (n := 1024) (N' := 1024) (a0 := (1024, .inl (fun _ => 0))) (fun _ => rfl) (by decide) (by decide) (by decide) (Nat.le_of_ble_eq_true rfl) (Nat.le_of_ble_eq_true rfl) d_Mo_init_8 (fun q0 H hq0 w_1 ew_1 hW => ?_)
  have n_t_q0 : t ≠ q0 := wd_neN ht0 hq0
  have zq0 : w q0 = none := by have h9 := hq0; exact h9
  have ht0 := wd_keep ew_1 n_t_q0 ht0
  have cq0 : w_1 q0 = some (.inl (G.2.1 0, 1024, .inl (fun _ => 0))) := wd_here ew_1
  refine wd_putF S i_Mo t_Mo t_Mo_ok n_Mo hK hW ht0 rfl 1 (by decide) k_Mo_7 rfl rfl hname rfl rfl rfl (Nat.le_of_ble_eq_true rfl) d_Mo_init_10 (fun H locs w_2 ew_2 hW => ?_)
  have cq0 := wd_keep ew_2 (Ne.symm n_t_q0) cq0
  have ht0 : w_2 t = some (.inr (5, [.int 0, .ref q0, .null, .null, .null, .null, .int 0, .null, .null, .int 0, .int 0, .null, .null, .null, .null, .int 0, .null, .null, .null, .null, .int 0, .null, .null, .int 0, .null])) := wd_here ew_2
  refine lv_aload_n hx hb d_Mo_init_13 rfl (lv_at hl 0 rfl) ?_
  refine lv_sipush (v := 1024) hx hb d_Mo_init_14 (by decide) ?_
  refine wd_newa S (atype := .boolean) ka_boolean rfl hK hW 1 rfl (n := 1024) (N' := 1024) (a0 := (1024, .inl (fun _ => 0))) (fun _ => rfl) (by decide) (by decide) (by decide) (Nat.le_of_ble_eq_true rfl) (Nat.le_of_ble_eq_true rfl) d_Mo_init_17 (fun q1 H hq1 w_3 ew_3 hW => ?_)
  have n_q0_q1 : q0 ≠ q1 := wd_neN cq0 hq1
  have n_t_q1 : t ≠ q1 := wd_neN ht0 hq1
  have zq1 : w q1 = none := by have h9 := hq1; rw [ew_2, va_up_ne _ _ n_t_q1.symm, ew_1, va_up_ne _ _ n_q0_q1.symm] at h9; exact h9
  have ht0 := wd_keep ew_3 n_t_q1 ht0
  have cq0 := wd_keep ew_3 n_q0_q1 cq0
  have cq1 : w_3 q1 = some (.inl (G.2.1 1, 1024, .inl (fun _ => 0))) := wd_here ew_3
  refine wd_putF S i_Mo t_Mo t_Mo_ok n_Mo hK hW ht0 rfl 2 (by decide) k_Mo_13 rfl rfl hname rfl rfl rfl (Nat.le_of_ble_eq_true rfl) d_Mo_init_19 (fun H locs w_4 ew_4 hW => ?_)
  have cq0 := wd_keep ew_4 (Ne.symm n_t_q0) cq0
  have cq1 := wd_keep ew_4 (Ne.symm n_t_q1) cq1
  have ht0 : w_4 t = some (.inr (5, [.int 0, .ref q0, .ref q1, .null, .null, .null, .int 0, .null, .null, .int 0, .int 0, .null, .null, .null, .null, .int 0, .null, .null, .null, .null, .int 0, .null, .null, .int 0, .null])) := wd_here ew_4
  refine lv_aload_n hx hb d_Mo_init_22 rfl (lv_at hl 0 rfl) ?_
  refine lv_iconst (v := 4) hx hb d_Mo_init_23 (by decide) ?_
  refine wd_newa S (atype := .int) ka_int rfl hK hW 0 rfl (n := 4) (N' := 4) (a0 := (4, .inl (fun _ => 0))) (fun _ => rfl) (by decide) (by decide) (by decide) (Nat.le_of_ble_eq_true rfl) (Nat.le_of_ble_eq_true rfl) d_Mo_init_24 (fun q2 H hq2 w_5 ew_5 hW => ?_)
  have n_q0_q2 : q0 ≠ q2 := wd_neN cq0 hq2
  have n_q1_q2 : q1 ≠ q2 := wd_neN cq1 hq2
  have n_t_q2 : t ≠ q2 := wd_neN ht0 hq2
  have zq2 : w q2 = none := by have h9 := hq2; rw [ew_4, va_up_ne _ _ n_t_q2.symm, ew_3, va_up_ne _ _ n_q1_q2.symm, ew_2, va_up_ne _ _ n_t_q2.symm, ew_1, va_up_ne _ _ n_q0_q2.symm] at h9; exact h9
  have ht0 := wd_keep ew_5 n_t_q2 ht0
  have cq0 := wd_keep ew_5 n_q0_q2 cq0
  have cq1 := wd_keep ew_5 n_q1_q2 cq1
  have cq2 : w_5 q2 = some (.inl (G.2.1 0, 4, .inl (fun _ => 0))) := wd_here ew_5
  refine wd_putF S i_Mo t_Mo t_Mo_ok n_Mo hK hW ht0 rfl 3 (by decide) k_Mo_17 rfl rfl hname rfl rfl rfl (Nat.le_of_ble_eq_true rfl) d_Mo_init_26 (fun H locs w_6 ew_6 hW => ?_)
  have cq0 := wd_keep ew_6 (Ne.symm n_t_q0) cq0
  have cq1 := wd_keep ew_6 (Ne.symm n_t_q1) cq1
  have cq2 := wd_keep ew_6 (Ne.symm n_t_q2) cq2
  have ht0 : w_6 t = some (.inr (5, [.int 0, .ref q0, .ref q1, .ref q2, .null, .null, .int 0, .null, .null, .int 0, .int 0, .null, .null, .null, .null, .int 0, .null, .null, .null, .null, .int 0, .null, .null, .int 0, .null])) := wd_here ew_6
  refine lv_aload_n hx hb d_Mo_init_29 rfl (lv_at hl 0 rfl) ?_
  refine lv_iconst (v := 4) hx hb d_Mo_init_30 (by decide) ?_
  refine wd_newa S (atype := .int) ka_int rfl hK hW 0 rfl (n := 4) (N' := 4) (a0 := (4, .inl (fun _ => 0))) (fun _ => rfl) (by decide) (by decide) (by decide) (Nat.le_of_ble_eq_true rfl) (Nat.le_of_ble_eq_true rfl) d_Mo_init_31 (fun q3 H hq3 w_7 ew_7 hW => ?_)
  have n_q0_q3 : q0 ≠ q3 := wd_neN cq0 hq3
  have n_q1_q3 : q1 ≠ q3 := wd_neN cq1 hq3
  have n_q2_q3 : q2 ≠ q3 := wd_neN cq2 hq3
  have n_t_q3 : t ≠ q3 := wd_neN ht0 hq3
  have zq3 : w q3 = none := by have h9 := hq3; rw [ew_6, va_up_ne _ _ n_t_q3.symm, ew_5, va_up_ne _ _ n_q2_q3.symm, ew_4, va_up_ne _ _ n_t_q3.symm, ew_3, va_up_ne _ _ n_q1_q3.symm, ew_2, va_up_ne _ _ n_t_q3.symm, ew_1, va_up_ne _ _ n_q0_q3.symm] at h9; exact h9
  have ht0 := wd_keep ew_7 n_t_q3 ht0
  have cq0 := wd_keep ew_7 n_q0_q3 cq0
  have cq1 := wd_keep ew_7 n_q1_q3 cq1
  have cq2 := wd_keep ew_7 n_q2_q3 cq2
  have cq3 : w_7 q3 = some (.inl (G.2.1 0, 4, .inl (fun _ => 0))) := wd_here ew_7
  refine wd_putF S i_Mo t_Mo t_Mo_ok n_Mo hK hW ht0 rfl 4 (by decide) k_Mo_20 rfl rfl hname rfl rfl rfl (Nat.le_of_ble_eq_true rfl) d_Mo_init_33 (fun H locs w_8 ew_8 hW => ?_)
  have cq0 := wd_keep ew_8 (Ne.symm n_t_q0) cq0
  have cq1 := wd_keep ew_8 (Ne.symm n_t_q1) cq1
  have cq2 := wd_keep ew_8 (Ne.symm n_t_q2) cq2
  have cq3 := wd_keep ew_8 (Ne.symm n_t_q3) cq3
  have ht0 : w_8 t = some (.inr (5, [.int 0, .ref q0, .ref q1, .ref q2, .ref q3, .null, .int 0, .null, .null, .int 0, .int 0, .null, .null, .null, .null, .int 0, .null, .null, .null, .null, .int 0, .null, .null, .int 0, .null])) := wd_here ew_8
  refine lv_aload_n hx hb d_Mo_init_36 rfl (lv_at hl 0 rfl) ?_
  refine lv_iconst (v := 4) hx hb d_Mo_init_37 (by decide) ?_
  refine wd_newa S (atype := .boolean) ka_boolean rfl hK hW 1 rfl (n := 4) (N' := 4) (a0 := (4, .inl (fun _ => 0))) (fun _ => rfl) (by decide) (by decide) (by decide) (Nat.le_of_ble_eq_true rfl) (Nat.le_of_ble_eq_true rfl) d_Mo_init_38 (fun q4 H hq4 w_9 ew_9 hW => ?_)
  have n_q0_q4 : q0 ≠ q4 := wd_neN cq0 hq4
  have n_q1_q4 : q1 ≠ q4 := wd_neN cq1 hq4
  have n_q2_q4 : q2 ≠ q4 := wd_neN cq2 hq4
  have n_q3_q4 : q3 ≠ q4 := wd_neN cq3 hq4
  have n_t_q4 : t ≠ q4 := wd_neN ht0 hq4
  have zq4 : w q4 = none := by have h9 := hq4; rw [ew_8, va_up_ne _ _ n_t_q4.symm, ew_7, va_up_ne _ _ n_q3_q4.symm, ew_6, va_up_ne _ _ n_t_q4.symm, ew_5, va_up_ne _ _ n_q2_q4.symm, ew_4, va_up_ne _ _ n_t_q4.symm, ew_3, va_up_ne _ _ n_q1_q4.symm, ew_2, va_up_ne _ _ n_t_q4.symm, ew_1, va_up_ne _ _ n_q0_q4.symm] at h9; exact h9
  have ht0 := wd_keep ew_9 n_t_q4 ht0
  have cq0 := wd_keep ew_9 n_q0_q4 cq0
  have cq1 := wd_keep ew_9 n_q1_q4 cq1
  have cq2 := wd_keep ew_9 n_q2_q4 cq2
  have cq3 := wd_keep ew_9 n_q3_q4 cq3
  have cq4 : w_9 q4 = some (.inl (G.2.1 1, 4, .inl (fun _ => 0))) := wd_here ew_9
  refine wd_putF S i_Mo t_Mo t_Mo_ok n_Mo hK hW ht0 rfl 5 (by decide) k_Mo_23 rfl rfl hname rfl rfl rfl (Nat.le_of_ble_eq_true rfl) d_Mo_init_40 (fun H locs w_10 ew_10 hW => ?_)
  have cq0 := wd_keep ew_10 (Ne.symm n_t_q0) cq0
  have cq1 := wd_keep ew_10 (Ne.symm n_t_q1) cq1
  have cq2 := wd_keep ew_10 (Ne.symm n_t_q2) cq2
  have cq3 := wd_keep ew_10 (Ne.symm n_t_q3) cq3
  have cq4 := wd_keep ew_10 (Ne.symm n_t_q4) cq4
  have ht0 : w_10 t = some (.inr (5, [.int 0, .ref q0, .ref q1, .ref q2, .ref q3, .ref q4, .int 0, .null, .null, .int 0, .int 0, .null, .null, .null, .null, .int 0, .null, .null, .null, .null, .int 0, .null, .null, .int 0, .null])) := wd_here ew_10
  refine lv_aload_n hx hb d_Mo_init_43 rfl (lv_at hl 0 rfl) ?_
  refine lv_bipush (v := 12) hx hb d_Mo_init_44 (by decide) ?_
  refine wd_newa S (atype := .int) ka_int rfl hK hW 0 rfl (n := 12) (N' := 12) (a0 := (12, .inl (fun _ => 0))) (fun _ => rfl) (by decide) (by decide) (by decide) (Nat.le_of_ble_eq_true rfl) (Nat.le_of_ble_eq_true rfl) d_Mo_init_46 (fun q5 H hq5 w_11 ew_11 hW => ?_)
  have n_q0_q5 : q0 ≠ q5 := wd_neN cq0 hq5
  have n_q1_q5 : q1 ≠ q5 := wd_neN cq1 hq5
  have n_q2_q5 : q2 ≠ q5 := wd_neN cq2 hq5
  have n_q3_q5 : q3 ≠ q5 := wd_neN cq3 hq5
  have n_q4_q5 : q4 ≠ q5 := wd_neN cq4 hq5
  have n_t_q5 : t ≠ q5 := wd_neN ht0 hq5
  have zq5 : w q5 = none := by have h9 := hq5; rw [ew_10, va_up_ne _ _ n_t_q5.symm, ew_9, va_up_ne _ _ n_q4_q5.symm, ew_8, va_up_ne _ _ n_t_q5.symm, ew_7, va_up_ne _ _ n_q3_q5.symm, ew_6, va_up_ne _ _ n_t_q5.symm, ew_5, va_up_ne _ _ n_q2_q5.symm, ew_4, va_up_ne _ _ n_t_q5.symm, ew_3, va_up_ne _ _ n_q1_q5.symm, ew_2, va_up_ne _ _ n_t_q5.symm, ew_1, va_up_ne _ _ n_q0_q5.symm] at h9; exact h9
  have ht0 := wd_keep ew_11 n_t_q5 ht0
  have cq0 := wd_keep ew_11 n_q0_q5 cq0
  have cq1 := wd_keep ew_11 n_q1_q5 cq1
  have cq2 := wd_keep ew_11 n_q2_q5 cq2
  have cq3 := wd_keep ew_11 n_q3_q5 cq3
  have cq4 := wd_keep ew_11 n_q4_q5 cq4
  have cq5 : w_11 q5 = some (.inl (G.2.1 0, 12, .inl (fun _ => 0))) := wd_here ew_11
  refine wd_putF S i_Mo t_Mo t_Mo_ok n_Mo hK hW ht0 rfl 7 (by decide) k_Mo_26 rfl rfl hname rfl rfl rfl (Nat.le_of_ble_eq_true rfl) d_Mo_init_48 (fun H locs w_12 ew_12 hW => ?_)
  have cq0 := wd_keep ew_12 (Ne.symm n_t_q0) cq0
  have cq1 := wd_keep ew_12 (Ne.symm n_t_q1) cq1
  have cq2 := wd_keep ew_12 (Ne.symm n_t_q2) cq2
  have cq3 := wd_keep ew_12 (Ne.symm n_t_q3) cq3
  have cq4 := wd_keep ew_12 (Ne.symm n_t_q4) cq4
  have cq5 := wd_keep ew_12 (Ne.symm n_t_q5) cq5
  have ht0 : w_12 t = some (.inr (5, [.int 0, .ref q0, .ref q1, .ref q2, .ref q3, .ref q4, .int 0, .ref q5, .null, .int 0, .int 0, .null, .null, .null, .null, .int 0, .null, .null, .null, .null, .int 0, .null, .null, .int 0, .null])) := wd_here ew_12
  refine lv_aload_n hx hb d_Mo_init_51 rfl (lv_at hl 0 rfl) ?_
  refine lv_bipush (v := 13) hx hb d_Mo_init_52 (by decide) ?_
  refine wd_newa S (atype := .int) ka_int rfl hK hW 0 rfl (n := 13) (N' := 13) (a0 := (13, .inl (fun _ => 0))) (fun _ => rfl) (by decide) (by decide) (by decide) (Nat.le_of_ble_eq_true rfl) (Nat.le_of_ble_eq_true rfl) d_Mo_init_54 (fun q6 H hq6 w_13 ew_13 hW => ?_)
  have n_q0_q6 : q0 ≠ q6 := wd_neN cq0 hq6
  have n_q1_q6 : q1 ≠ q6 := wd_neN cq1 hq6
  have n_q2_q6 : q2 ≠ q6 := wd_neN cq2 hq6
  have n_q3_q6 : q3 ≠ q6 := wd_neN cq3 hq6
  have n_q4_q6 : q4 ≠ q6 := wd_neN cq4 hq6
  have n_q5_q6 : q5 ≠ q6 := wd_neN cq5 hq6
  have n_t_q6 : t ≠ q6 := wd_neN ht0 hq6
  have zq6 : w q6 = none := by have h9 := hq6; rw [ew_12, va_up_ne _ _ n_t_q6.symm, ew_11, va_up_ne _ _ n_q5_q6.symm, ew_10, va_up_ne _ _ n_t_q6.symm, ew_9, va_up_ne _ _ n_q4_q6.symm, ew_8, va_up_ne _ _ n_t_q6.symm, ew_7, va_up_ne _ _ n_q3_q6.symm, ew_6, va_up_ne _ _ n_t_q6.symm, ew_5, va_up_ne _ _ n_q2_q6.symm, ew_4, va_up_ne _ _ n_t_q6.symm, ew_3, va_up_ne _ _ n_q1_q6.symm, ew_2, va_up_ne _ _ n_t_q6.symm, ew_1, va_up_ne _ _ n_q0_q6.symm] at h9; exact h9
  have ht0 := wd_keep ew_13 n_t_q6 ht0
  have cq0 := wd_keep ew_13 n_q0_q6 cq0
  have cq1 := wd_keep ew_13 n_q1_q6 cq1
  have cq2 := wd_keep ew_13 n_q2_q6 cq2
  have cq3 := wd_keep ew_13 n_q3_q6 cq3
  have cq4 := wd_keep ew_13 n_q4_q6 cq4
  have cq5 := wd_keep ew_13 n_q5_q6 cq5
  have cq6 : w_13 q6 = some (.inl (G.2.1 0, 13, .inl (fun _ => 0))) := wd_here ew_13
  refine wd_putF S i_Mo t_Mo t_Mo_ok n_Mo hK hW ht0 rfl 8 (by decide) k_Mo_29 rfl rfl hname rfl rfl rfl (Nat.le_of_ble_eq_true rfl) d_Mo_init_56 (fun H locs w_14 ew_14 hW => ?_)
  have cq0 := wd_keep ew_14 (Ne.symm n_t_q0) cq0
  have cq1 := wd_keep ew_14 (Ne.symm n_t_q1) cq1
  have cq2 := wd_keep ew_14 (Ne.symm n_t_q2) cq2
  have cq3 := wd_keep ew_14 (Ne.symm n_t_q3) cq3
  have cq4 := wd_keep ew_14 (Ne.symm n_t_q4) cq4
  have cq5 := wd_keep ew_14 (Ne.symm n_t_q5) cq5
  have cq6 := wd_keep ew_14 (Ne.symm n_t_q6) cq6
  have ht0 : w_14 t = some (.inr (5, [.int 0, .ref q0, .ref q1, .ref q2, .ref q3, .ref q4, .int 0, .ref q5, .ref q6, .int 0, .int 0, .null, .null, .null, .null, .int 0, .null, .null, .null, .null, .int 0, .null, .null, .int 0, .null])) := wd_here ew_14
  refine lv_aload_n hx hb d_Mo_init_59 rfl (lv_at hl 0 rfl) ?_
  refine lv_sipush (v := 150) hx hb d_Mo_init_60 (by decide) ?_
  refine wd_newa S (atype := .int) ka_int rfl hK hW 0 rfl (n := 150) (N' := 150) (a0 := (150, .inl (fun _ => 0))) (fun _ => rfl) (by decide) (by decide) (by decide) (Nat.le_of_ble_eq_true rfl) (Nat.le_of_ble_eq_true rfl) d_Mo_init_63 (fun q7 H hq7 w_15 ew_15 hW => ?_)
  have n_q0_q7 : q0 ≠ q7 := wd_neN cq0 hq7
  have n_q1_q7 : q1 ≠ q7 := wd_neN cq1 hq7
  have n_q2_q7 : q2 ≠ q7 := wd_neN cq2 hq7
  have n_q3_q7 : q3 ≠ q7 := wd_neN cq3 hq7
  have n_q4_q7 : q4 ≠ q7 := wd_neN cq4 hq7
  have n_q5_q7 : q5 ≠ q7 := wd_neN cq5 hq7
  have n_q6_q7 : q6 ≠ q7 := wd_neN cq6 hq7
  have n_t_q7 : t ≠ q7 := wd_neN ht0 hq7
  have zq7 : w q7 = none := by have h9 := hq7; rw [ew_14, va_up_ne _ _ n_t_q7.symm, ew_13, va_up_ne _ _ n_q6_q7.symm, ew_12, va_up_ne _ _ n_t_q7.symm, ew_11, va_up_ne _ _ n_q5_q7.symm, ew_10, va_up_ne _ _ n_t_q7.symm, ew_9, va_up_ne _ _ n_q4_q7.symm, ew_8, va_up_ne _ _ n_t_q7.symm, ew_7, va_up_ne _ _ n_q3_q7.symm, ew_6, va_up_ne _ _ n_t_q7.symm, ew_5, va_up_ne _ _ n_q2_q7.symm, ew_4, va_up_ne _ _ n_t_q7.symm, ew_3, va_up_ne _ _ n_q1_q7.symm, ew_2, va_up_ne _ _ n_t_q7.symm, ew_1, va_up_ne _ _ n_q0_q7.symm] at h9; exact h9
  have ht0 := wd_keep ew_15 n_t_q7 ht0
  have cq0 := wd_keep ew_15 n_q0_q7 cq0
  have cq1 := wd_keep ew_15 n_q1_q7 cq1
  have cq2 := wd_keep ew_15 n_q2_q7 cq2
  have cq3 := wd_keep ew_15 n_q3_q7 cq3
  have cq4 := wd_keep ew_15 n_q4_q7 cq4
  have cq5 := wd_keep ew_15 n_q5_q7 cq5
  have cq6 := wd_keep ew_15 n_q6_q7 cq6
  have cq7 : w_15 q7 = some (.inl (G.2.1 0, 150, .inl (fun _ => 0))) := wd_here ew_15
  refine wd_putF S i_Mo t_Mo t_Mo_ok n_Mo hK hW ht0 rfl 11 (by decide) k_Mo_32 rfl rfl hname rfl rfl rfl (Nat.le_of_ble_eq_true rfl) d_Mo_init_65 (fun H locs w_16 ew_16 hW => ?_)
  have cq0 := wd_keep ew_16 (Ne.symm n_t_q0) cq0
  have cq1 := wd_keep ew_16 (Ne.symm n_t_q1) cq1
  have cq2 := wd_keep ew_16 (Ne.symm n_t_q2) cq2
  have cq3 := wd_keep ew_16 (Ne.symm n_t_q3) cq3
  have cq4 := wd_keep ew_16 (Ne.symm n_t_q4) cq4
  have cq5 := wd_keep ew_16 (Ne.symm n_t_q5) cq5
  have cq6 := wd_keep ew_16 (Ne.symm n_t_q6) cq6
  have cq7 := wd_keep ew_16 (Ne.symm n_t_q7) cq7
  have ht0 : w_16 t = some (.inr (5, [.int 0, .ref q0, .ref q1, .ref q2, .ref q3, .ref q4, .int 0, .ref q5, .ref q6, .int 0, .int 0, .ref q7, .null, .null, .null, .int 0, .null, .null, .null, .null, .int 0, .null, .null, .int 0, .null])) := wd_here ew_16
  refine lv_aload_n hx hb d_Mo_init_68 rfl (lv_at hl 0 rfl) ?_
  refine lv_sipush (v := 150) hx hb d_Mo_init_69 (by decide) ?_
  refine wd_newa S (atype := .int) ka_int rfl hK hW 0 rfl (n := 150) (N' := 150) (a0 := (150, .inl (fun _ => 0))) (fun _ => rfl) (by decide) (by decide) (by decide) (Nat.le_of_ble_eq_true rfl) (Nat.le_of_ble_eq_true rfl) d_Mo_init_72 (fun q8 H hq8 w_17 ew_17 hW => ?_)
  have n_q0_q8 : q0 ≠ q8 := wd_neN cq0 hq8
  have n_q1_q8 : q1 ≠ q8 := wd_neN cq1 hq8
  have n_q2_q8 : q2 ≠ q8 := wd_neN cq2 hq8
  have n_q3_q8 : q3 ≠ q8 := wd_neN cq3 hq8
  have n_q4_q8 : q4 ≠ q8 := wd_neN cq4 hq8
  have n_q5_q8 : q5 ≠ q8 := wd_neN cq5 hq8
  have n_q6_q8 : q6 ≠ q8 := wd_neN cq6 hq8
  have n_q7_q8 : q7 ≠ q8 := wd_neN cq7 hq8
  have n_t_q8 : t ≠ q8 := wd_neN ht0 hq8
  have zq8 : w q8 = none := by have h9 := hq8; rw [ew_16, va_up_ne _ _ n_t_q8.symm, ew_15, va_up_ne _ _ n_q7_q8.symm, ew_14, va_up_ne _ _ n_t_q8.symm, ew_13, va_up_ne _ _ n_q6_q8.symm, ew_12, va_up_ne _ _ n_t_q8.symm, ew_11, va_up_ne _ _ n_q5_q8.symm, ew_10, va_up_ne _ _ n_t_q8.symm, ew_9, va_up_ne _ _ n_q4_q8.symm, ew_8, va_up_ne _ _ n_t_q8.symm, ew_7, va_up_ne _ _ n_q3_q8.symm, ew_6, va_up_ne _ _ n_t_q8.symm, ew_5, va_up_ne _ _ n_q2_q8.symm, ew_4, va_up_ne _ _ n_t_q8.symm, ew_3, va_up_ne _ _ n_q1_q8.symm, ew_2, va_up_ne _ _ n_t_q8.symm, ew_1, va_up_ne _ _ n_q0_q8.symm] at h9; exact h9
  have ht0 := wd_keep ew_17 n_t_q8 ht0
  have cq0 := wd_keep ew_17 n_q0_q8 cq0
  have cq1 := wd_keep ew_17 n_q1_q8 cq1
  have cq2 := wd_keep ew_17 n_q2_q8 cq2
  have cq3 := wd_keep ew_17 n_q3_q8 cq3
  have cq4 := wd_keep ew_17 n_q4_q8 cq4
  have cq5 := wd_keep ew_17 n_q5_q8 cq5
  have cq6 := wd_keep ew_17 n_q6_q8 cq6
  have cq7 := wd_keep ew_17 n_q7_q8 cq7
  have cq8 : w_17 q8 = some (.inl (G.2.1 0, 150, .inl (fun _ => 0))) := wd_here ew_17
  refine wd_putF S i_Mo t_Mo t_Mo_ok n_Mo hK hW ht0 rfl 12 (by decide) k_Mo_35 rfl rfl hname rfl rfl rfl (Nat.le_of_ble_eq_true rfl) d_Mo_init_74 (fun H locs w_18 ew_18 hW => ?_)
  have cq0 := wd_keep ew_18 (Ne.symm n_t_q0) cq0
  have cq1 := wd_keep ew_18 (Ne.symm n_t_q1) cq1
  have cq2 := wd_keep ew_18 (Ne.symm n_t_q2) cq2
  have cq3 := wd_keep ew_18 (Ne.symm n_t_q3) cq3
  have cq4 := wd_keep ew_18 (Ne.symm n_t_q4) cq4
  have cq5 := wd_keep ew_18 (Ne.symm n_t_q5) cq5
  have cq6 := wd_keep ew_18 (Ne.symm n_t_q6) cq6
  have cq7 := wd_keep ew_18 (Ne.symm n_t_q7) cq7
  have cq8 := wd_keep ew_18 (Ne.symm n_t_q8) cq8
  have ht0 : w_18 t = some (.inr (5, [.int 0, .ref q0, .ref q1, .ref q2, .ref q3, .ref q4, .int 0, .ref q5, .ref q6, .int 0, .int 0, .ref q7, .ref q8, .null, .null, .int 0, .null, .null, .null, .null, .int 0, .null, .null, .int 0, .null])) := wd_here ew_18
  refine lv_aload_n hx hb d_Mo_init_77 rfl (lv_at hl 0 rfl) ?_
  refine lv_sipush (v := 1800) hx hb d_Mo_init_78 (by decide) ?_
  refine wd_newa S (atype := .int) ka_int rfl hK hW 0 rfl (n := 1800) (N' := 1800) (a0 := (1800, .inl (fun _ => 0))) (fun _ => rfl) (by decide) (by decide) (by decide) (Nat.le_of_ble_eq_true rfl) (Nat.le_of_ble_eq_true rfl) d_Mo_init_81 (fun q9 H hq9 w_19 ew_19 hW => ?_)
  have n_q0_q9 : q0 ≠ q9 := wd_neN cq0 hq9
  have n_q1_q9 : q1 ≠ q9 := wd_neN cq1 hq9
  have n_q2_q9 : q2 ≠ q9 := wd_neN cq2 hq9
  have n_q3_q9 : q3 ≠ q9 := wd_neN cq3 hq9
  have n_q4_q9 : q4 ≠ q9 := wd_neN cq4 hq9
  have n_q5_q9 : q5 ≠ q9 := wd_neN cq5 hq9
  have n_q6_q9 : q6 ≠ q9 := wd_neN cq6 hq9
  have n_q7_q9 : q7 ≠ q9 := wd_neN cq7 hq9
  have n_q8_q9 : q8 ≠ q9 := wd_neN cq8 hq9
  have n_t_q9 : t ≠ q9 := wd_neN ht0 hq9
  have zq9 : w q9 = none := by have h9 := hq9; rw [ew_18, va_up_ne _ _ n_t_q9.symm, ew_17, va_up_ne _ _ n_q8_q9.symm, ew_16, va_up_ne _ _ n_t_q9.symm, ew_15, va_up_ne _ _ n_q7_q9.symm, ew_14, va_up_ne _ _ n_t_q9.symm, ew_13, va_up_ne _ _ n_q6_q9.symm, ew_12, va_up_ne _ _ n_t_q9.symm, ew_11, va_up_ne _ _ n_q5_q9.symm, ew_10, va_up_ne _ _ n_t_q9.symm, ew_9, va_up_ne _ _ n_q4_q9.symm, ew_8, va_up_ne _ _ n_t_q9.symm, ew_7, va_up_ne _ _ n_q3_q9.symm, ew_6, va_up_ne _ _ n_t_q9.symm, ew_5, va_up_ne _ _ n_q2_q9.symm, ew_4, va_up_ne _ _ n_t_q9.symm, ew_3, va_up_ne _ _ n_q1_q9.symm, ew_2, va_up_ne _ _ n_t_q9.symm, ew_1, va_up_ne _ _ n_q0_q9.symm] at h9; exact h9
  have ht0 := wd_keep ew_19 n_t_q9 ht0
  have cq0 := wd_keep ew_19 n_q0_q9 cq0
  have cq1 := wd_keep ew_19 n_q1_q9 cq1
  have cq2 := wd_keep ew_19 n_q2_q9 cq2
  have cq3 := wd_keep ew_19 n_q3_q9 cq3
  have cq4 := wd_keep ew_19 n_q4_q9 cq4
  have cq5 := wd_keep ew_19 n_q5_q9 cq5
  have cq6 := wd_keep ew_19 n_q6_q9 cq6
  have cq7 := wd_keep ew_19 n_q7_q9 cq7
  have cq8 := wd_keep ew_19 n_q8_q9 cq8
  have cq9 : w_19 q9 = some (.inl (G.2.1 0, 1800, .inl (fun _ => 0))) := wd_here ew_19
  refine wd_putF S i_Mo t_Mo t_Mo_ok n_Mo hK hW ht0 rfl 13 (by decide) k_Mo_38 rfl rfl hname rfl rfl rfl (Nat.le_of_ble_eq_true rfl) d_Mo_init_83 (fun H locs w_20 ew_20 hW => ?_)
  have cq0 := wd_keep ew_20 (Ne.symm n_t_q0) cq0
  have cq1 := wd_keep ew_20 (Ne.symm n_t_q1) cq1
  have cq2 := wd_keep ew_20 (Ne.symm n_t_q2) cq2
  have cq3 := wd_keep ew_20 (Ne.symm n_t_q3) cq3
  have cq4 := wd_keep ew_20 (Ne.symm n_t_q4) cq4
  have cq5 := wd_keep ew_20 (Ne.symm n_t_q5) cq5
  have cq6 := wd_keep ew_20 (Ne.symm n_t_q6) cq6
  have cq7 := wd_keep ew_20 (Ne.symm n_t_q7) cq7
  have cq8 := wd_keep ew_20 (Ne.symm n_t_q8) cq8
  have cq9 := wd_keep ew_20 (Ne.symm n_t_q9) cq9
  have ht0 : w_20 t = some (.inr (5, [.int 0, .ref q0, .ref q1, .ref q2, .ref q3, .ref q4, .int 0, .ref q5, .ref q6, .int 0, .int 0, .ref q7, .ref q8, .ref q9, .null, .int 0, .null, .null, .null, .null, .int 0, .null, .null, .int 0, .null])) := wd_here ew_20
  refine lv_aload_n hx hb d_Mo_init_86 rfl (lv_at hl 0 rfl) ?_
  refine lv_sipush (v := 1950) hx hb d_Mo_init_87 (by decide) ?_
  refine wd_newa S (atype := .int) ka_int rfl hK hW 0 rfl (n := 1950) (N' := 1950) (a0 := (1950, .inl (fun _ => 0))) (fun _ => rfl) (by decide) (by decide) (by decide) (Nat.le_of_ble_eq_true rfl) (Nat.le_of_ble_eq_true rfl) d_Mo_init_90 (fun q10 H hq10 w_21 ew_21 hW => ?_)
  have n_q0_q10 : q0 ≠ q10 := wd_neN cq0 hq10
  have n_q1_q10 : q1 ≠ q10 := wd_neN cq1 hq10
  have n_q2_q10 : q2 ≠ q10 := wd_neN cq2 hq10
  have n_q3_q10 : q3 ≠ q10 := wd_neN cq3 hq10
  have n_q4_q10 : q4 ≠ q10 := wd_neN cq4 hq10
  have n_q5_q10 : q5 ≠ q10 := wd_neN cq5 hq10
  have n_q6_q10 : q6 ≠ q10 := wd_neN cq6 hq10
  have n_q7_q10 : q7 ≠ q10 := wd_neN cq7 hq10
  have n_q8_q10 : q8 ≠ q10 := wd_neN cq8 hq10
  have n_q9_q10 : q9 ≠ q10 := wd_neN cq9 hq10
  have n_t_q10 : t ≠ q10 := wd_neN ht0 hq10
  have zq10 : w q10 = none := by have h9 := hq10; rw [ew_20, va_up_ne _ _ n_t_q10.symm, ew_19, va_up_ne _ _ n_q9_q10.symm, ew_18, va_up_ne _ _ n_t_q10.symm, ew_17, va_up_ne _ _ n_q8_q10.symm, ew_16, va_up_ne _ _ n_t_q10.symm, ew_15, va_up_ne _ _ n_q7_q10.symm, ew_14, va_up_ne _ _ n_t_q10.symm, ew_13, va_up_ne _ _ n_q6_q10.symm, ew_12, va_up_ne _ _ n_t_q10.symm, ew_11, va_up_ne _ _ n_q5_q10.symm, ew_10, va_up_ne _ _ n_t_q10.symm, ew_9, va_up_ne _ _ n_q4_q10.symm, ew_8, va_up_ne _ _ n_t_q10.symm, ew_7, va_up_ne _ _ n_q3_q10.symm, ew_6, va_up_ne _ _ n_t_q10.symm, ew_5, va_up_ne _ _ n_q2_q10.symm, ew_4, va_up_ne _ _ n_t_q10.symm, ew_3, va_up_ne _ _ n_q1_q10.symm, ew_2, va_up_ne _ _ n_t_q10.symm, ew_1, va_up_ne _ _ n_q0_q10.symm] at h9; exact h9
  have ht0 := wd_keep ew_21 n_t_q10 ht0
  have cq0 := wd_keep ew_21 n_q0_q10 cq0
  have cq1 := wd_keep ew_21 n_q1_q10 cq1
  have cq2 := wd_keep ew_21 n_q2_q10 cq2
  have cq3 := wd_keep ew_21 n_q3_q10 cq3
  have cq4 := wd_keep ew_21 n_q4_q10 cq4
  have cq5 := wd_keep ew_21 n_q5_q10 cq5
  have cq6 := wd_keep ew_21 n_q6_q10 cq6
  have cq7 := wd_keep ew_21 n_q7_q10 cq7
  have cq8 := wd_keep ew_21 n_q8_q10 cq8
  have cq9 := wd_keep ew_21 n_q9_q10 cq9
  have cq10 : w_21 q10 = some (.inl (G.2.1 0, 1950, .inl (fun _ => 0))) := wd_here ew_21
  refine wd_putF S i_Mo t_Mo t_Mo_ok n_Mo hK hW ht0 rfl 14 (by decide) k_Mo_41 rfl rfl hname rfl rfl rfl (Nat.le_of_ble_eq_true rfl) d_Mo_init_92 (fun H locs w_22 ew_22 hW => ?_)
  have cq0 := wd_keep ew_22 (Ne.symm n_t_q0) cq0
  have cq1 := wd_keep ew_22 (Ne.symm n_t_q1) cq1
  have cq2 := wd_keep ew_22 (Ne.symm n_t_q2) cq2
  have cq3 := wd_keep ew_22 (Ne.symm n_t_q3) cq3
  have cq4 := wd_keep ew_22 (Ne.symm n_t_q4) cq4
  have cq5 := wd_keep ew_22 (Ne.symm n_t_q5) cq5
  have cq6 := wd_keep ew_22 (Ne.symm n_t_q6) cq6
  have cq7 := wd_keep ew_22 (Ne.symm n_t_q7) cq7
  have cq8 := wd_keep ew_22 (Ne.symm n_t_q8) cq8
  have cq9 := wd_keep ew_22 (Ne.symm n_t_q9) cq9
  have cq10 := wd_keep ew_22 (Ne.symm n_t_q10) cq10
  have ht0 : w_22 t = some (.inr (5, [.int 0, .ref q0, .ref q1, .ref q2, .ref q3, .ref q4, .int 0, .ref q5, .ref q6, .int 0, .int 0, .ref q7, .ref q8, .ref q9, .ref q10, .int 0, .null, .null, .null, .null, .int 0, .null, .null, .int 0, .null])) := wd_here ew_22
  refine lv_aload_n hx hb d_Mo_init_95 rfl (lv_at hl 0 rfl) ?_
  refine lv_bipush (v := 40) hx hb d_Mo_init_96 (by decide) ?_
  refine wd_newa S (atype := .int) ka_int rfl hK hW 0 rfl (n := 40) (N' := 40) (a0 := (40, .inl (fun _ => 0))) (fun _ => rfl) (by decide) (by decide) (by decide) (Nat.le_of_ble_eq_true rfl) (Nat.le_of_ble_eq_true rfl) d_Mo_init_98 (fun q11 H hq11 w_23 ew_23 hW => ?_)
  have n_q0_q11 : q0 ≠ q11 := wd_neN cq0 hq11
  have n_q1_q11 : q1 ≠ q11 := wd_neN cq1 hq11
  have n_q2_q11 : q2 ≠ q11 := wd_neN cq2 hq11
  have n_q3_q11 : q3 ≠ q11 := wd_neN cq3 hq11
  have n_q4_q11 : q4 ≠ q11 := wd_neN cq4 hq11
  have n_q5_q11 : q5 ≠ q11 := wd_neN cq5 hq11
  have n_q6_q11 : q6 ≠ q11 := wd_neN cq6 hq11
  have n_q7_q11 : q7 ≠ q11 := wd_neN cq7 hq11
  have n_q8_q11 : q8 ≠ q11 := wd_neN cq8 hq11
  have n_q9_q11 : q9 ≠ q11 := wd_neN cq9 hq11
  have n_q10_q11 : q10 ≠ q11 := wd_neN cq10 hq11
  have n_t_q11 : t ≠ q11 := wd_neN ht0 hq11
  have zq11 : w q11 = none := by have h9 := hq11; rw [ew_22, va_up_ne _ _ n_t_q11.symm, ew_21, va_up_ne _ _ n_q10_q11.symm, ew_20, va_up_ne _ _ n_t_q11.symm, ew_19, va_up_ne _ _ n_q9_q11.symm, ew_18, va_up_ne _ _ n_t_q11.symm, ew_17, va_up_ne _ _ n_q8_q11.symm, ew_16, va_up_ne _ _ n_t_q11.symm, ew_15, va_up_ne _ _ n_q7_q11.symm, ew_14, va_up_ne _ _ n_t_q11.symm, ew_13, va_up_ne _ _ n_q6_q11.symm, ew_12, va_up_ne _ _ n_t_q11.symm, ew_11, va_up_ne _ _ n_q5_q11.symm, ew_10, va_up_ne _ _ n_t_q11.symm, ew_9, va_up_ne _ _ n_q4_q11.symm, ew_8, va_up_ne _ _ n_t_q11.symm, ew_7, va_up_ne _ _ n_q3_q11.symm, ew_6, va_up_ne _ _ n_t_q11.symm, ew_5, va_up_ne _ _ n_q2_q11.symm, ew_4, va_up_ne _ _ n_t_q11.symm, ew_3, va_up_ne _ _ n_q1_q11.symm, ew_2, va_up_ne _ _ n_t_q11.symm, ew_1, va_up_ne _ _ n_q0_q11.symm] at h9; exact h9
  have ht0 := wd_keep ew_23 n_t_q11 ht0
  have cq0 := wd_keep ew_23 n_q0_q11 cq0
  have cq1 := wd_keep ew_23 n_q1_q11 cq1
  have cq2 := wd_keep ew_23 n_q2_q11 cq2
  have cq3 := wd_keep ew_23 n_q3_q11 cq3
  have cq4 := wd_keep ew_23 n_q4_q11 cq4
  have cq5 := wd_keep ew_23 n_q5_q11 cq5
  have cq6 := wd_keep ew_23 n_q6_q11 cq6
  have cq7 := wd_keep ew_23 n_q7_q11 cq7
  have cq8 := wd_keep ew_23 n_q8_q11 cq8
  have cq9 := wd_keep ew_23 n_q9_q11 cq9
  have cq10 := wd_keep ew_23 n_q10_q11 cq10
  have cq11 : w_23 q11 = some (.inl (G.2.1 0, 40, .inl (fun _ => 0))) := wd_here ew_23
  refine wd_putF S i_Mo t_Mo t_Mo_ok n_Mo hK hW ht0 rfl 16 (by decide) k_Mo_44 rfl rfl hname rfl rfl rfl (Nat.le_of_ble_eq_true rfl) d_Mo_init_100 (fun H locs w_24 ew_24 hW => ?_)
  have cq0 := wd_keep ew_24 (Ne.symm n_t_q0) cq0
  have cq1 := wd_keep ew_24 (Ne.symm n_t_q1) cq1
  have cq2 := wd_keep ew_24 (Ne.symm n_t_q2) cq2
  have cq3 := wd_keep ew_24 (Ne.symm n_t_q3) cq3
  have cq4 := wd_keep ew_24 (Ne.symm n_t_q4) cq4
  have cq5 := wd_keep ew_24 (Ne.symm n_t_q5) cq5
  have cq6 := wd_keep ew_24 (Ne.symm n_t_q6) cq6
  have cq7 := wd_keep ew_24 (Ne.symm n_t_q7) cq7
  have cq8 := wd_keep ew_24 (Ne.symm n_t_q8) cq8
  have cq9 := wd_keep ew_24 (Ne.symm n_t_q9) cq9
  have cq10 := wd_keep ew_24 (Ne.symm n_t_q10) cq10
  have cq11 := wd_keep ew_24 (Ne.symm n_t_q11) cq11
  have ht0 : w_24 t = some (.inr (5, [.int 0, .ref q0, .ref q1, .ref q2, .ref q3, .ref q4, .int 0, .ref q5, .ref q6, .int 0, .int 0, .ref q7, .ref q8, .ref q9, .ref q10, .int 0, .ref q11, .null, .null, .null, .int 0, .null, .null, .int 0, .null])) := wd_here ew_24
  refine lv_aload_n hx hb d_Mo_init_103 rfl (lv_at hl 0 rfl) ?_
  refine lv_bipush (v := 40) hx hb d_Mo_init_104 (by decide) ?_
  refine wd_newa S (atype := .int) ka_int rfl hK hW 0 rfl (n := 40) (N' := 40) (a0 := (40, .inl (fun _ => 0))) (fun _ => rfl) (by decide) (by decide) (by decide) (Nat.le_of_ble_eq_true rfl) (Nat.le_of_ble_eq_true rfl) d_Mo_init_106 (fun q12 H hq12 w_25 ew_25 hW => ?_)
  have n_q0_q12 : q0 ≠ q12 := wd_neN cq0 hq12
  have n_q1_q12 : q1 ≠ q12 := wd_neN cq1 hq12
  have n_q2_q12 : q2 ≠ q12 := wd_neN cq2 hq12
  have n_q3_q12 : q3 ≠ q12 := wd_neN cq3 hq12
  have n_q4_q12 : q4 ≠ q12 := wd_neN cq4 hq12
  have n_q5_q12 : q5 ≠ q12 := wd_neN cq5 hq12
  have n_q6_q12 : q6 ≠ q12 := wd_neN cq6 hq12
  have n_q7_q12 : q7 ≠ q12 := wd_neN cq7 hq12
  have n_q8_q12 : q8 ≠ q12 := wd_neN cq8 hq12
  have n_q9_q12 : q9 ≠ q12 := wd_neN cq9 hq12
  have n_q10_q12 : q10 ≠ q12 := wd_neN cq10 hq12
  have n_q11_q12 : q11 ≠ q12 := wd_neN cq11 hq12
  have n_t_q12 : t ≠ q12 := wd_neN ht0 hq12
  have zq12 : w q12 = none := by have h9 := hq12; rw [ew_24, va_up_ne _ _ n_t_q12.symm, ew_23, va_up_ne _ _ n_q11_q12.symm, ew_22, va_up_ne _ _ n_t_q12.symm, ew_21, va_up_ne _ _ n_q10_q12.symm, ew_20, va_up_ne _ _ n_t_q12.symm, ew_19, va_up_ne _ _ n_q9_q12.symm, ew_18, va_up_ne _ _ n_t_q12.symm, ew_17, va_up_ne _ _ n_q8_q12.symm, ew_16, va_up_ne _ _ n_t_q12.symm, ew_15, va_up_ne _ _ n_q7_q12.symm, ew_14, va_up_ne _ _ n_t_q12.symm, ew_13, va_up_ne _ _ n_q6_q12.symm, ew_12, va_up_ne _ _ n_t_q12.symm, ew_11, va_up_ne _ _ n_q5_q12.symm, ew_10, va_up_ne _ _ n_t_q12.symm, ew_9, va_up_ne _ _ n_q4_q12.symm, ew_8, va_up_ne _ _ n_t_q12.symm, ew_7, va_up_ne _ _ n_q3_q12.symm, ew_6, va_up_ne _ _ n_t_q12.symm, ew_5, va_up_ne _ _ n_q2_q12.symm, ew_4, va_up_ne _ _ n_t_q12.symm, ew_3, va_up_ne _ _ n_q1_q12.symm, ew_2, va_up_ne _ _ n_t_q12.symm, ew_1, va_up_ne _ _ n_q0_q12.symm] at h9; exact h9
  have ht0 := wd_keep ew_25 n_t_q12 ht0
  have cq0 := wd_keep ew_25 n_q0_q12 cq0
  have cq1 := wd_keep ew_25 n_q1_q12 cq1
  have cq2 := wd_keep ew_25 n_q2_q12 cq2
  have cq3 := wd_keep ew_25 n_q3_q12 cq3
  have cq4 := wd_keep ew_25 n_q4_q12 cq4
  have cq5 := wd_keep ew_25 n_q5_q12 cq5
  have cq6 := wd_keep ew_25 n_q6_q12 cq6
  have cq7 := wd_keep ew_25 n_q7_q12 cq7
  have cq8 := wd_keep ew_25 n_q8_q12 cq8
  have cq9 := wd_keep ew_25 n_q9_q12 cq9
  have cq10 := wd_keep ew_25 n_q10_q12 cq10
  have cq11 := wd_keep ew_25 n_q11_q12 cq11
  have cq12 : w_25 q12 = some (.inl (G.2.1 0, 40, .inl (fun _ => 0))) := wd_here ew_25
  refine wd_putF S i_Mo t_Mo t_Mo_ok n_Mo hK hW ht0 rfl 17 (by decide) k_Mo_47 rfl rfl hname rfl rfl rfl (Nat.le_of_ble_eq_true rfl) d_Mo_init_108 (fun H locs w_26 ew_26 hW => ?_)
  have cq0 := wd_keep ew_26 (Ne.symm n_t_q0) cq0
  have cq1 := wd_keep ew_26 (Ne.symm n_t_q1) cq1
  have cq2 := wd_keep ew_26 (Ne.symm n_t_q2) cq2
  have cq3 := wd_keep ew_26 (Ne.symm n_t_q3) cq3
  have cq4 := wd_keep ew_26 (Ne.symm n_t_q4) cq4
  have cq5 := wd_keep ew_26 (Ne.symm n_t_q5) cq5
  have cq6 := wd_keep ew_26 (Ne.symm n_t_q6) cq6
  have cq7 := wd_keep ew_26 (Ne.symm n_t_q7) cq7
  have cq8 := wd_keep ew_26 (Ne.symm n_t_q8) cq8
  have cq9 := wd_keep ew_26 (Ne.symm n_t_q9) cq9
  have cq10 := wd_keep ew_26 (Ne.symm n_t_q10) cq10
  have cq11 := wd_keep ew_26 (Ne.symm n_t_q11) cq11
  have cq12 := wd_keep ew_26 (Ne.symm n_t_q12) cq12
  have ht0 : w_26 t = some (.inr (5, [.int 0, .ref q0, .ref q1, .ref q2, .ref q3, .ref q4, .int 0, .ref q5, .ref q6, .int 0, .int 0, .ref q7, .ref q8, .ref q9, .ref q10, .int 0, .ref q11, .ref q12, .null, .null, .int 0, .null, .null, .int 0, .null])) := wd_here ew_26
  refine lv_aload_n hx hb d_Mo_init_111 rfl (lv_at hl 0 rfl) ?_
  refine lv_sipush (v := 1200) hx hb d_Mo_init_112 (by decide) ?_
  refine wd_newa S (atype := .int) ka_int rfl hK hW 0 rfl (n := 1200) (N' := 1200) (a0 := (1200, .inl (fun _ => 0))) (fun _ => rfl) (by decide) (by decide) (by decide) (Nat.le_of_ble_eq_true rfl) (Nat.le_of_ble_eq_true rfl) d_Mo_init_115 (fun q13 H hq13 w_27 ew_27 hW => ?_)
  have n_q0_q13 : q0 ≠ q13 := wd_neN cq0 hq13
  have n_q1_q13 : q1 ≠ q13 := wd_neN cq1 hq13
  have n_q2_q13 : q2 ≠ q13 := wd_neN cq2 hq13
  have n_q3_q13 : q3 ≠ q13 := wd_neN cq3 hq13
  have n_q4_q13 : q4 ≠ q13 := wd_neN cq4 hq13
  have n_q5_q13 : q5 ≠ q13 := wd_neN cq5 hq13
  have n_q6_q13 : q6 ≠ q13 := wd_neN cq6 hq13
  have n_q7_q13 : q7 ≠ q13 := wd_neN cq7 hq13
  have n_q8_q13 : q8 ≠ q13 := wd_neN cq8 hq13
  have n_q9_q13 : q9 ≠ q13 := wd_neN cq9 hq13
  have n_q10_q13 : q10 ≠ q13 := wd_neN cq10 hq13
  have n_q11_q13 : q11 ≠ q13 := wd_neN cq11 hq13
  have n_q12_q13 : q12 ≠ q13 := wd_neN cq12 hq13
  have n_t_q13 : t ≠ q13 := wd_neN ht0 hq13
  have zq13 : w q13 = none := by have h9 := hq13; rw [ew_26, va_up_ne _ _ n_t_q13.symm, ew_25, va_up_ne _ _ n_q12_q13.symm, ew_24, va_up_ne _ _ n_t_q13.symm, ew_23, va_up_ne _ _ n_q11_q13.symm, ew_22, va_up_ne _ _ n_t_q13.symm, ew_21, va_up_ne _ _ n_q10_q13.symm, ew_20, va_up_ne _ _ n_t_q13.symm, ew_19, va_up_ne _ _ n_q9_q13.symm, ew_18, va_up_ne _ _ n_t_q13.symm, ew_17, va_up_ne _ _ n_q8_q13.symm, ew_16, va_up_ne _ _ n_t_q13.symm, ew_15, va_up_ne _ _ n_q7_q13.symm, ew_14, va_up_ne _ _ n_t_q13.symm, ew_13, va_up_ne _ _ n_q6_q13.symm, ew_12, va_up_ne _ _ n_t_q13.symm, ew_11, va_up_ne _ _ n_q5_q13.symm, ew_10, va_up_ne _ _ n_t_q13.symm, ew_9, va_up_ne _ _ n_q4_q13.symm, ew_8, va_up_ne _ _ n_t_q13.symm, ew_7, va_up_ne _ _ n_q3_q13.symm, ew_6, va_up_ne _ _ n_t_q13.symm, ew_5, va_up_ne _ _ n_q2_q13.symm, ew_4, va_up_ne _ _ n_t_q13.symm, ew_3, va_up_ne _ _ n_q1_q13.symm, ew_2, va_up_ne _ _ n_t_q13.symm, ew_1, va_up_ne _ _ n_q0_q13.symm] at h9; exact h9
  have ht0 := wd_keep ew_27 n_t_q13 ht0
  have cq0 := wd_keep ew_27 n_q0_q13 cq0
  have cq1 := wd_keep ew_27 n_q1_q13 cq1
  have cq2 := wd_keep ew_27 n_q2_q13 cq2
  have cq3 := wd_keep ew_27 n_q3_q13 cq3
  have cq4 := wd_keep ew_27 n_q4_q13 cq4
  have cq5 := wd_keep ew_27 n_q5_q13 cq5
  have cq6 := wd_keep ew_27 n_q6_q13 cq6
  have cq7 := wd_keep ew_27 n_q7_q13 cq7
  have cq8 := wd_keep ew_27 n_q8_q13 cq8
  have cq9 := wd_keep ew_27 n_q9_q13 cq9
  have cq10 := wd_keep ew_27 n_q10_q13 cq10
  have cq11 := wd_keep ew_27 n_q11_q13 cq11
  have cq12 := wd_keep ew_27 n_q12_q13 cq12
  have cq13 : w_27 q13 = some (.inl (G.2.1 0, 1200, .inl (fun _ => 0))) := wd_here ew_27
  refine wd_putF S i_Mo t_Mo t_Mo_ok n_Mo hK hW ht0 rfl 18 (by decide) k_Mo_50 rfl rfl hname rfl rfl rfl (Nat.le_of_ble_eq_true rfl) d_Mo_init_117 (fun H locs w_28 ew_28 hW => ?_)
  have cq0 := wd_keep ew_28 (Ne.symm n_t_q0) cq0
  have cq1 := wd_keep ew_28 (Ne.symm n_t_q1) cq1
  have cq2 := wd_keep ew_28 (Ne.symm n_t_q2) cq2
  have cq3 := wd_keep ew_28 (Ne.symm n_t_q3) cq3
  have cq4 := wd_keep ew_28 (Ne.symm n_t_q4) cq4
  have cq5 := wd_keep ew_28 (Ne.symm n_t_q5) cq5
  have cq6 := wd_keep ew_28 (Ne.symm n_t_q6) cq6
  have cq7 := wd_keep ew_28 (Ne.symm n_t_q7) cq7
  have cq8 := wd_keep ew_28 (Ne.symm n_t_q8) cq8
  have cq9 := wd_keep ew_28 (Ne.symm n_t_q9) cq9
  have cq10 := wd_keep ew_28 (Ne.symm n_t_q10) cq10
  have cq11 := wd_keep ew_28 (Ne.symm n_t_q11) cq11
  have cq12 := wd_keep ew_28 (Ne.symm n_t_q12) cq12
  have cq13 := wd_keep ew_28 (Ne.symm n_t_q13) cq13
  have ht0 : w_28 t = some (.inr (5, [.int 0, .ref q0, .ref q1, .ref q2, .ref q3, .ref q4, .int 0, .ref q5, .ref q6, .int 0, .int 0, .ref q7, .ref q8, .ref q9, .ref q10, .int 0, .ref q11, .ref q12, .ref q13, .null, .int 0, .null, .null, .int 0, .null])) := wd_here ew_28
  refine lv_aload_n hx hb d_Mo_init_120 rfl (lv_at hl 0 rfl) ?_
  refine lv_bipush (v := 40) hx hb d_Mo_init_121 (by decide) ?_
  refine wd_newa S (atype := .int) ka_int rfl hK hW 0 rfl (n := 40) (N' := 40) (a0 := (40, .inl (fun _ => 0))) (fun _ => rfl) (by decide) (by decide) (by decide) (Nat.le_of_ble_eq_true rfl) (Nat.le_of_ble_eq_true rfl) d_Mo_init_123 (fun q14 H hq14 w_29 ew_29 hW => ?_)
  have n_q0_q14 : q0 ≠ q14 := wd_neN cq0 hq14
  have n_q1_q14 : q1 ≠ q14 := wd_neN cq1 hq14
  have n_q2_q14 : q2 ≠ q14 := wd_neN cq2 hq14
  have n_q3_q14 : q3 ≠ q14 := wd_neN cq3 hq14
  have n_q4_q14 : q4 ≠ q14 := wd_neN cq4 hq14
  have n_q5_q14 : q5 ≠ q14 := wd_neN cq5 hq14
  have n_q6_q14 : q6 ≠ q14 := wd_neN cq6 hq14
  have n_q7_q14 : q7 ≠ q14 := wd_neN cq7 hq14
  have n_q8_q14 : q8 ≠ q14 := wd_neN cq8 hq14
  have n_q9_q14 : q9 ≠ q14 := wd_neN cq9 hq14
  have n_q10_q14 : q10 ≠ q14 := wd_neN cq10 hq14
  have n_q11_q14 : q11 ≠ q14 := wd_neN cq11 hq14
  have n_q12_q14 : q12 ≠ q14 := wd_neN cq12 hq14
  have n_q13_q14 : q13 ≠ q14 := wd_neN cq13 hq14
  have n_t_q14 : t ≠ q14 := wd_neN ht0 hq14
  have zq14 : w q14 = none := by have h9 := hq14; rw [ew_28, va_up_ne _ _ n_t_q14.symm, ew_27, va_up_ne _ _ n_q13_q14.symm, ew_26, va_up_ne _ _ n_t_q14.symm, ew_25, va_up_ne _ _ n_q12_q14.symm, ew_24, va_up_ne _ _ n_t_q14.symm, ew_23, va_up_ne _ _ n_q11_q14.symm, ew_22, va_up_ne _ _ n_t_q14.symm, ew_21, va_up_ne _ _ n_q10_q14.symm, ew_20, va_up_ne _ _ n_t_q14.symm, ew_19, va_up_ne _ _ n_q9_q14.symm, ew_18, va_up_ne _ _ n_t_q14.symm, ew_17, va_up_ne _ _ n_q8_q14.symm, ew_16, va_up_ne _ _ n_t_q14.symm, ew_15, va_up_ne _ _ n_q7_q14.symm, ew_14, va_up_ne _ _ n_t_q14.symm, ew_13, va_up_ne _ _ n_q6_q14.symm, ew_12, va_up_ne _ _ n_t_q14.symm, ew_11, va_up_ne _ _ n_q5_q14.symm, ew_10, va_up_ne _ _ n_t_q14.symm, ew_9, va_up_ne _ _ n_q4_q14.symm, ew_8, va_up_ne _ _ n_t_q14.symm, ew_7, va_up_ne _ _ n_q3_q14.symm, ew_6, va_up_ne _ _ n_t_q14.symm, ew_5, va_up_ne _ _ n_q2_q14.symm, ew_4, va_up_ne _ _ n_t_q14.symm, ew_3, va_up_ne _ _ n_q1_q14.symm, ew_2, va_up_ne _ _ n_t_q14.symm, ew_1, va_up_ne _ _ n_q0_q14.symm] at h9; exact h9
  have ht0 := wd_keep ew_29 n_t_q14 ht0
  have cq0 := wd_keep ew_29 n_q0_q14 cq0
  have cq1 := wd_keep ew_29 n_q1_q14 cq1
  have cq2 := wd_keep ew_29 n_q2_q14 cq2
  have cq3 := wd_keep ew_29 n_q3_q14 cq3
  have cq4 := wd_keep ew_29 n_q4_q14 cq4
  have cq5 := wd_keep ew_29 n_q5_q14 cq5
  have cq6 := wd_keep ew_29 n_q6_q14 cq6
  have cq7 := wd_keep ew_29 n_q7_q14 cq7
  have cq8 := wd_keep ew_29 n_q8_q14 cq8
  have cq9 := wd_keep ew_29 n_q9_q14 cq9
  have cq10 := wd_keep ew_29 n_q10_q14 cq10
  have cq11 := wd_keep ew_29 n_q11_q14 cq11
  have cq12 := wd_keep ew_29 n_q12_q14 cq12
  have cq13 := wd_keep ew_29 n_q13_q14 cq13
  have cq14 : w_29 q14 = some (.inl (G.2.1 0, 40, .inl (fun _ => 0))) := wd_here ew_29
  refine wd_putF S i_Mo t_Mo t_Mo_ok n_Mo hK hW ht0 rfl 19 (by decide) k_Mo_53 rfl rfl hname rfl rfl rfl (Nat.le_of_ble_eq_true rfl) d_Mo_init_125 (fun H locs w_30 ew_30 hW => ?_)
  have cq0 := wd_keep ew_30 (Ne.symm n_t_q0) cq0
  have cq1 := wd_keep ew_30 (Ne.symm n_t_q1) cq1
  have cq2 := wd_keep ew_30 (Ne.symm n_t_q2) cq2
  have cq3 := wd_keep ew_30 (Ne.symm n_t_q3) cq3
  have cq4 := wd_keep ew_30 (Ne.symm n_t_q4) cq4
  have cq5 := wd_keep ew_30 (Ne.symm n_t_q5) cq5
  have cq6 := wd_keep ew_30 (Ne.symm n_t_q6) cq6
  have cq7 := wd_keep ew_30 (Ne.symm n_t_q7) cq7
  have cq8 := wd_keep ew_30 (Ne.symm n_t_q8) cq8
  have cq9 := wd_keep ew_30 (Ne.symm n_t_q9) cq9
  have cq10 := wd_keep ew_30 (Ne.symm n_t_q10) cq10
  have cq11 := wd_keep ew_30 (Ne.symm n_t_q11) cq11
  have cq12 := wd_keep ew_30 (Ne.symm n_t_q12) cq12
  have cq13 := wd_keep ew_30 (Ne.symm n_t_q13) cq13
  have cq14 := wd_keep ew_30 (Ne.symm n_t_q14) cq14
  have ht0 : w_30 t = some (.inr (5, [.int 0, .ref q0, .ref q1, .ref q2, .ref q3, .ref q4, .int 0, .ref q5, .ref q6, .int 0, .int 0, .ref q7, .ref q8, .ref q9, .ref q10, .int 0, .ref q11, .ref q12, .ref q13, .ref q14, .int 0, .null, .null, .int 0, .null])) := wd_here ew_30
  refine lv_aload_n hx hb d_Mo_init_128 rfl (lv_at hl 0 rfl) ?_
  refine lv_bipush (v := 30) hx hb d_Mo_init_129 (by decide) ?_
  refine wd_newa S (atype := .int) ka_int rfl hK hW 0 rfl (n := 30) (N' := 30) (a0 := (30, .inl (fun _ => 0))) (fun _ => rfl) (by decide) (by decide) (by decide) (Nat.le_of_ble_eq_true rfl) (Nat.le_of_ble_eq_true rfl) d_Mo_init_131 (fun q15 H hq15 w_31 ew_31 hW => ?_)
  have n_q0_q15 : q0 ≠ q15 := wd_neN cq0 hq15
  have n_q1_q15 : q1 ≠ q15 := wd_neN cq1 hq15
  have n_q2_q15 : q2 ≠ q15 := wd_neN cq2 hq15
  have n_q3_q15 : q3 ≠ q15 := wd_neN cq3 hq15
  have n_q4_q15 : q4 ≠ q15 := wd_neN cq4 hq15
  have n_q5_q15 : q5 ≠ q15 := wd_neN cq5 hq15
  have n_q6_q15 : q6 ≠ q15 := wd_neN cq6 hq15
  have n_q7_q15 : q7 ≠ q15 := wd_neN cq7 hq15
  have n_q8_q15 : q8 ≠ q15 := wd_neN cq8 hq15
  have n_q9_q15 : q9 ≠ q15 := wd_neN cq9 hq15
  have n_q10_q15 : q10 ≠ q15 := wd_neN cq10 hq15
  have n_q11_q15 : q11 ≠ q15 := wd_neN cq11 hq15
  have n_q12_q15 : q12 ≠ q15 := wd_neN cq12 hq15
  have n_q13_q15 : q13 ≠ q15 := wd_neN cq13 hq15
  have n_q14_q15 : q14 ≠ q15 := wd_neN cq14 hq15
  have n_t_q15 : t ≠ q15 := wd_neN ht0 hq15
  have zq15 : w q15 = none := by have h9 := hq15; rw [ew_30, va_up_ne _ _ n_t_q15.symm, ew_29, va_up_ne _ _ n_q14_q15.symm, ew_28, va_up_ne _ _ n_t_q15.symm, ew_27, va_up_ne _ _ n_q13_q15.symm, ew_26, va_up_ne _ _ n_t_q15.symm, ew_25, va_up_ne _ _ n_q12_q15.symm, ew_24, va_up_ne _ _ n_t_q15.symm, ew_23, va_up_ne _ _ n_q11_q15.symm, ew_22, va_up_ne _ _ n_t_q15.symm, ew_21, va_up_ne _ _ n_q10_q15.symm, ew_20, va_up_ne _ _ n_t_q15.symm, ew_19, va_up_ne _ _ n_q9_q15.symm, ew_18, va_up_ne _ _ n_t_q15.symm, ew_17, va_up_ne _ _ n_q8_q15.symm, ew_16, va_up_ne _ _ n_t_q15.symm, ew_15, va_up_ne _ _ n_q7_q15.symm, ew_14, va_up_ne _ _ n_t_q15.symm, ew_13, va_up_ne _ _ n_q6_q15.symm, ew_12, va_up_ne _ _ n_t_q15.symm, ew_11, va_up_ne _ _ n_q5_q15.symm, ew_10, va_up_ne _ _ n_t_q15.symm, ew_9, va_up_ne _ _ n_q4_q15.symm, ew_8, va_up_ne _ _ n_t_q15.symm, ew_7, va_up_ne _ _ n_q3_q15.symm, ew_6, va_up_ne _ _ n_t_q15.symm, ew_5, va_up_ne _ _ n_q2_q15.symm, ew_4, va_up_ne _ _ n_t_q15.symm, ew_3, va_up_ne _ _ n_q1_q15.symm, ew_2, va_up_ne _ _ n_t_q15.symm, ew_1, va_up_ne _ _ n_q0_q15.symm] at h9; exact h9
  have ht0 := wd_keep ew_31 n_t_q15 ht0
  have cq0 := wd_keep ew_31 n_q0_q15 cq0
  have cq1 := wd_keep ew_31 n_q1_q15 cq1
  have cq2 := wd_keep ew_31 n_q2_q15 cq2
  have cq3 := wd_keep ew_31 n_q3_q15 cq3
  have cq4 := wd_keep ew_31 n_q4_q15 cq4
  have cq5 := wd_keep ew_31 n_q5_q15 cq5
  have cq6 := wd_keep ew_31 n_q6_q15 cq6
  have cq7 := wd_keep ew_31 n_q7_q15 cq7
  have cq8 := wd_keep ew_31 n_q8_q15 cq8
  have cq9 := wd_keep ew_31 n_q9_q15 cq9
  have cq10 := wd_keep ew_31 n_q10_q15 cq10
  have cq11 := wd_keep ew_31 n_q11_q15 cq11
  have cq12 := wd_keep ew_31 n_q12_q15 cq12
  have cq13 := wd_keep ew_31 n_q13_q15 cq13
  have cq14 := wd_keep ew_31 n_q14_q15 cq14
  have cq15 : w_31 q15 = some (.inl (G.2.1 0, 30, .inl (fun _ => 0))) := wd_here ew_31
  refine wd_putF S i_Mo t_Mo t_Mo_ok n_Mo hK hW ht0 rfl 21 (by decide) k_Mo_56 rfl rfl hname rfl rfl rfl (Nat.le_of_ble_eq_true rfl) d_Mo_init_133 (fun H locs w_32 ew_32 hW => ?_)
  have cq0 := wd_keep ew_32 (Ne.symm n_t_q0) cq0
  have cq1 := wd_keep ew_32 (Ne.symm n_t_q1) cq1
  have cq2 := wd_keep ew_32 (Ne.symm n_t_q2) cq2
  have cq3 := wd_keep ew_32 (Ne.symm n_t_q3) cq3
  have cq4 := wd_keep ew_32 (Ne.symm n_t_q4) cq4
  have cq5 := wd_keep ew_32 (Ne.symm n_t_q5) cq5
  have cq6 := wd_keep ew_32 (Ne.symm n_t_q6) cq6
  have cq7 := wd_keep ew_32 (Ne.symm n_t_q7) cq7
  have cq8 := wd_keep ew_32 (Ne.symm n_t_q8) cq8
  have cq9 := wd_keep ew_32 (Ne.symm n_t_q9) cq9
  have cq10 := wd_keep ew_32 (Ne.symm n_t_q10) cq10
  have cq11 := wd_keep ew_32 (Ne.symm n_t_q11) cq11
  have cq12 := wd_keep ew_32 (Ne.symm n_t_q12) cq12
  have cq13 := wd_keep ew_32 (Ne.symm n_t_q13) cq13
  have cq14 := wd_keep ew_32 (Ne.symm n_t_q14) cq14
  have cq15 := wd_keep ew_32 (Ne.symm n_t_q15) cq15
  have ht0 : w_32 t = some (.inr (5, [.int 0, .ref q0, .ref q1, .ref q2, .ref q3, .ref q4, .int 0, .ref q5, .ref q6, .int 0, .int 0, .ref q7, .ref q8, .ref q9, .ref q10, .int 0, .ref q11, .ref q12, .ref q13, .ref q14, .int 0, .ref q15, .null, .int 0, .null])) := wd_here ew_32
  refine lv_aload_n hx hb d_Mo_init_136 rfl (lv_at hl 0 rfl) ?_
  refine lv_bipush (v := 32) hx hb d_Mo_init_137 (by decide) ?_
  refine wd_newa S (atype := .int) ka_int rfl hK hW 0 rfl (n := 32) (N' := 32) (a0 := (32, .inl (fun _ => 0))) (fun _ => rfl) (by decide) (by decide) (by decide) (Nat.le_of_ble_eq_true rfl) (Nat.le_of_ble_eq_true rfl) d_Mo_init_139 (fun q16 H hq16 w_33 ew_33 hW => ?_)
  have n_q0_q16 : q0 ≠ q16 := wd_neN cq0 hq16
  have n_q1_q16 : q1 ≠ q16 := wd_neN cq1 hq16
  have n_q2_q16 : q2 ≠ q16 := wd_neN cq2 hq16
  have n_q3_q16 : q3 ≠ q16 := wd_neN cq3 hq16
  have n_q4_q16 : q4 ≠ q16 := wd_neN cq4 hq16
  have n_q5_q16 : q5 ≠ q16 := wd_neN cq5 hq16
  have n_q6_q16 : q6 ≠ q16 := wd_neN cq6 hq16
  have n_q7_q16 : q7 ≠ q16 := wd_neN cq7 hq16
  have n_q8_q16 : q8 ≠ q16 := wd_neN cq8 hq16
  have n_q9_q16 : q9 ≠ q16 := wd_neN cq9 hq16
  have n_q10_q16 : q10 ≠ q16 := wd_neN cq10 hq16
  have n_q11_q16 : q11 ≠ q16 := wd_neN cq11 hq16
  have n_q12_q16 : q12 ≠ q16 := wd_neN cq12 hq16
  have n_q13_q16 : q13 ≠ q16 := wd_neN cq13 hq16
  have n_q14_q16 : q14 ≠ q16 := wd_neN cq14 hq16
  have n_q15_q16 : q15 ≠ q16 := wd_neN cq15 hq16
  have n_t_q16 : t ≠ q16 := wd_neN ht0 hq16
  have zq16 : w q16 = none := by have h9 := hq16; rw [ew_32, va_up_ne _ _ n_t_q16.symm, ew_31, va_up_ne _ _ n_q15_q16.symm, ew_30, va_up_ne _ _ n_t_q16.symm, ew_29, va_up_ne _ _ n_q14_q16.symm, ew_28, va_up_ne _ _ n_t_q16.symm, ew_27, va_up_ne _ _ n_q13_q16.symm, ew_26, va_up_ne _ _ n_t_q16.symm, ew_25, va_up_ne _ _ n_q12_q16.symm, ew_24, va_up_ne _ _ n_t_q16.symm, ew_23, va_up_ne _ _ n_q11_q16.symm, ew_22, va_up_ne _ _ n_t_q16.symm, ew_21, va_up_ne _ _ n_q10_q16.symm, ew_20, va_up_ne _ _ n_t_q16.symm, ew_19, va_up_ne _ _ n_q9_q16.symm, ew_18, va_up_ne _ _ n_t_q16.symm, ew_17, va_up_ne _ _ n_q8_q16.symm, ew_16, va_up_ne _ _ n_t_q16.symm, ew_15, va_up_ne _ _ n_q7_q16.symm, ew_14, va_up_ne _ _ n_t_q16.symm, ew_13, va_up_ne _ _ n_q6_q16.symm, ew_12, va_up_ne _ _ n_t_q16.symm, ew_11, va_up_ne _ _ n_q5_q16.symm, ew_10, va_up_ne _ _ n_t_q16.symm, ew_9, va_up_ne _ _ n_q4_q16.symm, ew_8, va_up_ne _ _ n_t_q16.symm, ew_7, va_up_ne _ _ n_q3_q16.symm, ew_6, va_up_ne _ _ n_t_q16.symm, ew_5, va_up_ne _ _ n_q2_q16.symm, ew_4, va_up_ne _ _ n_t_q16.symm, ew_3, va_up_ne _ _ n_q1_q16.symm, ew_2, va_up_ne _ _ n_t_q16.symm, ew_1, va_up_ne _ _ n_q0_q16.symm] at h9; exact h9
  have ht0 := wd_keep ew_33 n_t_q16 ht0
  have cq0 := wd_keep ew_33 n_q0_q16 cq0
  have cq1 := wd_keep ew_33 n_q1_q16 cq1
  have cq2 := wd_keep ew_33 n_q2_q16 cq2
  have cq3 := wd_keep ew_33 n_q3_q16 cq3
  have cq4 := wd_keep ew_33 n_q4_q16 cq4
  have cq5 := wd_keep ew_33 n_q5_q16 cq5
  have cq6 := wd_keep ew_33 n_q6_q16 cq6
  have cq7 := wd_keep ew_33 n_q7_q16 cq7
  have cq8 := wd_keep ew_33 n_q8_q16 cq8
  have cq9 := wd_keep ew_33 n_q9_q16 cq9
  have cq10 := wd_keep ew_33 n_q10_q16 cq10
  have cq11 := wd_keep ew_33 n_q11_q16 cq11
  have cq12 := wd_keep ew_33 n_q12_q16 cq12
  have cq13 := wd_keep ew_33 n_q13_q16 cq13
  have cq14 := wd_keep ew_33 n_q14_q16 cq14
  have cq15 := wd_keep ew_33 n_q15_q16 cq15
  have cq16 : w_33 q16 = some (.inl (G.2.1 0, 32, .inl (fun _ => 0))) := wd_here ew_33
  refine wd_putF S i_Mo t_Mo t_Mo_ok n_Mo hK hW ht0 rfl 22 (by decide) k_Mo_59 rfl rfl hname rfl rfl rfl (Nat.le_of_ble_eq_true rfl) d_Mo_init_141 (fun H locs w_34 ew_34 hW => ?_)
  have cq0 := wd_keep ew_34 (Ne.symm n_t_q0) cq0
  have cq1 := wd_keep ew_34 (Ne.symm n_t_q1) cq1
  have cq2 := wd_keep ew_34 (Ne.symm n_t_q2) cq2
  have cq3 := wd_keep ew_34 (Ne.symm n_t_q3) cq3
  have cq4 := wd_keep ew_34 (Ne.symm n_t_q4) cq4
  have cq5 := wd_keep ew_34 (Ne.symm n_t_q5) cq5
  have cq6 := wd_keep ew_34 (Ne.symm n_t_q6) cq6
  have cq7 := wd_keep ew_34 (Ne.symm n_t_q7) cq7
  have cq8 := wd_keep ew_34 (Ne.symm n_t_q8) cq8
  have cq9 := wd_keep ew_34 (Ne.symm n_t_q9) cq9
  have cq10 := wd_keep ew_34 (Ne.symm n_t_q10) cq10
  have cq11 := wd_keep ew_34 (Ne.symm n_t_q11) cq11
  have cq12 := wd_keep ew_34 (Ne.symm n_t_q12) cq12
  have cq13 := wd_keep ew_34 (Ne.symm n_t_q13) cq13
  have cq14 := wd_keep ew_34 (Ne.symm n_t_q14) cq14
  have cq15 := wd_keep ew_34 (Ne.symm n_t_q15) cq15
  have cq16 := wd_keep ew_34 (Ne.symm n_t_q16) cq16
  have ht0 : w_34 t = some (.inr (5, [.int 0, .ref q0, .ref q1, .ref q2, .ref q3, .ref q4, .int 0, .ref q5, .ref q6, .int 0, .int 0, .ref q7, .ref q8, .ref q9, .ref q10, .int 0, .ref q11, .ref q12, .ref q13, .ref q14, .int 0, .ref q15, .ref q16, .int 0, .null])) := wd_here ew_34
  refine lv_aload_n hx hb d_Mo_init_144 rfl (lv_at hl 0 rfl) ?_
  refine lv_bipush (v := 32) hx hb d_Mo_init_145 (by decide) ?_
  refine wd_newa S (atype := .int) ka_int rfl hK hW 0 rfl (n := 32) (N' := 32) (a0 := (32, .inl (fun _ => 0))) (fun _ => rfl) (by decide) (by decide) (by decide) (Nat.le_of_ble_eq_true rfl) (Nat.le_of_ble_eq_true rfl) d_Mo_init_147 (fun q17 H hq17 w_35 ew_35 hW => ?_)
  have n_q0_q17 : q0 ≠ q17 := wd_neN cq0 hq17
  have n_q1_q17 : q1 ≠ q17 := wd_neN cq1 hq17
  have n_q2_q17 : q2 ≠ q17 := wd_neN cq2 hq17
  have n_q3_q17 : q3 ≠ q17 := wd_neN cq3 hq17
  have n_q4_q17 : q4 ≠ q17 := wd_neN cq4 hq17
  have n_q5_q17 : q5 ≠ q17 := wd_neN cq5 hq17
  have n_q6_q17 : q6 ≠ q17 := wd_neN cq6 hq17
  have n_q7_q17 : q7 ≠ q17 := wd_neN cq7 hq17
  have n_q8_q17 : q8 ≠ q17 := wd_neN cq8 hq17
  have n_q9_q17 : q9 ≠ q17 := wd_neN cq9 hq17
  have n_q10_q17 : q10 ≠ q17 := wd_neN cq10 hq17
  have n_q11_q17 : q11 ≠ q17 := wd_neN cq11 hq17
  have n_q12_q17 : q12 ≠ q17 := wd_neN cq12 hq17
  have n_q13_q17 : q13 ≠ q17 := wd_neN cq13 hq17
  have n_q14_q17 : q14 ≠ q17 := wd_neN cq14 hq17
  have n_q15_q17 : q15 ≠ q17 := wd_neN cq15 hq17
  have n_q16_q17 : q16 ≠ q17 := wd_neN cq16 hq17
  have n_t_q17 : t ≠ q17 := wd_neN ht0 hq17
  have zq17 : w q17 = none := by have h9 := hq17; rw [ew_34, va_up_ne _ _ n_t_q17.symm, ew_33, va_up_ne _ _ n_q16_q17.symm, ew_32, va_up_ne _ _ n_t_q17.symm, ew_31, va_up_ne _ _ n_q15_q17.symm, ew_30, va_up_ne _ _ n_t_q17.symm, ew_29, va_up_ne _ _ n_q14_q17.symm, ew_28, va_up_ne _ _ n_t_q17.symm, ew_27, va_up_ne _ _ n_q13_q17.symm, ew_26, va_up_ne _ _ n_t_q17.symm, ew_25, va_up_ne _ _ n_q12_q17.symm, ew_24, va_up_ne _ _ n_t_q17.symm, ew_23, va_up_ne _ _ n_q11_q17.symm, ew_22, va_up_ne _ _ n_t_q17.symm, ew_21, va_up_ne _ _ n_q10_q17.symm, ew_20, va_up_ne _ _ n_t_q17.symm, ew_19, va_up_ne _ _ n_q9_q17.symm, ew_18, va_up_ne _ _ n_t_q17.symm, ew_17, va_up_ne _ _ n_q8_q17.symm, ew_16, va_up_ne _ _ n_t_q17.symm, ew_15, va_up_ne _ _ n_q7_q17.symm, ew_14, va_up_ne _ _ n_t_q17.symm, ew_13, va_up_ne _ _ n_q6_q17.symm, ew_12, va_up_ne _ _ n_t_q17.symm, ew_11, va_up_ne _ _ n_q5_q17.symm, ew_10, va_up_ne _ _ n_t_q17.symm, ew_9, va_up_ne _ _ n_q4_q17.symm, ew_8, va_up_ne _ _ n_t_q17.symm, ew_7, va_up_ne _ _ n_q3_q17.symm, ew_6, va_up_ne _ _ n_t_q17.symm, ew_5, va_up_ne _ _ n_q2_q17.symm, ew_4, va_up_ne _ _ n_t_q17.symm, ew_3, va_up_ne _ _ n_q1_q17.symm, ew_2, va_up_ne _ _ n_t_q17.symm, ew_1, va_up_ne _ _ n_q0_q17.symm] at h9; exact h9
  have ht0 := wd_keep ew_35 n_t_q17 ht0
  have cq0 := wd_keep ew_35 n_q0_q17 cq0
  have cq1 := wd_keep ew_35 n_q1_q17 cq1
  have cq2 := wd_keep ew_35 n_q2_q17 cq2
  have cq3 := wd_keep ew_35 n_q3_q17 cq3
  have cq4 := wd_keep ew_35 n_q4_q17 cq4
  have cq5 := wd_keep ew_35 n_q5_q17 cq5
  have cq6 := wd_keep ew_35 n_q6_q17 cq6
  have cq7 := wd_keep ew_35 n_q7_q17 cq7
  have cq8 := wd_keep ew_35 n_q8_q17 cq8
  have cq9 := wd_keep ew_35 n_q9_q17 cq9
  have cq10 := wd_keep ew_35 n_q10_q17 cq10
  have cq11 := wd_keep ew_35 n_q11_q17 cq11
  have cq12 := wd_keep ew_35 n_q12_q17 cq12
  have cq13 := wd_keep ew_35 n_q13_q17 cq13
  have cq14 := wd_keep ew_35 n_q14_q17 cq14
  have cq15 := wd_keep ew_35 n_q15_q17 cq15
  have cq16 := wd_keep ew_35 n_q16_q17 cq16
  have cq17 : w_35 q17 = some (.inl (G.2.1 0, 32, .inl (fun _ => 0))) := wd_here ew_35
  refine wd_putF S i_Mo t_Mo t_Mo_ok n_Mo hK hW ht0 rfl 24 (by decide) k_Mo_62 rfl rfl hname rfl rfl rfl (Nat.le_of_ble_eq_true rfl) d_Mo_init_149 (fun H locs w_36 ew_36 hW => ?_)
  have cq0 := wd_keep ew_36 (Ne.symm n_t_q0) cq0
  have cq1 := wd_keep ew_36 (Ne.symm n_t_q1) cq1
  have cq2 := wd_keep ew_36 (Ne.symm n_t_q2) cq2
  have cq3 := wd_keep ew_36 (Ne.symm n_t_q3) cq3
  have cq4 := wd_keep ew_36 (Ne.symm n_t_q4) cq4
  have cq5 := wd_keep ew_36 (Ne.symm n_t_q5) cq5
  have cq6 := wd_keep ew_36 (Ne.symm n_t_q6) cq6
  have cq7 := wd_keep ew_36 (Ne.symm n_t_q7) cq7
  have cq8 := wd_keep ew_36 (Ne.symm n_t_q8) cq8
  have cq9 := wd_keep ew_36 (Ne.symm n_t_q9) cq9
  have cq10 := wd_keep ew_36 (Ne.symm n_t_q10) cq10
  have cq11 := wd_keep ew_36 (Ne.symm n_t_q11) cq11
  have cq12 := wd_keep ew_36 (Ne.symm n_t_q12) cq12
  have cq13 := wd_keep ew_36 (Ne.symm n_t_q13) cq13
  have cq14 := wd_keep ew_36 (Ne.symm n_t_q14) cq14
  have cq15 := wd_keep ew_36 (Ne.symm n_t_q15) cq15
  have cq16 := wd_keep ew_36 (Ne.symm n_t_q16) cq16
  have cq17 := wd_keep ew_36 (Ne.symm n_t_q17) cq17
  have ht0 : w_36 t = some (.inr (5, [.int 0, .ref q0, .ref q1, .ref q2, .ref q3, .ref q4, .int 0, .ref q5, .ref q6, .int 0, .int 0, .ref q7, .ref q8, .ref q9, .ref q10, .int 0, .ref q11, .ref q12, .ref q13, .ref q14, .int 0, .ref q15, .ref q16, .int 0, .ref q17])) := wd_here ew_36
  have hk : ∀ x, w x ≠ none → x ≠ t → w_36 x = w x := fun x hx hxr => by rw [ew_36, va_up_ne _ _ hxr, ew_35, va_up_ne _ _ (fun h => hx (by rw [h]; exact zq17)), ew_34, va_up_ne _ _ hxr, ew_33, va_up_ne _ _ (fun h => hx (by rw [h]; exact zq16)), ew_32, va_up_ne _ _ hxr, ew_31, va_up_ne _ _ (fun h => hx (by rw [h]; exact zq15)), ew_30, va_up_ne _ _ hxr, ew_29, va_up_ne _ _ (fun h => hx (by rw [h]; exact zq14)), ew_28, va_up_ne _ _ hxr, ew_27, va_up_ne _ _ (fun h => hx (by rw [h]; exact zq13)), ew_26, va_up_ne _ _ hxr, ew_25, va_up_ne _ _ (fun h => hx (by rw [h]; exact zq12)), ew_24, va_up_ne _ _ hxr, ew_23, va_up_ne _ _ (fun h => hx (by rw [h]; exact zq11)), ew_22, va_up_ne _ _ hxr, ew_21, va_up_ne _ _ (fun h => hx (by rw [h]; exact zq10)), ew_20, va_up_ne _ _ hxr, ew_19, va_up_ne _ _ (fun h => hx (by rw [h]; exact zq9)), ew_18, va_up_ne _ _ hxr, ew_17, va_up_ne _ _ (fun h => hx (by rw [h]; exact zq8)), ew_16, va_up_ne _ _ hxr, ew_15, va_up_ne _ _ (fun h => hx (by rw [h]; exact zq7)), ew_14, va_up_ne _ _ hxr, ew_13, va_up_ne _ _ (fun h => hx (by rw [h]; exact zq6)), ew_12, va_up_ne _ _ hxr, ew_11, va_up_ne _ _ (fun h => hx (by rw [h]; exact zq5)), ew_10, va_up_ne _ _ hxr, ew_9, va_up_ne _ _ (fun h => hx (by rw [h]; exact zq4)), ew_8, va_up_ne _ _ hxr, ew_7, va_up_ne _ _ (fun h => hx (by rw [h]; exact zq3)), ew_6, va_up_ne _ _ hxr, ew_5, va_up_ne _ _ (fun h => hx (by rw [h]; exact zq2)), ew_4, va_up_ne _ _ hxr, ew_3, va_up_ne _ _ (fun h => hx (by rw [h]; exact zq1)), ew_2, va_up_ne _ _ hxr, ew_1, va_up_ne _ _ (fun h => hx (by rw [h]; exact zq0))]
  obtain ⟨tg2, htg⟩ : ∃ f : Nat → Nat, f = va_up (va_up (va_up (va_up (va_up (va_up (va_up (va_up (va_up (va_up (va_up (va_up (va_up (va_up (va_up (va_up (va_up (va_up (va_up tg t 500) q0 501) q1 502) q2 503) q3 504) q4 505) q5 506) q6 507) q7 508) q8 509) q9 510) q10 511) q11 512) q12 513) q13 514) q14 515) q15 516) q16 517) q17 518 := ⟨_, rfl⟩
  have tr : tg2 t = 500 := by rw [htg, va_up_ne _ _ n_t_q17, va_up_ne _ _ n_t_q16, va_up_ne _ _ n_t_q15, va_up_ne _ _ n_t_q14, va_up_ne _ _ n_t_q13, va_up_ne _ _ n_t_q12, va_up_ne _ _ n_t_q11, va_up_ne _ _ n_t_q10, va_up_ne _ _ n_t_q9, va_up_ne _ _ n_t_q8, va_up_ne _ _ n_t_q7, va_up_ne _ _ n_t_q6, va_up_ne _ _ n_t_q5, va_up_ne _ _ n_t_q4, va_up_ne _ _ n_t_q3, va_up_ne _ _ n_t_q2, va_up_ne _ _ n_t_q1, va_up_ne _ _ n_t_q0, va_up_self]
  have tq0 : tg2 q0 = 501 := by rw [htg, va_up_ne _ _ n_q0_q17, va_up_ne _ _ n_q0_q16, va_up_ne _ _ n_q0_q15, va_up_ne _ _ n_q0_q14, va_up_ne _ _ n_q0_q13, va_up_ne _ _ n_q0_q12, va_up_ne _ _ n_q0_q11, va_up_ne _ _ n_q0_q10, va_up_ne _ _ n_q0_q9, va_up_ne _ _ n_q0_q8, va_up_ne _ _ n_q0_q7, va_up_ne _ _ n_q0_q6, va_up_ne _ _ n_q0_q5, va_up_ne _ _ n_q0_q4, va_up_ne _ _ n_q0_q3, va_up_ne _ _ n_q0_q2, va_up_ne _ _ n_q0_q1, va_up_self]
  have tq1 : tg2 q1 = 502 := by rw [htg, va_up_ne _ _ n_q1_q17, va_up_ne _ _ n_q1_q16, va_up_ne _ _ n_q1_q15, va_up_ne _ _ n_q1_q14, va_up_ne _ _ n_q1_q13, va_up_ne _ _ n_q1_q12, va_up_ne _ _ n_q1_q11, va_up_ne _ _ n_q1_q10, va_up_ne _ _ n_q1_q9, va_up_ne _ _ n_q1_q8, va_up_ne _ _ n_q1_q7, va_up_ne _ _ n_q1_q6, va_up_ne _ _ n_q1_q5, va_up_ne _ _ n_q1_q4, va_up_ne _ _ n_q1_q3, va_up_ne _ _ n_q1_q2, va_up_self]
  have tq2 : tg2 q2 = 503 := by rw [htg, va_up_ne _ _ n_q2_q17, va_up_ne _ _ n_q2_q16, va_up_ne _ _ n_q2_q15, va_up_ne _ _ n_q2_q14, va_up_ne _ _ n_q2_q13, va_up_ne _ _ n_q2_q12, va_up_ne _ _ n_q2_q11, va_up_ne _ _ n_q2_q10, va_up_ne _ _ n_q2_q9, va_up_ne _ _ n_q2_q8, va_up_ne _ _ n_q2_q7, va_up_ne _ _ n_q2_q6, va_up_ne _ _ n_q2_q5, va_up_ne _ _ n_q2_q4, va_up_ne _ _ n_q2_q3, va_up_self]
  have tq3 : tg2 q3 = 504 := by rw [htg, va_up_ne _ _ n_q3_q17, va_up_ne _ _ n_q3_q16, va_up_ne _ _ n_q3_q15, va_up_ne _ _ n_q3_q14, va_up_ne _ _ n_q3_q13, va_up_ne _ _ n_q3_q12, va_up_ne _ _ n_q3_q11, va_up_ne _ _ n_q3_q10, va_up_ne _ _ n_q3_q9, va_up_ne _ _ n_q3_q8, va_up_ne _ _ n_q3_q7, va_up_ne _ _ n_q3_q6, va_up_ne _ _ n_q3_q5, va_up_ne _ _ n_q3_q4, va_up_self]
  have tq4 : tg2 q4 = 505 := by rw [htg, va_up_ne _ _ n_q4_q17, va_up_ne _ _ n_q4_q16, va_up_ne _ _ n_q4_q15, va_up_ne _ _ n_q4_q14, va_up_ne _ _ n_q4_q13, va_up_ne _ _ n_q4_q12, va_up_ne _ _ n_q4_q11, va_up_ne _ _ n_q4_q10, va_up_ne _ _ n_q4_q9, va_up_ne _ _ n_q4_q8, va_up_ne _ _ n_q4_q7, va_up_ne _ _ n_q4_q6, va_up_ne _ _ n_q4_q5, va_up_self]
  have tq5 : tg2 q5 = 506 := by rw [htg, va_up_ne _ _ n_q5_q17, va_up_ne _ _ n_q5_q16, va_up_ne _ _ n_q5_q15, va_up_ne _ _ n_q5_q14, va_up_ne _ _ n_q5_q13, va_up_ne _ _ n_q5_q12, va_up_ne _ _ n_q5_q11, va_up_ne _ _ n_q5_q10, va_up_ne _ _ n_q5_q9, va_up_ne _ _ n_q5_q8, va_up_ne _ _ n_q5_q7, va_up_ne _ _ n_q5_q6, va_up_self]
  have tq6 : tg2 q6 = 507 := by rw [htg, va_up_ne _ _ n_q6_q17, va_up_ne _ _ n_q6_q16, va_up_ne _ _ n_q6_q15, va_up_ne _ _ n_q6_q14, va_up_ne _ _ n_q6_q13, va_up_ne _ _ n_q6_q12, va_up_ne _ _ n_q6_q11, va_up_ne _ _ n_q6_q10, va_up_ne _ _ n_q6_q9, va_up_ne _ _ n_q6_q8, va_up_ne _ _ n_q6_q7, va_up_self]
  have tq7 : tg2 q7 = 508 := by rw [htg, va_up_ne _ _ n_q7_q17, va_up_ne _ _ n_q7_q16, va_up_ne _ _ n_q7_q15, va_up_ne _ _ n_q7_q14, va_up_ne _ _ n_q7_q13, va_up_ne _ _ n_q7_q12, va_up_ne _ _ n_q7_q11, va_up_ne _ _ n_q7_q10, va_up_ne _ _ n_q7_q9, va_up_ne _ _ n_q7_q8, va_up_self]
  have tq8 : tg2 q8 = 509 := by rw [htg, va_up_ne _ _ n_q8_q17, va_up_ne _ _ n_q8_q16, va_up_ne _ _ n_q8_q15, va_up_ne _ _ n_q8_q14, va_up_ne _ _ n_q8_q13, va_up_ne _ _ n_q8_q12, va_up_ne _ _ n_q8_q11, va_up_ne _ _ n_q8_q10, va_up_ne _ _ n_q8_q9, va_up_self]
  have tq9 : tg2 q9 = 510 := by rw [htg, va_up_ne _ _ n_q9_q17, va_up_ne _ _ n_q9_q16, va_up_ne _ _ n_q9_q15, va_up_ne _ _ n_q9_q14, va_up_ne _ _ n_q9_q13, va_up_ne _ _ n_q9_q12, va_up_ne _ _ n_q9_q11, va_up_ne _ _ n_q9_q10, va_up_self]
  have tq10 : tg2 q10 = 511 := by rw [htg, va_up_ne _ _ n_q10_q17, va_up_ne _ _ n_q10_q16, va_up_ne _ _ n_q10_q15, va_up_ne _ _ n_q10_q14, va_up_ne _ _ n_q10_q13, va_up_ne _ _ n_q10_q12, va_up_ne _ _ n_q10_q11, va_up_self]
  have tq11 : tg2 q11 = 512 := by rw [htg, va_up_ne _ _ n_q11_q17, va_up_ne _ _ n_q11_q16, va_up_ne _ _ n_q11_q15, va_up_ne _ _ n_q11_q14, va_up_ne _ _ n_q11_q13, va_up_ne _ _ n_q11_q12, va_up_self]
  have tq12 : tg2 q12 = 513 := by rw [htg, va_up_ne _ _ n_q12_q17, va_up_ne _ _ n_q12_q16, va_up_ne _ _ n_q12_q15, va_up_ne _ _ n_q12_q14, va_up_ne _ _ n_q12_q13, va_up_self]
  have tq13 : tg2 q13 = 514 := by rw [htg, va_up_ne _ _ n_q13_q17, va_up_ne _ _ n_q13_q16, va_up_ne _ _ n_q13_q15, va_up_ne _ _ n_q13_q14, va_up_self]
  have tq14 : tg2 q14 = 515 := by rw [htg, va_up_ne _ _ n_q14_q17, va_up_ne _ _ n_q14_q16, va_up_ne _ _ n_q14_q15, va_up_self]
  have tq15 : tg2 q15 = 516 := by rw [htg, va_up_ne _ _ n_q15_q17, va_up_ne _ _ n_q15_q16, va_up_self]
  have tq16 : tg2 q16 = 517 := by rw [htg, va_up_ne _ _ n_q16_q17, va_up_self]
  have tq17 : tg2 q17 = 518 := by rw [htg, va_up_self]
  have hx2 : ∀ x, w x ≠ none → x ≠ t → tg2 x = tg x := fun x hx hxr => by rw [htg, va_up_ne _ _ (fun h => hx (by rw [h]; exact zq17)), va_up_ne _ _ (fun h => hx (by rw [h]; exact zq16)), va_up_ne _ _ (fun h => hx (by rw [h]; exact zq15)), va_up_ne _ _ (fun h => hx (by rw [h]; exact zq14)), va_up_ne _ _ (fun h => hx (by rw [h]; exact zq13)), va_up_ne _ _ (fun h => hx (by rw [h]; exact zq12)), va_up_ne _ _ (fun h => hx (by rw [h]; exact zq11)), va_up_ne _ _ (fun h => hx (by rw [h]; exact zq10)), va_up_ne _ _ (fun h => hx (by rw [h]; exact zq9)), va_up_ne _ _ (fun h => hx (by rw [h]; exact zq8)), va_up_ne _ _ (fun h => hx (by rw [h]; exact zq7)), va_up_ne _ _ (fun h => hx (by rw [h]; exact zq6)), va_up_ne _ _ (fun h => hx (by rw [h]; exact zq5)), va_up_ne _ _ (fun h => hx (by rw [h]; exact zq4)), va_up_ne _ _ (fun h => hx (by rw [h]; exact zq3)), va_up_ne _ _ (fun h => hx (by rw [h]; exact zq2)), va_up_ne _ _ (fun h => hx (by rw [h]; exact zq1)), va_up_ne _ _ (fun h => hx (by rw [h]; exact zq0)), va_up_ne _ _ hxr]
  have hgF : mo_g tg2 t (fun i => [q0, q1, q2, q3, q4, q5, q6, q7, q8, q9, q10, q11, q12, q13, q14, q15, q16, q17].getD i 0) := ⟨tr, fun i hi => by match i, hi with
    | 0, _ => exact tq0
    | 1, _ => exact tq1
    | 2, _ => exact tq2
    | 3, _ => exact tq3
    | 4, _ => exact tq4
    | 5, _ => exact tq5
    | 6, _ => exact tq6
    | 7, _ => exact tq7
    | 8, _ => exact tq8
    | 9, _ => exact tq9
    | 10, _ => exact tq10
    | 11, _ => exact tq11
    | 12, _ => exact tq12
    | 13, _ => exact tq13
    | 14, _ => exact tq14
    | 15, _ => exact tq15
    | 16, _ => exact tq16
    | 17, _ => exact tq17
    | i + 18, h => exact absurd h (by omega)⟩
  have hcF : mo_c G w_36 t (fun i => [q0, q1, q2, q3, q4, q5, q6, q7, q8, q9, q10, q11, q12, q13, q14, q15, q16, q17].getD i 0) (fun _ _ => 0) 0 0 0 0 0 0 0 := ⟨ht0, cq0, cq1, cq2, cq3, cq4, cq5, cq6, cq7, cq8, cq9, cq10, cq11, cq12, cq13, cq14, cq15, cq16, cq17⟩
  exact ct_vret S hr hlocks hW (⟨tg2, ⟨(fun i => [q0, q1, q2, q3, q4, q5, q6, q7, q8, q9, q10, q11, q12, q13, q14, q15, q16, q17].getD i 0), fun _ _ => 0, hcF, hgF, ⟨fun i lg h => by simp at h, fun i _ _ => ⟨fun s _ => ⟨rfl, rfl⟩, rfl⟩⟩, fun i p h => by simp at h, fun i p h => by simp at h, li_nil, li_nil, li_nil, li_nil⟩, hx2, hk⟩) (Nat.le_of_ble_eq_true rfl) (Nat.le_of_ble_eq_true rfl) d_Mo_init_152
