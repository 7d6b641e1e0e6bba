/-! LEAVES: tests of numbers, Math, ArrayList's reads. -/
/-- the room of a method d levels above the ground, that makes mc cells of ms slots -/
abbrev rm_ (d mc ms : Nat) : Room := { frames := d, cells := mc, slots := ms, locals := 30 * d }
/-- a truth value as an int -/
def bl_ (v : Int32) (P : Prop) : Prop := (v = 1 ∧ P) ∨ (v = 0 ∧ ¬ P)
theorem bl_t {v : Int32} {P : Prop} (h : bl_ v P) (h0 : ¬ v = 0) : P := h.elim (fun q => q.2) (fun q => absurd q.1 h0)
theorem bl_f {v : Int32} {P : Prop} (h : bl_ v P) (h0 : v = 0) : ¬ P := h.elim (fun q => absurd (q.1.symm.trans h0) (by decide)) (fun q => q.2)
theorem bl_1 {v : Int32} {P : Prop} (h : bl_ v P) (h0 : v = 1) : P := h.elim (fun q => q.2) (fun q => absurd (q.1.symm.trans h0) (by decide))
theorem bl_i {P Q : Prop} {v : Int32} (h : bl_ v P) (hpq : P ↔ Q) : bl_ v Q := h.elim (fun q => Or.inl ⟨q.1, hpq.mp q.2⟩) (fun q => Or.inr ⟨q.1, fun z => q.2 (hpq.mpr z)⟩)

set_option maxHeartbeats 4000000 in
set_option maxRecDepth 100000 in
/-- isSign(x) -/
theorem c_HR_isSign (l : Launch) (G : ev_G) (w : wd_M) (sz : Nat) (x : Int32)  : ct_i l y_HR_isSign b_HR_isSign 1 (some FieldType.boolean) (rm_ 0 0 0) G w sz [.int x] (fun v u => bl_ v (¬ x < 0 ∧ ¬ 256 ≤ x) ∧ u = w) := by
  refine ct_enter (by decide +kernel) (Nat.le_of_ble_eq_true rfl) ?_
  intro p_ e_ s m below meth c_ hsz S hr hlocks hname hE hW ls hl
  have S : CallFix p_ m c_ b_HR_isSign 1 s _ lw_good "HyphenRows" := S
  have hx := S.1
  have hb := S.2.1
  have hK := hE.1
  have hl : lv_has ls 1 [(0, .int x)] := hl
  refine lv_iload_n hx hb d_HR_isSign_0 rfl (lv_at hl 0 rfl) ?_
  refine lv_if_lt (tgt := 15) hx hb d_HR_isSign_1 (by decide) (fun h1 => ?_) (fun h1 => ?_)
  · refine lv_iconst (v := 0) hx hb d_HR_isSign_15 (by decide) ?_
    exact ct_iret S hr rfl hlocks hW (⟨Or.inr ⟨rfl, fun q => q.1 h1⟩, rfl⟩) (Nat.le_refl _) (Nat.le_refl _) d_HR_isSign_16
  · refine lv_iload_n hx hb d_HR_isSign_4 rfl (lv_at hl 0 rfl) ?_
    refine lv_sipush (v := 256) hx hb d_HR_isSign_5 (by decide) ?_
    refine lv_icmp_ge (tgt := 15) hx hb d_HR_isSign_8 (by decide) (fun h8 => ?_) (fun h8 => ?_)
    · refine lv_iconst (v := 0) hx hb d_HR_isSign_15 (by decide) ?_
      exact ct_iret S hr rfl hlocks hW (⟨Or.inr ⟨rfl, fun q => q.2 h8⟩, rfl⟩) (Nat.le_refl _) (Nat.le_refl _) d_HR_isSign_16
    · refine lv_iconst (v := 1) hx hb d_HR_isSign_11 (by decide) ?_
      refine lv_goto (tgt := 16) hx hb d_HR_isSign_12 (by decide) ?_
      exact ct_iret S hr rfl hlocks hW (⟨Or.inl ⟨rfl, h1, h8⟩, rfl⟩) (Nat.le_refl _) (Nat.le_refl _) d_HR_isSign_16

set_option maxHeartbeats 4000000 in
set_option maxRecDepth 100000 in
/-- isLetterOrZero(x) -/
theorem c_HR_isLetterOrZero (l : Launch) (G : ev_G) (w : wd_M) (sz : Nat) (x : Int32)  : ct_i l y_HR_isLetterOrZero b_HR_isLetterOrZero 1 (some FieldType.boolean) (rm_ 0 0 0) G w sz [.int x] (fun v u => bl_ v (¬ x < 0 ∧ ¬ 30 < x) ∧ u = w) := by
  refine ct_enter (by decide +kernel) (Nat.le_of_ble_eq_true rfl) ?_
  intro p_ e_ s m below meth c_ hsz S hr hlocks hname hE hW ls hl
  have S : CallFix p_ m c_ b_HR_isLetterOrZero 1 s _ lw_good "HyphenRows" := S
  have hx := S.1
  have hb := S.2.1
  have hK := hE.1
  have hl : lv_has ls 1 [(0, .int x)] := hl
  refine lv_iload_n hx hb d_HR_isLetterOrZero_0 rfl (lv_at hl 0 rfl) ?_
  refine lv_if_lt (tgt := 14) hx hb d_HR_isLetterOrZero_1 (by decide) (fun h1 => ?_) (fun h1 => ?_)
  · refine lv_iconst (v := 0) hx hb d_HR_isLetterOrZero_14 (by decide) ?_
    exact ct_iret S hr rfl hlocks hW (⟨Or.inr ⟨rfl, fun q => q.1 h1⟩, rfl⟩) (Nat.le_refl _) (Nat.le_refl _) d_HR_isLetterOrZero_15
  · refine lv_iload_n hx hb d_HR_isLetterOrZero_4 rfl (lv_at hl 0 rfl) ?_
    refine lv_bipush (v := 30) hx hb d_HR_isLetterOrZero_5 (by decide) ?_
    refine lv_icmp_gt (tgt := 14) hx hb d_HR_isLetterOrZero_7 (by decide) (fun h7 => ?_) (fun h7 => ?_)
    · refine lv_iconst (v := 0) hx hb d_HR_isLetterOrZero_14 (by decide) ?_
      exact ct_iret S hr rfl hlocks hW (⟨Or.inr ⟨rfl, fun q => q.2 h7⟩, rfl⟩) (Nat.le_refl _) (Nat.le_refl _) d_HR_isLetterOrZero_15
    · refine lv_iconst (v := 1) hx hb d_HR_isLetterOrZero_10 (by decide) ?_
      refine lv_goto (tgt := 15) hx hb d_HR_isLetterOrZero_11 (by decide) ?_
      exact ct_iret S hr rfl hlocks hW (⟨Or.inl ⟨rfl, h1, h7⟩, rfl⟩) (Nat.le_refl _) (Nat.le_refl _) d_HR_isLetterOrZero_15

set_option maxHeartbeats 4000000 in
set_option maxRecDepth 100000 in
/-- isDigit(x) -/
theorem c_HR_isDigit (l : Launch) (G : ev_G) (w : wd_M) (sz : Nat) (x : Int32)  : ct_i l y_HR_isDigit b_HR_isDigit 1 (some FieldType.boolean) (rm_ 0 0 0) G w sz [.int x] (fun v u => bl_ v (¬ x < 0 ∧ ¬ 9 < x) ∧ u = w) := by
  refine ct_enter (by decide +kernel) (Nat.le_of_ble_eq_true rfl) ?_
  intro p_ e_ s m below meth c_ hsz S hr hlocks hname hE hW ls hl
  have S : CallFix p_ m c_ b_HR_isDigit 1 s _ lw_good "HyphenRows" := S
  have hx := S.1
  have hb := S.2.1
  have hK := hE.1
  have hl : lv_has ls 1 [(0, .int x)] := hl
  refine lv_iload_n hx hb d_HR_isDigit_0 rfl (lv_at hl 0 rfl) ?_
  refine lv_if_lt (tgt := 14) hx hb d_HR_isDigit_1 (by decide) (fun h1 => ?_) (fun h1 => ?_)
  · refine lv_iconst (v := 0) hx hb d_HR_isDigit_14 (by decide) ?_
    exact ct_iret S hr rfl hlocks hW (⟨Or.inr ⟨rfl, fun q => q.1 h1⟩, rfl⟩) (Nat.le_refl _) (Nat.le_refl _) d_HR_isDigit_15
  · refine lv_iload_n hx hb d_HR_isDigit_4 rfl (lv_at hl 0 rfl) ?_
    refine lv_bipush (v := 9) hx hb d_HR_isDigit_5 (by decide) ?_
    refine lv_icmp_gt (tgt := 14) hx hb d_HR_isDigit_7 (by decide) (fun h7 => ?_) (fun h7 => ?_)
    · refine lv_iconst (v := 0) hx hb d_HR_isDigit_14 (by decide) ?_
      exact ct_iret S hr rfl hlocks hW (⟨Or.inr ⟨rfl, fun q => q.2 h7⟩, rfl⟩) (Nat.le_refl _) (Nat.le_refl _) d_HR_isDigit_15
    · refine lv_iconst (v := 1) hx hb d_HR_isDigit_10 (by decide) ?_
      refine lv_goto (tgt := 15) hx hb d_HR_isDigit_11 (by decide) ?_
      exact ct_iret S hr rfl hlocks hW (⟨Or.inl ⟨rfl, h1, h7⟩, rfl⟩) (Nat.le_refl _) (Nat.le_refl _) d_HR_isDigit_15

set_option maxHeartbeats 4000000 in
set_option maxRecDepth 100000 in
/-- isLeast(x) -/
theorem c_HR_isLeast (l : Launch) (G : ev_G) (w : wd_M) (sz : Nat) (x : Int32)  : ct_i l y_HR_isLeast b_HR_isLeast 1 (some FieldType.boolean) (rm_ 0 0 0) G w sz [.int x] (fun v u => bl_ v (¬ x < 0 ∧ ¬ 20 < x) ∧ u = w) := by
  refine ct_enter (by decide +kernel) (Nat.le_of_ble_eq_true rfl) ?_
  intro p_ e_ s m below meth c_ hsz S hr hlocks hname hE hW ls hl
  have S : CallFix p_ m c_ b_HR_isLeast 1 s _ lw_good "HyphenRows" := S
  have hx := S.1
  have hb := S.2.1
  have hK := hE.1
  have hl : lv_has ls 1 [(0, .int x)] := hl
  refine lv_iload_n hx hb d_HR_isLeast_0 rfl (lv_at hl 0 rfl) ?_
  refine lv_if_lt (tgt := 14) hx hb d_HR_isLeast_1 (by decide) (fun h1 => ?_) (fun h1 => ?_)
  · refine lv_iconst (v := 0) hx hb d_HR_isLeast_14 (by decide) ?_
    exact ct_iret S hr rfl hlocks hW (⟨Or.inr ⟨rfl, fun q => q.1 h1⟩, rfl⟩) (Nat.le_refl _) (Nat.le_refl _) d_HR_isLeast_15
  · refine lv_iload_n hx hb d_HR_isLeast_4 rfl (lv_at hl 0 rfl) ?_
    refine lv_bipush (v := 20) hx hb d_HR_isLeast_5 (by decide) ?_
    refine lv_icmp_gt (tgt := 14) hx hb d_HR_isLeast_7 (by decide) (fun h7 => ?_) (fun h7 => ?_)
    · refine lv_iconst (v := 0) hx hb d_HR_isLeast_14 (by decide) ?_
      exact ct_iret S hr rfl hlocks hW (⟨Or.inr ⟨rfl, fun q => q.2 h7⟩, rfl⟩) (Nat.le_refl _) (Nat.le_refl _) d_HR_isLeast_15
    · refine lv_iconst (v := 1) hx hb d_HR_isLeast_10 (by decide) ?_
      refine lv_goto (tgt := 15) hx hb d_HR_isLeast_11 (by decide) ?_
      exact ct_iret S hr rfl hlocks hW (⟨Or.inl ⟨rfl, h1, h7⟩, rfl⟩) (Nat.le_refl _) (Nat.le_refl _) d_HR_isLeast_15

set_option maxHeartbeats 4000000 in
set_option maxRecDepth 100000 in
/-- in(x, a, b) -/
theorem c_Mo_in (l : Launch) (G : ev_G) (w : wd_M) (sz : Nat) (x a b : Int32)  : ct_i l y_Mo_in b_Mo_in 3 (some FieldType.boolean) (rm_ 0 0 0) G w sz [.int x, .int a, .int b] (fun v u => bl_ v (¬ x < a ∧ ¬ b < x) ∧ u = w) := by
  refine ct_enter (by decide +kernel) (Nat.le_of_ble_eq_true rfl) ?_
  intro p_ e_ s m below meth c_ hsz S hr hlocks hname hE hW ls hl
  have S : CallFix p_ m c_ b_Mo_in 3 s _ lw_good "HyphenRowsModel" := S
  have hx := S.1
  have hb := S.2.1
  have hK := hE.1
  have hl : lv_has ls 3 [(0, .int x), (1, .int a), (2, .int b)] := hl
  refine lv_iload_n hx hb d_Mo_in_0 rfl (lv_at hl 0 rfl) ?_
  refine lv_iload_n hx hb d_Mo_in_1 rfl (lv_at hl 1 rfl) ?_
  refine lv_icmp_lt (tgt := 14) hx hb d_Mo_in_2 (by decide) (fun h2 => ?_) (fun h2 => ?_)
  · refine lv_iconst (v := 0) hx hb d_Mo_in_14 (by decide) ?_
    exact ct_iret S hr rfl hlocks hW (⟨Or.inr ⟨rfl, fun q => q.1 h2⟩, rfl⟩) (Nat.le_refl _) (Nat.le_refl _) d_Mo_in_15
  · refine lv_iload_n hx hb d_Mo_in_5 rfl (lv_at hl 0 rfl) ?_
    refine lv_iload_n hx hb d_Mo_in_6 rfl (lv_at hl 2 rfl) ?_
    refine lv_icmp_gt (tgt := 14) hx hb d_Mo_in_7 (by decide) (fun h7 => ?_) (fun h7 => ?_)
    · refine lv_iconst (v := 0) hx hb d_Mo_in_14 (by decide) ?_
      exact ct_iret S hr rfl hlocks hW (⟨Or.inr ⟨rfl, fun q => q.2 h7⟩, rfl⟩) (Nat.le_refl _) (Nat.le_refl _) d_Mo_in_15
    · refine lv_iconst (v := 1) hx hb d_Mo_in_10 (by decide) ?_
      refine lv_goto (tgt := 15) hx hb d_Mo_in_11 (by decide) ?_
      exact ct_iret S hr rfl hlocks hW (⟨Or.inl ⟨rfl, h2, h7⟩, rfl⟩) (Nat.le_refl _) (Nat.le_refl _) d_Mo_in_15

set_option maxHeartbeats 4000000 in
set_option maxRecDepth 100000 in
/-- size() -/
theorem c_AL_size (l : Launch) (G : ev_G) (w : wd_M) (sz : Nat) (a ed : Nat) (n mo : Int32) (ha : w a = some (.inr (4, [.ref ed, .int n, .int mo]))) : ct_i l y_AL_size b_AL_size 1 (some FieldType.int) (rm_ 0 0 0) G w sz [.ref a] (fun v u => v = n ∧ u = w) := by
  refine ct_enter (by decide +kernel) (Nat.le_of_ble_eq_true rfl) ?_
  intro p_ e_ s m below meth c_ hsz S hr hlocks hname hE hW ls hl
  have S : CallFix p_ m c_ b_AL_size 1 s _ lw_good "java/util/ArrayList" := S
  have hx := S.1
  have hb := S.2.1
  have hK := hE.1
  have hl : lv_has ls 1 [(0, .ref a)] := hl
  refine lv_aload_n hx hb d_AL_size_0 rfl (lv_at hl 0 rfl) ?_
  refine wd_get S i_AL hK hW ha rfl 1 (by decide) k_AL_48 rfl rfl d_AL_size_1 ?_
  exact ct_iret S hr rfl hlocks hW (⟨rfl, rfl⟩) (Nat.le_refl _) (Nat.le_refl _) d_AL_size_4
