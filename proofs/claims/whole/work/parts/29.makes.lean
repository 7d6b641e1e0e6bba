/-! THE CLASS: calls that make cells. -/

theorem wd_z0 {G : ev_G} {A : Nat → Prop} {s : State} {H : Heap} {locs : List Loc} {u : wd_M} (hE : ev_K G A s s.heap) (hW : wd_W G.1 ev_cl A u s.heap H locs) : u (G.2.2 0) = none := by
  cases hu : u (G.2.2 0) with
  | none => rfl
  | some x => exact absurd (hW.1.inA hu) hE.2.2.2.1.out
/-- the class behind a growth of its j-th list -/
theorem hs_gr {G : ev_G} {w u : wd_M} {tg tg2 : Nat → Nat} {r : Nat} {B E : Nat → Nat} {F : Nat → Nat → Int32} {tot mn wn pn : Int32} {la pa ta : List Nat} {Ls : List hy_L} {Ps : List hy_P} {Ts : List hy_T} (j : Nat) (hs : hs_ G w tg B E la pa ta Ls Ps Ts) (hc : hr_c G w r B F tot mn wn pn) (hg : hr_g tg r B) (wL : Ls.length ≤ 4) (wP : Ps.length ≤ 150) (hj : j < 3) (hk : ∀ x, w x ≠ none → tg x ≠ 2 + j → tg x ≠ 11 + j → u x = w x) (hx : ex_ w tg tg2) (hz : u (G.2.2 0) = none) :
    hr_c G u r B F tot mn wn pn ∧ hr_g tg2 r B ∧ (0 ≠ j → al_ G u (B 0) (E 0) la) ∧ (1 ≠ j → al_ G u (B 1) (E 1) pa) ∧ (2 ≠ j → al_ G u (B 2) (E 2) ta) ∧ (∀ i, i < 3 → i ≠ j → u (E i) ≠ none → tg2 (E i) = 11 + i) ∧ la_ G u tg2 la Ls ∧ pa_ G u tg2 pa Ps ∧ ta_ G u tg2 ta Ts := by
  obtain ⟨⟨h0, h1, h2, hEt⟩, hl, hp, h3⟩ := hs
  obtain ⟨hr0, a3, a4, a5, a6, a7, a8⟩ := id hc
  have kB : ∀ i, i < 9 → (∃ y, w (B i) = some y) → i ≠ j → u (B i) = w (B i) := fun i hi hy hij => by
    obtain ⟨y, hy⟩ := hy
    exact hk _ (wd_some hy) (by rw [hg.2 i hi]; omega) (by rw [hg.2 i hi]; omega)
  have kE : ∀ i, i < 3 → i ≠ j → w (E i) ≠ none → u (E i) = w (E i) := fun i hi hij hn => hk _ hn (by rw [hEt i hi hn]; omega) (by rw [hEt i hi hn]; omega)
  have hEz : ∀ (i : Nat) (els : List Nat), al_ G w (B i) (E i) els → u (E i) ≠ none → w (E i) ≠ none := fun i els h hu => by
    obtain ⟨mo, -, q⟩ := h
    rcases q with ⟨q, -⟩ | ⟨cap, f, q, -⟩
    · rw [q, hz] at hu; exact absurd rfl hu
    · exact wd_some q
  refine ⟨⟨?_, ?_, ?_, ?_, ?_, ?_, ?_⟩, ⟨(hx r (wd_some hr0)).trans hg.1, fun i hi => ?_⟩, fun q => al_keep h0 (kB 0 (by omega) ⟨_, h0.choose_spec.1⟩ q) (kE 0 (by omega) q), fun q => al_keep h1 (kB 1 (by omega) ⟨_, h1.choose_spec.1⟩ q) (kE 1 (by omega) q), fun q => al_keep h2 (kB 2 (by omega) ⟨_, h2.choose_spec.1⟩ q) (kE 2 (by omega) q), fun i hi hij hn => ?_, la_keep hl (fun x hy hq => hk x hy (by have hq : 1000 ≤ tg x ∧ tg x < 2000 := hq; omega) (by have hq : 1000 ≤ tg x ∧ tg x < 2000 := hq; omega)) hx wL, pa_keep hp (fun x hy hq => hk x hy (by have hq : 2000 ≤ tg x ∧ tg x < 10000 := hq; omega) (by have hq : 2000 ≤ tg x ∧ tg x < 10000 := hq; omega)) hx wP, ta_keep h3 (fun x hy hq => hk x hy (by have hq : 10000 ≤ tg x := hq; omega) (by have hq : 10000 ≤ tg x := hq; omega)) hx⟩
  · rw [hk r (wd_some hr0) (by rw [hg.1]; omega) (by rw [hg.1]; omega)]; exact hr0
  · rw [kB 3 (by omega) ⟨_, a3⟩ (by omega)]; exact a3
  · rw [kB 4 (by omega) ⟨_, a4⟩ (by omega)]; exact a4
  · rw [kB 5 (by omega) ⟨_, a5⟩ (by omega)]; exact a5
  · rw [kB 6 (by omega) ⟨_, a6⟩ (by omega)]; exact a6
  · rw [kB 7 (by omega) ⟨_, a7⟩ (by omega)]; exact a7
  · rw [kB 8 (by omega) ⟨_, a8⟩ (by omega)]; exact a8
  · have hne : w (B i) ≠ none := by
      match i, hi with
      | 0, _ => exact wd_some h0.choose_spec.1
      | 1, _ => exact wd_some h1.choose_spec.1
      | 2, _ => exact wd_some h2.choose_spec.1
      | 3, _ => exact wd_some a3
      | 4, _ => exact wd_some a4
      | 5, _ => exact wd_some a5
      | 6, _ => exact wd_some a6
      | 7, _ => exact wd_some a7
      | 8, _ => exact wd_some a8
      | i + 9, h => exact absurd h (by omega)
    exact (hx _ hne).trans (hg.2 i hi)
  · have hw : w (E i) ≠ none := by
      match i, hi with
      | 0, _ => exact hEz 0 la h0 hn
      | 1, _ => exact hEz 1 pa h1 hn
      | 2, _ => exact hEz 2 ta h2 hn
      | i + 3, h => exact absurd h (by omega)
    exact (hx _ hw).trans (hEt i hi hw)
theorem app_get {α β : Type} {xs : List α} {ys : List β} {x : α} {y : β} {P : Nat → α → β → Prop} (hl : xs.length = ys.length) (h : ∀ (i : Nat) (b : β), ys[i]? = some b → ∃ a, xs[i]? = some a ∧ P i a b) (hn : P ys.length x y) : ∀ (i : Nat) (b : β), (ys ++ [y])[i]? = some b → ∃ a, (xs ++ [x])[i]? = some a ∧ P i a b := by
  intro i b hb
  by_cases hi : i < ys.length
  · rw [List.getElem?_append_left hi] at hb
    obtain ⟨a, h1, h2⟩ := h i b hb
    exact ⟨a, by rw [List.getElem?_append_left (by omega)]; exact h1, h2⟩
  · rw [List.getElem?_append_right (by omega)] at hb
    have h1 : i - ys.length < 1 := (List.getElem?_eq_some_iff.mp hb).1
    have h2 : i = ys.length := by omega
    subst h2
    rw [Nat.sub_self] at hb
    cases hb
    exact ⟨x, by rw [List.getElem?_append_right (by omega), show ys.length - xs.length = 0 by omega]; rfl, hn⟩
theorem la_push {G : ev_G} {u : wd_M} {tg : Nat → Nat} {la : List Nat} {Ls : List hy_L} {a b z : Nat} {lg : hy_L} (h : la_ G u tg la Ls) (h1 : la_1 G u a b z lg) (t1 : tg a = 1000 + 3 * Ls.length) (t2 : tg b = 1001 + 3 * Ls.length) (t3 : tg z = 1002 + 3 * Ls.length) : la_ G u tg (la ++ [a]) (Ls ++ [lg]) := by
  refine ⟨by rw [List.length_append, List.length_append, h.1]; rfl, fun i lg2 hi => ?_⟩
  obtain ⟨a2, g1, b2, z2, g2⟩ := app_get (P := fun i a lg => ∃ b z : Nat, la_1 G u a b z lg ∧ tg a = 1000 + 3 * i ∧ tg b = 1001 + 3 * i ∧ tg z = 1002 + 3 * i) h.1 (fun i lg hi => by obtain ⟨a, b, z, q1, q2⟩ := h.2 i lg hi; exact ⟨a, q1, b, z, q2⟩) ⟨b, z, h1, t1, t2, t3⟩ i lg2 hi
  exact ⟨a2, b2, z2, g1, g2⟩
theorem pa_push {G : ev_G} {u : wd_M} {tg : Nat → Nat} {pa : List Nat} {Ps : List hy_P} {a b d : Nat} {f g : Nat → Int32} {p : hy_P} (h : pa_ G u tg pa Ps) (h1 : pa_1 G u a b d f g p) (t1 : tg a = 2000 + 3 * Ps.length) (t2 : tg b = 2001 + 3 * Ps.length) (t3 : tg d = 2002 + 3 * Ps.length) : pa_ G u tg (pa ++ [a]) (Ps ++ [p]) := by
  refine ⟨by rw [List.length_append, List.length_append, h.1]; rfl, fun i p2 hi => ?_⟩
  obtain ⟨a2, g1, b2, d2, f2, gg2, g2⟩ := app_get (P := fun i a p => ∃ (b d : Nat) (f g : Nat → Int32), pa_1 G u a b d f g p ∧ tg a = 2000 + 3 * i ∧ tg b = 2001 + 3 * i ∧ tg d = 2002 + 3 * i) h.1 (fun i p hi => by obtain ⟨a, b, d, f, g, q1, q2⟩ := h.2 i p hi; exact ⟨a, q1, b, d, f, g, q2⟩) ⟨b, d, f, g, h1, t1, t2, t3⟩ i p2 hi
  exact ⟨a2, b2, d2, f2, gg2, g1, g2⟩
theorem ta_push {G : ev_G} {u : wd_M} {tg : Nat → Nat} {ta : List Nat} {Ts : List hy_T} {a b : Nat} {f : Nat → Int32} {t : hy_T} (h : ta_ G u tg ta Ts) (h1 : ta_1 G u a b f t) (t1 : tg a = 10000 + 2 * a) (t2 : tg b = 10001 + 2 * a) (hn : a ∉ ta) : ta_ G u tg (ta ++ [a]) (Ts ++ [t]) := by
  refine ⟨by rw [List.length_append, List.length_append, h.1]; rfl, fun i j c hi hj => ?_, fun i t3 hi => ?_⟩
  · have key : ∀ k, (ta ++ [a])[k]? = some c → (ta[k]? = some c ∧ c ≠ a) ∨ (k = ta.length ∧ c = a) := fun k hk => by
      by_cases hl : k < ta.length
      · rw [List.getElem?_append_left hl] at hk
        exact Or.inl ⟨hk, fun q => hn (by rw [← q]; exact List.mem_of_getElem? hk)⟩
      · rw [List.getElem?_append_right (by omega)] at hk
        have h1 : k - ta.length < 1 := (List.getElem?_eq_some_iff.mp hk).1
        have h2 : k = ta.length := by omega
        subst h2
        rw [Nat.sub_self] at hk
        cases hk
        exact Or.inr ⟨rfl, rfl⟩
    rcases key i hi with ⟨q1, q2⟩ | ⟨q1, q2⟩ <;> rcases key j hj with ⟨q3, q4⟩ | ⟨q3, q4⟩
    · exact h.2.1 i j c q1 q3
    · exact absurd q4 q2
    · exact absurd q2 q4
    · omega
  · obtain ⟨a2, g1, b2, f2, g2⟩ := app_get (P := fun i a t => ∃ (b : Nat) (f : Nat → Int32), ta_1 G u a b f t ∧ tg a = 10000 + 2 * a ∧ tg b = 10001 + 2 * a) h.1 (fun i t hi => by obtain ⟨a, b, f, q1, q2⟩ := h.2.2 i t hi; exact ⟨a, q1, b, f, q2⟩) ⟨b, f, h1, t1, t2⟩ i t3 hi
    exact ⟨a2, b2, f2, g1, g2⟩

set_option maxHeartbeats 4000000 in
set_option maxRecDepth 100000 in
/-- Pa_init -/
theorem c_Pa_init (l : Launch) (G : ev_G) (w : wd_M) (sz : Nat) (a b d : Nat) (x y : Int32) (ha : w a = some (.inr (2, [.int 0, .null, .null]))) : ct_v l y_Pa_init b_Pa_init 4 none (rm_ 1 0 0) G w sz [.ref a, .int x, .ref b, .ref d] (fun u => u = va_up w a (some (.inr (2, [.int x, .ref b, .ref d])))) := by
  refine ct_enter (by decide +kernel) (Nat.le_of_ble_eq_true rfl) ?_
  intro p_ e_ s m below meth c_ hsz S hr hlocks hname hE hW ls hl
  have S : CallFix p_ m c_ b_Pa_init 4 s _ lw_good "HyphenRows$Pattern" := S
  have hx := S.1
  have hb := S.2.1
  have hK := hE.1
  have hl : lv_has ls 4 [(0, .ref a), (1, .int x), (2, .ref b), (3, .ref d)] := hl
  refine lv_aload_n hx hb d_Pa_init_0 rfl (lv_at hl 0 rfl) ?_
  refine W.objInit hx hb S.2.2.2.1 (S.2.2.2.2 _ k_Pa_1) (S.2.2.2.2 _ ki_Oj_init) (S.2.2.2.2 _ kc_Oj_init) rfl (by rw [S.2.2.1]; exact hl.1) rfl d_Pa_init_1 (Nat.le_of_ble_eq_true rfl) (Nat.le_of_ble_eq_true rfl) ?_
  refine W.eq (g2 := F0 m 4 ls []) rfl ?_
  refine lv_aload_n hx hb d_Pa_init_4 rfl (lv_at hl 0 rfl) ?_
  refine lv_iload_n hx hb d_Pa_init_5 rfl (lv_at hl 1 rfl) ?_
  refine wd_putF S i_Pa t_Pa t_Pa_ok n_Pa hK hW ha rfl 0 (by decide) k_Pa_7 rfl rfl hname rfl rfl rfl (Nat.le_of_ble_eq_true rfl) d_Pa_init_6 (fun H locs w_1 ew_1 hW => ?_)
  have ha : w_1 a = some (.inr (2, [.int x, .null, .null])) := wd_here ew_1
  refine lv_aload_n hx hb d_Pa_init_9 rfl (lv_at hl 0 rfl) ?_
  refine lv_aload_n hx hb d_Pa_init_10 rfl (lv_at hl 2 rfl) ?_
  refine wd_putF S i_Pa t_Pa t_Pa_ok n_Pa hK hW ha rfl 1 (by decide) k_Pa_13 rfl rfl hname rfl rfl rfl (Nat.le_of_ble_eq_true rfl) d_Pa_init_11 (fun H locs w_2 ew_2 hW => ?_)
  have ha : w_2 a = some (.inr (2, [.int x, .ref b, .null])) := wd_here ew_2
  refine lv_aload_n hx hb d_Pa_init_14 rfl (lv_at hl 0 rfl) ?_
  refine lv_aload_n hx hb d_Pa_init_15 rfl (lv_at hl 3 rfl) ?_
  refine wd_putF S i_Pa t_Pa t_Pa_ok n_Pa hK hW ha rfl 2 (by decide) k_Pa_17 rfl rfl hname rfl rfl rfl (Nat.le_of_ble_eq_true rfl) d_Pa_init_16 (fun H locs w_3 ew_3 hW => ?_)
  have ha : w_3 a = some (.inr (2, [.int x, .ref b, .ref d])) := wd_here ew_3
  exact ct_vret S hr hlocks hW (by rw [ew_3, ew_2, ew_1, bx_uu, bx_uu] <;> rfl) (Nat.le_refl _) (Nat.le_refl _) d_Pa_init_19

set_option maxHeartbeats 4000000 in
set_option maxRecDepth 100000 in
/-- To_init -/
theorem c_To_init (l : Launch) (G : ev_G) (w : wd_M) (sz : Nat) (a b d : Nat) (x y : Int32) (ha : w a = some (.inr (3, [.int 0, .null, .int 0]))) : ct_v l y_To_init b_To_init 4 none (rm_ 1 0 0) G w sz [.ref a, .int x, .ref b, .int y] (fun u => u = va_up w a (some (.inr (3, [.int x, .ref b, .int y])))) := by
  refine ct_enter (by decide +kernel) (Nat.le_of_ble_eq_true rfl) ?_
  intro p_ e_ s m below meth c_ hsz S hr hlocks hname hE hW ls hl
  have S : CallFix p_ m c_ b_To_init 4 s _ lw_good "HyphenRows$ToldWord" := S
  have hx := S.1
  have hb := S.2.1
  have hK := hE.1
  have hl : lv_has ls 4 [(0, .ref a), (1, .int x), (2, .ref b), (3, .int y)] := hl
  refine lv_aload_n hx hb d_To_init_0 rfl (lv_at hl 0 rfl) ?_
  refine W.objInit hx hb S.2.2.2.1 (S.2.2.2.2 _ k_To_1) (S.2.2.2.2 _ ki_Oj_init) (S.2.2.2.2 _ kc_Oj_init) rfl (by rw [S.2.2.1]; exact hl.1) rfl d_To_init_1 (Nat.le_of_ble_eq_true rfl) (Nat.le_of_ble_eq_true rfl) ?_
  refine W.eq (g2 := F0 m 4 ls []) rfl ?_
  refine lv_aload_n hx hb d_To_init_4 rfl (lv_at hl 0 rfl) ?_
  refine lv_iload_n hx hb d_To_init_5 rfl (lv_at hl 1 rfl) ?_
  refine wd_putF S i_To t_To t_To_ok n_To hK hW ha rfl 0 (by decide) k_To_7 rfl rfl hname rfl rfl rfl (Nat.le_of_ble_eq_true rfl) d_To_init_6 (fun H locs w_1 ew_1 hW => ?_)
  have ha : w_1 a = some (.inr (3, [.int x, .null, .int 0])) := wd_here ew_1
  refine lv_aload_n hx hb d_To_init_9 rfl (lv_at hl 0 rfl) ?_
  refine lv_aload_n hx hb d_To_init_10 rfl (lv_at hl 2 rfl) ?_
  refine wd_putF S i_To t_To t_To_ok n_To hK hW ha rfl 1 (by decide) k_To_13 rfl rfl hname rfl rfl rfl (Nat.le_of_ble_eq_true rfl) d_To_init_11 (fun H locs w_2 ew_2 hW => ?_)
  have ha : w_2 a = some (.inr (3, [.int x, .ref b, .int 0])) := wd_here ew_2
  refine lv_aload_n hx hb d_To_init_14 rfl (lv_at hl 0 rfl) ?_
  refine lv_iload_n hx hb d_To_init_15 rfl (lv_at hl 3 rfl) ?_
  refine wd_put S i_To t_To t_To_ok n_To hK hW ha rfl 2 (by decide) k_To_17 rfl rfl rfl rfl (Nat.le_of_ble_eq_true rfl) d_To_init_16 (fun H locs w_3 ew_3 hW => ?_)
  have ha : w_3 a = some (.inr (3, [.int x, .ref b, .int y])) := wd_here ew_3
  exact ct_vret S hr hlocks hW (by rw [ew_3, ew_2, ew_1, bx_uu, bx_uu] <;> rfl) (Nat.le_refl _) (Nat.le_refl _) d_To_init_19

set_option maxHeartbeats 4000000 in
set_option maxRecDepth 100000 in
/-- Language() -/
theorem c_La_init (l : Launch) (G : ev_G) (w : wd_M) (sz : Nat) (a : Nat) (ha : w a = some (.inr (1, [.null, .null, .int 0, .int 0, .int 0]))) : ct_v l y_La_init b_La_init 1 none (rm_ 1 2 512) G w sz [.ref a] (fun u => ∃ b z : Nat, w b = none ∧ w z = none ∧ b ≠ z ∧ u b = some (.inl (G.2.1 0, 256, .inl (fun _ => 0))) ∧ u z = some (.inl (G.2.1 1, 256, .inl (fun _ => 0))) ∧ u a = some (.inr (1, [.ref b, .ref z, .int 2, .int 3, .int 0])) ∧ ∀ x, x ≠ a → x ≠ b → x ≠ z → u x = w x) := by
  refine ct_enter (by decide +kernel) (Nat.le_of_ble_eq_true rfl) ?_
  intro p_ e_ s m below meth c_ hsz S hr hlocks hname hE hW ls hl
  have S : CallFix p_ m c_ b_La_init 1 s _ lw_good "HyphenRows$Language" := S
  have hx := S.1
  have hb := S.2.1
  have hK := hE.1
  have hl : lv_has ls 1 [(0, .ref a)] := hl
  have ha0 := ha
  refine lv_aload_n hx hb d_La_init_0 rfl (lv_at hl 0 rfl) ?_
  refine W.objInit hx hb S.2.2.2.1 (S.2.2.2.2 _ k_La_3) (S.2.2.2.2 _ ki_Oj_init) (S.2.2.2.2 _ kc_Oj_init) rfl (by rw [S.2.2.1]; exact hl.1) rfl d_La_init_1 (Nat.le_of_ble_eq_true rfl) (Nat.le_of_ble_eq_true rfl) ?_
  refine W.eq (g2 := F0 m 4 ls []) rfl ?_
  refine lv_aload_n hx hb d_La_init_4 rfl (lv_at hl 0 rfl) ?_
  refine lv_sipush (v := 256) hx hb d_La_init_5 (by decide) ?_
  refine wd_newa S (atype := .int) ka_int rfl hK hW 0 rfl (n := 256) (N' := 256) (a0 := (256, .inl (fun _ => 0))) (fun _ => rfl) (by decide) (by decide) (by decide) (Nat.le_of_ble_eq_true rfl) (Nat.le_of_ble_eq_true rfl) d_La_init_8 (fun bb H hbb w_1 ew_1 hW => ?_)
  have ha := wd_keep ew_1 (wd_neN ha hbb) ha
  have cbb : w_1 bb = some (.inl (G.2.1 0, 256, .inl (fun _ => 0))) := wd_here ew_1
  refine wd_putF S i_La t_La t_La_ok n_La hK hW ha rfl 0 (by decide) k_La_9 rfl rfl hname rfl rfl rfl (Nat.le_of_ble_eq_true rfl) d_La_init_10 (fun H locs w_2 ew_2 hW => ?_)
  have cbb := wd_keep ew_2 (wd_ne cbb ha (by simp)) cbb
  have ha : w_2 a = some (.inr (1, [.ref bb, .null, .int 0, .int 0, .int 0])) := wd_here ew_2
  refine lv_aload_n hx hb d_La_init_13 rfl (lv_at hl 0 rfl) ?_
  refine lv_sipush (v := 256) hx hb d_La_init_14 (by decide) ?_
  have cb0 := cbb
  have ha1 := ha
  refine wd_newa S (atype := .boolean) ka_boolean rfl hK hW 1 rfl (n := 256) (N' := 256) (a0 := (256, .inl (fun _ => 0))) (fun _ => rfl) (by decide) (by decide) (by decide) (Nat.le_of_ble_eq_true rfl) (Nat.le_of_ble_eq_true rfl) d_La_init_17 (fun zz H hzz w_3 ew_3 hW => ?_)
  have ha := wd_keep ew_3 (wd_neN ha hzz) ha
  have cbb := wd_keep ew_3 (wd_neN cbb hzz) cbb
  have czz : w_3 zz = some (.inl (G.2.1 1, 256, .inl (fun _ => 0))) := wd_here ew_3
  have hzb : bb ≠ zz := wd_neN cb0 hzz
  have hza : a ≠ zz := wd_neN ha1 hzz
  have hz0 : w zz = none := by have h1 := hzz; rw [ew_2, va_up_ne _ _ hza.symm, ew_1, va_up_ne _ _ hzb.symm] at h1; exact h1
  refine wd_putF S i_La t_La t_La_ok n_La hK hW ha rfl 1 (by decide) k_La_15 rfl rfl hname rfl rfl rfl (Nat.le_of_ble_eq_true rfl) d_La_init_19 (fun H locs w_4 ew_4 hW => ?_)
  have cbb := wd_keep ew_4 (wd_ne cbb ha (by simp)) cbb
  have czz := wd_keep ew_4 (wd_ne czz ha (by simp)) czz
  have ha : w_4 a = some (.inr (1, [.ref bb, .ref zz, .int 0, .int 0, .int 0])) := wd_here ew_4
  refine lv_aload_n hx hb d_La_init_22 rfl (lv_at hl 0 rfl) ?_
  refine lv_iconst (v := 2) hx hb d_La_init_23 (by decide) ?_
  refine wd_put S i_La t_La t_La_ok n_La hK hW ha rfl 2 (by decide) k_La_19 rfl rfl rfl rfl (Nat.le_of_ble_eq_true rfl) d_La_init_24 (fun H locs w_5 ew_5 hW => ?_)
  have cbb := wd_keep ew_5 (wd_ne cbb ha (by simp)) cbb
  have czz := wd_keep ew_5 (wd_ne czz ha (by simp)) czz
  have ha : w_5 a = some (.inr (1, [.ref bb, .ref zz, .int 2, .int 0, .int 0])) := wd_here ew_5
  refine lv_aload_n hx hb d_La_init_27 rfl (lv_at hl 0 rfl) ?_
  refine lv_iconst (v := 3) hx hb d_La_init_28 (by decide) ?_
  refine wd_put S i_La t_La t_La_ok n_La hK hW ha rfl 3 (by decide) k_La_23 rfl rfl rfl rfl (Nat.le_of_ble_eq_true rfl) d_La_init_29 (fun H locs w_6 ew_6 hW => ?_)
  have cbb := wd_keep ew_6 (wd_ne cbb ha (by simp)) cbb
  have czz := wd_keep ew_6 (wd_ne czz ha (by simp)) czz
  have ha : w_6 a = some (.inr (1, [.ref bb, .ref zz, .int 2, .int 3, .int 0])) := wd_here ew_6
  refine lv_aload_n hx hb d_La_init_32 rfl (lv_at hl 0 rfl) ?_
  refine lv_iconst (v := 0) hx hb d_La_init_33 (by decide) ?_
  refine wd_put S i_La t_La t_La_ok n_La hK hW ha rfl 4 (by decide) k_La_26 rfl rfl rfl rfl (Nat.le_of_ble_eq_true rfl) d_La_init_34 (fun H locs w_7 ew_7 hW => ?_)
  have cbb := wd_keep ew_7 (wd_ne cbb ha (by simp)) cbb
  have czz := wd_keep ew_7 (wd_ne czz ha (by simp)) czz
  have ha : w_7 a = some (.inr (1, [.ref bb, .ref zz, .int 2, .int 3, .int 0])) := wd_here ew_7
  exact ct_vret S hr hlocks hW (⟨bb, zz, hbb, hz0, hzb, cbb, czz, ha, fun x h1 h2 h3 => by rw [ew_7, ew_6, ew_5, ew_4, ew_3, ew_2, ew_1, va_up_ne _ _ h1, va_up_ne _ _ h1, va_up_ne _ _ h1, va_up_ne _ _ h1, va_up_ne _ _ h3, va_up_ne _ _ h1, va_up_ne _ _ h2]⟩) (Nat.le_refl _) (Nat.le_refl _) d_La_init_37

theorem tg_e {tg : Nat → Nat} {w : wd_M} {y e t : Nat} (_ : w y ≠ none) (h : y = e → tg e = t) : va_up tg e t y = tg y := by
  by_cases h9 : y = e
  · rw [h9, va_up_self]
    exact (h h9).symm
  · rw [va_up_ne _ _ h9]
theorem tg_E {u : wd_M} {tg : Nat → Nat} {E : Nat → Nat} {i j e : Nat} (hi : i < 3) (hn : u (if i = j then e else E i) ≠ none) (te : tg e = 11 + j) (kE : ∀ i, i < 3 → i ≠ j → u (E i) ≠ none → tg (E i) = 11 + i) : tg (if i = j then e else E i) = 11 + i := by
  by_cases h : i = j
  · rw [if_pos h, te, h]
  · rw [if_neg h] at hn ⊢
    exact kE i hi h hn

set_option maxHeartbeats 4000000 in
set_option maxRecDepth 100000 in
/-- language -/
theorem c_HR_language (l : Launch) (G : ev_G) (w : wd_M) (sz : Nat) (tg : Nat → Nat) (r : Nat) (Ls : List hy_L) (Ps : List hy_P) (Ts : List hy_T) (ml md wd : List Int32) (pl : List Nat) (h : hr_ G w tg r Ls Ps Ts ml md wd pl) (hwf : hy_wf Ls Ps Ts ml md wd pl) : ct_i l y_HR_language b_HR_language 1 (some FieldType.int) (rm_ 7 4 900) G w sz [.ref r] (hq_ G w tg r (sp_language (Ls, Ps, Ts, ml, md, wd, pl))) := by
  refine ct_enter (by decide +kernel) (Nat.le_of_ble_eq_true rfl) ?_
  intro p_ e_ s m below meth c_ hsz S hr hlocks hname hE hW ls hl
  have S : CallFix p_ m c_ b_HR_language 1 s _ lw_good "HyphenRows" := S
  have hx := S.1
  have hb := S.2.1
  have hK := hE.1
  have hl : lv_has ls 1 [(0, .ref r)] := hl
  obtain ⟨B, E, F, la, pa, ta, hc, hg, hal, hla, hpa, hta, hml, hmd, hwd, hpl⟩ := id h
  have hs : hs_ G w tg B E la pa ta Ls Ps Ts := ⟨hal, hla, hpa, hta⟩
  obtain ⟨hr0, a3, a4, a5, a6, a7, a8⟩ := id hc
  obtain ⟨wL, wP, wT, wm, wml, wwd, wpl, wtot, wmx, wdx, wws, wplx, wlg, wps, wts⟩ := id hwf
  have hB3 : ∀ i, i < 3 → tg (B i) = 2 + i := fun i hi => hg.2 i (by omega)
  have hkp : kp_ w w tg (fun t => 500 ≤ t ∧ t < 600) := kp_rf
  obtain ⟨mo0, haL, he0⟩ := id hal.1
  refine lv_aload_n hx hb d_HR_language_0 rfl (lv_at hl 0 rfl) ?_
  refine wd_get S i_HR hK hW hr0 rfl 0 (by decide) k_HR_10 rfl rfl d_HR_language_1 ?_
  refine ct_goi hW (ct_runV (As := []) (rest := []) (q := (R_AL, F_AL, 3)) S hE hW (c_AL_size l G _ _ (B 0) (E 0) (nI la.length) mo0 haL) haL rfl kc_AL_size kz_AL k_HR_54 ki_AL_size kv_AL_size kd_AL_size ⟨Nat.le_of_ble_eq_true rfl, Nat.le_of_ble_eq_true rfl⟩ hl.1 (Nat.le_of_ble_eq_true rfl) d_HR_language_4 ⟨Nat.le_of_ble_eq_true rfl, Nat.le_of_ble_eq_true rfl⟩) (fun v_3 u_1 H locs hp_2 hW => ?_)
  obtain ⟨hv, hu_4⟩ := hp_2
  rw [hu_4] at hW
  rw [hv]
  refine lv_iconst (v := 4) hx hb d_HR_language_7 (by decide) ?_
  refine lv_icmp_lt (tgt := 14) hx hb d_HR_language_8 (by decide) (fun h8 => ?_) (fun h8 => ?_)
  · have hlt : Ls.length < 4 := by have h9 := (nI_ltI (a := la.length) (b := 4) (by rw [hla.1]; omega) (by omega)).mp h8; rw [hla.1] at h9; exact h9
    refine lv_aload_n hx hb d_HR_language_14 rfl (lv_at hl 0 rfl) ?_
    refine wd_get S i_HR hK hW hr0 rfl 0 (by decide) k_HR_10 rfl rfl d_HR_language_15 ?_
    refine wd_new S i_La t_La t_La_ok k_HR_58 kt_La kz_La hK hW (ci := 1) rfl (fs := [.null, .null, .int 0, .int 0, .int 0]) (fun j hj => by rcases (show j = 0 ∨ j = 1 ∨ j = 2 ∨ j = 3 ∨ j = 4 by omega) with rfl | rfl | rfl | rfl | rfl <;> rfl) (Nat.le_of_ble_eq_true rfl) (Nat.le_of_ble_eq_true rfl) d_HR_language_18 (fun q H hq w_5 ew_5 hW => ?_)
    have cq : w_5 q = some (.inr (1, [.null, .null, .int 0, .int 0, .int 0])) := wd_here ew_5
    refine lv_dup hx hb d_HR_language_21 rfl ?_
    refine ct_gov hW (ct_runIN (As := []) (rest := [.ref q, .ref (B 0)]) S hE hW (c_La_init l G _ _ q cq) kc_La_init kz_La hE.2.1.1 ki_La_init rfl kd_La_init ⟨Nat.le_of_ble_eq_true rfl, Nat.le_of_ble_eq_true rfl⟩ hl.1 (Nat.le_of_ble_eq_true rfl) d_HR_language_22 ⟨Nat.le_of_ble_eq_true rfl, Nat.le_of_ble_eq_true rfl⟩) (fun u_6 H locs hp_7 hW => ?_)
    obtain ⟨b, z, hb0, hz0, hbz, cb, cz, cq, hku⟩ := hp_7
    have hqb : q ≠ b := fun y => by rw [← y, ew_5, va_up_self] at hb0; cases hb0
    have hqz : q ≠ z := fun y => by rw [← y, ew_5, va_up_self] at hz0; cases hz0
    rw [ew_5, va_up_ne _ _ hqb.symm] at hb0
    rw [ew_5, va_up_ne _ _ hqz.symm] at hz0
    have hk1 : ∀ y, w y ≠ none → u_6 y = w y := fun y hy => by rw [hku y (fun h => hy (by rw [h]; exact hq)) (fun h => hy (by rw [h]; exact hb0)) (fun h => hy (by rw [h]; exact hz0)), ew_5, va_up_ne _ _ (fun h => hy (by rw [h]; exact hq))]
    have hal0 : al_ G u_6 (B 0) (E 0) la := al_keep hal.1 (hk1 _ (wd_some haL)) (fun h => hk1 _ h)
    have hob : ∀ y ∈ la, ob_ u_6 y := fun y hy => by obtain ⟨ci, fs, g1, g2⟩ := la_obs hla y hy; exact ⟨ci, fs, (hk1 _ (wd_some g1)).trans g1, g2⟩
    have haL : u_6 (B 0) = some (.inr (4, [.ref (E 0), .int (nI la.length), .int mo0])) := (hk1 _ (wd_some haL)).trans haL
    refine ct_goi hW (ct_runV (As := [.ref q]) (rest := []) (q := (R_AL, F_AL, 3)) S hE hW (c_AL_add1 l G _ _ (B 0) (E 0) q la hal0 (by rw [hla.1]; omega) hob ⟨1, _, cq, Or.inl rfl⟩) haL rfl kc_AL_add1 kz_AL k_HR_61 ki_AL_add1 kv_AL_add1 kd_AL_add1 ⟨Nat.le_of_ble_eq_true rfl, Nat.le_of_ble_eq_true rfl⟩ hl.1 (Nat.le_of_ble_eq_true rfl) d_HR_language_25 ⟨Nat.le_of_ble_eq_true rfl, Nat.le_of_ble_eq_true rfl⟩) (fun v_11 u_9 H locs hp_10 hW => ?_)
    obtain ⟨hv1, e2, he2, hal2, hne2, hk2⟩ := hp_10
    have heq : w e2 ≠ none → e2 = E 0 := fun h => he2.elim id (fun h2 => absurd ((hk1 e2 h).symm.trans h2).symm (Ne.symm h))
    have hk : ∀ y, w y ≠ none → tg y ≠ 2 + 0 → tg y ≠ 11 + 0 → u_9 y = w y := fun y hy h1 h2 => by rw [hk2 y (fun h => h1 (by rw [h]; exact hg.2 0 (by omega))) (fun h => h2 (by rw [h, heq (by rw [← h]; exact hy)]; exact hal.2.2.2 0 (by omega) (by rw [← heq (by rw [← h]; exact hy), ← h]; exact hy))), hk1 y hy]
    have hE0 : E 0 = G.2.2 0 ∨ w (E 0) ≠ none := hal.1.choose_spec.2.elim (fun h => Or.inl h.1) (fun h => by obtain ⟨cap, f, h1, -⟩ := h; exact Or.inr (wd_some h1))
    have hz9 := wd_z0 hE hW
    have nn : ∀ y, w y = none → u_6 y ≠ none → y ≠ e2 := fun y h1 h2 h3 => he2.elim (fun h => hE0.elim (fun k => hne2 (by rw [h, k]; exact hz9)) (fun k => k (by rw [← h, ← h3]; exact h1))) (fun h => h2 (by rw [h3]; exact h))
    have nq := nn q hq (wd_some cq)
    have nb := nn b hb0 (wd_some cb)
    have nz := nn z hz0 (wd_some cz)
    obtain ⟨tg2, htg⟩ : ∃ f : Nat → Nat, f = va_up (va_up (va_up (va_up tg e2 11) q (1000 + 3 * Ls.length)) b (1001 + 3 * Ls.length)) z (1002 + 3 * Ls.length) := ⟨_, rfl⟩
    have hx2 : ex_ w tg tg2 := fun y hy => by rw [htg, va_up_ne _ _ (fun h => hy (by rw [h]; exact hz0)), va_up_ne _ _ (fun h => hy (by rw [h]; exact hb0)), va_up_ne _ _ (fun h => hy (by rw [h]; exact hq))]; exact tg_e hy (fun h9 => by rw [heq (by rw [← h9]; exact hy)]; exact hal.2.2.2 0 (by omega) (by rw [← heq (by rw [← h9]; exact hy), ← h9]; exact hy))
    obtain ⟨hcF, hgF, -, k1, k2, kE, kl, kp, kt⟩ := hs_gr 0 hs hc hg wL wP (by omega) hk hx2 hz9
    have te : tg2 e2 = 11 := by rw [htg, va_up_ne _ _ (Ne.symm nz), va_up_ne _ _ (Ne.symm nb), va_up_ne _ _ (Ne.symm nq), va_up_self]
    have tq : tg2 q = 1000 + 3 * Ls.length := by rw [htg, va_up_ne _ _ hqz, va_up_ne _ _ hqb, va_up_self]
    have tb : tg2 b = 1001 + 3 * Ls.length := by rw [htg, va_up_ne _ _ hbz, va_up_self]
    have tz : tg2 z = 1002 + 3 * Ls.length := by rw [htg, va_up_self]
    have nB : ∀ y, w y = none → y ≠ B 0 := fun y h1 h2 => by rw [h2] at h1; obtain ⟨mo, h9, -⟩ := hal.1; rw [h9] at h1; cases h1
    have hla2 := la_push (lg := ((fun _ => 0), (fun _ => 0), 2, 3, 0)) kl ⟨(hk2 q (nB q hq) nq).trans cq, (hk2 b (nB b hb0) nb).trans cb, (hk2 z (nB z hz0) nz).trans cz⟩ tq tb tz
    have haL := hal2.choose_spec.1
    have hr0 := hcF.1
    refine lv_pop hx hb d_HR_language_28 rfl ?_
    refine lv_aload_n hx hb d_HR_language_29 rfl (lv_at hl 0 rfl) ?_
    refine wd_get S i_HR hK hW hr0 rfl 0 (by decide) k_HR_10 rfl rfl d_HR_language_30 ?_
    refine ct_goi hW (ct_runV (As := []) (rest := []) (q := (R_AL, F_AL, 3)) S hE hW (c_AL_size l G _ _ (B 0) e2 (nI (la ++ [q]).length) _ haL) haL rfl kc_AL_size kz_AL k_HR_54 ki_AL_size kv_AL_size kd_AL_size ⟨Nat.le_of_ble_eq_true rfl, Nat.le_of_ble_eq_true rfl⟩ hl.1 (Nat.le_of_ble_eq_true rfl) d_HR_language_33 ⟨Nat.le_of_ble_eq_true rfl, Nat.le_of_ble_eq_true rfl⟩) (fun v_14 u_12 H locs hp_13 hW => ?_)
    obtain ⟨hv3, hu_15⟩ := hp_13
    rw [hu_15] at hW
    rw [hv3, List.length_append, show nI (la.length + [q].length) = nI (la.length + 1) from rfl]
    refine lv_iconst (v := 1) hx hb d_HR_language_36 (by decide) ?_
    refine lv_isub hx hb d_HR_language_37 ?_
    rw [nI_pred, hla.1]
    exact ct_iret S hr rfl hlocks hW (⟨_, tg2, Or.inr ⟨hlt, rfl, rfl⟩, ⟨B, fun k => if k = 0 then e2 else E k, F, la ++ [q], pa, ta, hcF, hgF, ⟨hal2, k1 (by omega), k2 (by omega), fun i hi hn => tg_E hi hn te kE⟩, hla2, kp, kt, hml, hmd, hwd, hpl⟩, hx2, fun y hy hq9 => hk y hy (by have hq9 : 500 ≤ tg y ∧ tg y < 600 := hq9; omega) (by have hq9 : 500 ≤ tg y ∧ tg y < 600 := hq9; omega)⟩) (Nat.le_of_ble_eq_true rfl) (Nat.le_of_ble_eq_true rfl) d_HR_language_38
  · refine lv_bipush (v := -2) hx hb d_HR_language_11 (by decide) ?_
    exact ct_iret S hr rfl hlocks hW (⟨_, tg, Or.inl ⟨fun q => h8 (by rw [hla.1]; exact nI_lt (b := 4) q (by omega)), rfl, rfl⟩, h, ex_rf, kp_rf⟩) (Nat.le_of_ble_eq_true rfl) (Nat.le_of_ble_eq_true rfl) d_HR_language_13
