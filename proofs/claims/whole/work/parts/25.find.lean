/-! THE CLASS: findRowDigits. -/

theorem up_kp {w w1 : wd_M} {a : Nat} {x : Option va_E} {tg : Nat → Nat} {P : Nat → Prop} (h : w1 = va_up w a x) (hn : ¬ P (tg a)) : kp_ w w1 tg P := fun y _ hp => by
  rw [h, va_up_ne _ _ (fun q => hn (by rw [← q]; exact hp))]
theorem al_upI {G : ev_G} {w w1 : wd_M} {a e b n : Nat} {els : List Nat} {c : ClassId} {f : Nat → Int32} {x : Option va_E} (h : al_ G w a e els) (hb : w b = some (.inl (c, n, .inl f))) (e1 : w1 = va_up w b x) : al_ G w1 a e els := by
  obtain ⟨mo, h1, h2⟩ := h
  refine ⟨mo, wd_keep e1 (wd_ne h1 hb (by simp)) h1, ?_⟩
  rcases h2 with h2 | ⟨cap, g, g1, g2⟩
  · exact Or.inl h2
  · exact Or.inr ⟨cap, g, wd_keep e1 (wd_ne g1 hb (by simp)) g1, g2⟩
/-- the class's own cells behind a write of its row's digits -/
theorem hc_7 {G : ev_G} {w w1 : wd_M} {r : Nat} {B : Nat → Nat} {F : Nat → Nat → Int32} {tot mn wn pn : Int32} {g : Nat → Int32} (hc : hr_c G w r B F tot mn wn pn) (ew : w1 = va_up w (B 7) (some (.inl (G.2.1 0, 33, .inl g)))) : hr_c G w1 r B (fun k => if k = 7 then g else F k) tot mn wn pn := by
  obtain ⟨hr0, a3, a4, a5, a6, a7, a8⟩ := hc
  exact ⟨wd_keep ew (wd_ne hr0 a7 (by simp)) hr0, wd_keep ew (wd_ne a3 a7 (by simp)) a3, wd_keep ew (wd_ne a4 a7 (by simp)) a4, wd_keep ew (wd_ne a5 a7 (by simp)) a5, wd_keep ew (wd_ne a6 a7 (by simp)) a6, wd_here ew, wd_keep ew (wd_ne a8 a7 (by simp)) a8⟩
theorem hc_6 {G : ev_G} {w w1 : wd_M} {r : Nat} {B : Nat → Nat} {F : Nat → Nat → Int32} {tot mn wn pn : Int32} {g : Nat → Int32} (hc : hr_c G w r B F tot mn wn pn) (ew : w1 = va_up w (B 6) (some (.inl (G.2.1 0, 32, .inl g)))) : hr_c G w1 r B (fun k => if k = 6 then g else F k) tot mn wn pn := by
  obtain ⟨hr0, a3, a4, a5, a6, a7, a8⟩ := hc
  exact ⟨wd_keep ew (wd_ne hr0 a6 (by simp)) hr0, wd_keep ew (wd_ne a3 a6 (by simp)) a3, wd_keep ew (wd_ne a4 a6 (by simp)) a4, wd_keep ew (wd_ne a5 a6 (by simp)) a5, wd_here ew, wd_keep ew (wd_ne a7 a6 (by simp)) a7, wd_keep ew (wd_ne a8 a6 (by simp)) a8⟩
theorem isD_0 {lang : Nat} {row : List Int32} {j : Nat} {d : Int32} {P : List hy_P} (h : d = 0) : hy_isD (P.take 0) lang row j d := ⟨Or.inl h, by rw [h]; exact Int32.le_refl _, fun d2 q => by obtain ⟨k, p, h1, -⟩ := q; simp at h1⟩
theorem cov_take {P : List hy_P} {lang n : Nat} {row : List Int32} {j : Nat} {d : Int32} : hy_cov (P.take n) lang row j d ↔ ∃ (k : Nat) (p : hy_P), k < n ∧ P[k]? = some p ∧ p.1 = lang ∧ ∃ st : Nat, hy_at p.2.1 row st ∧ st ≤ j ∧ j ≤ st + p.2.1.length ∧ p.2.2.getD (j - st) 0 = d := by
  constructor
  · rintro ⟨k, p, h1, h2⟩
    have hk : k < n := by
      have h9 := (List.getElem?_eq_some_iff.mp h1).1
      rw [List.length_take] at h9
      omega
    rw [List.getElem?_take_of_lt hk] at h1
    exact ⟨k, p, hk, h1, h2⟩
  · rintro ⟨k, p, hk, h1, h2⟩
    exact ⟨k, p, by rw [List.getElem?_take_of_lt hk]; exact h1, h2⟩
theorem isD_no {P : List hy_P} {lang i : Nat} {row : List Int32} {j : Nat} {d : Int32} {p : hy_P} (h : hy_isD (P.take i) lang row j d) (hp : P[i]? = some p) (hn : ¬ p.1 = lang) : hy_isD (P.take (i + 1)) lang row j d := by
  refine ⟨h.1.imp id (fun q => ?_), h.2.1, fun d2 q => h.2.2 d2 ?_⟩
  · obtain ⟨k, p2, hk, q2⟩ := cov_take.mp q
    exact cov_take.mpr ⟨k, p2, by omega, q2⟩
  · obtain ⟨k, p2, hk, h1, h2, h3⟩ := cov_take.mp q
    by_cases hki : k = i
    · subst hki
      rw [hp] at h1
      cases h1
      exact absurd h2 hn
    · exact cov_take.mpr ⟨k, p2, by omega, h1, h2, h3⟩
theorem isD_yes {P : List hy_P} {lang i n : Nat} {row : List Int32} {j : Nat} {f g : Nat → Int32} {p : hy_P} (h : hy_isD (P.take i) lang row j (f j)) (hp : P[i]? = some p) (hl : p.1 = lang) (hy : ly_ f g p.2.1 p.2.2 row n) (hn : row.length < n) : hy_isD (P.take (i + 1)) lang row j (g j) := by
  obtain ⟨h1, h2, h3⟩ := hy j
  refine ⟨?_, Int32.le_trans h.2.1 h1, fun d2 q => ?_⟩
  · rcases h2 with e1 | ⟨st, q1, q2, q3, q4, q5⟩
    · rw [e1]
      refine h.1.imp id (fun q => ?_)
      obtain ⟨k, p2, hk, q2⟩ := cov_take.mp q
      exact cov_take.mpr ⟨k, p2, by omega, q2⟩
    · exact Or.inr (cov_take.mpr ⟨i, p, by omega, hp, hl, st, q2, q3, q4, q5⟩)
  · obtain ⟨k, p2, hk, h4, h5, st, h6, h7, h8, h9⟩ := cov_take.mp q
    by_cases hki : k = i
    · subst hki
      rw [hp] at h4
      cases h4
      rw [← h9]
      exact h3 st (by have := h6.1; omega) h6 h7 h8
    · exact Int32.le_trans (h.2.2 d2 (cov_take.mpr ⟨k, p2, by omega, h4, h5, st, h6, h7, h8, h9⟩)) h1
theorem isD_all {P : List hy_P} {lang n : Nat} {row : List Int32} {j : Nat} {d : Int32} (h : hy_isD (P.take n) lang row j d) (hn : P.length ≤ n) : hy_isD P lang row j d := by
  rw [List.take_of_length_le hn] at h
  exact h
theorem row_tail {lt : List Int32} {f : Nat → Int32} (h : li_ (hy_row lt) f) : li_ lt (fun j => f (j + 1)) := by
  intro i x hx
  refine h (i + 1) x ?_
  show (lt ++ [0])[i]? = some x
  rw [List.getElem?_append_left (List.getElem?_eq_some_iff.mp hx).1]
  exact hx
theorem row_len (lt : List Int32) : (hy_row lt).length = lt.length + 2 := by simp [hy_row]

set_option maxHeartbeats 4000000 in
set_option maxRecDepth 100000 in
/-- the loop of findRowDigits -/
theorem lo_HR_findRowDigits {p_ : Program} {l : Launch} {e_ : Env} {s : State} {m : MethodId} {args : Array Value} {below : List Frame} {meth : Method} {c_ : Code} {Q : State → Prop} {G : ev_G} {A : Nat → Prop} (S : CallFix p_ m c_ b_HR_findRowDigits 5 s args lw_good "HyphenRows") (hE : ev_K G A s s.heap) {w : wd_M} {r lx : Nat} {B E : Nat → Nat} {F : Nat → Nat → Int32} {tot mn pn : Int32} {tg : Nat → Nat} {pa : List Nat} {Ps : List hy_P} {lt : List Int32} (hc : hr_c G w r B F tot mn (nI lt.length) pn) (hg : hr_g tg r B) (halP : al_ G w (B 1) (E 1) pa) (hpa : pa_ G w tg pa Ps) (hwp : (∀ p ∈ Ps, p.1 < 4 ∧ p.2.2.length = p.2.1.length + 1 ∧ 1 ≤ p.2.1.length ∧ p.2.1.length ≤ 12 ∧ ∀ x ∈ p.2.2, 0 ≤ x)) (hPs : Ps.length ≤ 150) (hrl : li_ (hy_row lt) (F 6)) (hlt30 : lt.length ≤ 30) (hlx : lx < 4) (kk : ∀ (g : Nat → Int32) (w1 : wd_M) (H : Heap) (locs : List Loc), (∀ j, j < 33 → hy_isD Ps lx (hy_row lt) j (g j)) → w1 = va_up w (B 7) (some (.inl (G.2.1 0, 33, .inl g))) → wd_W G.1 ev_cl A w1 s.heap H locs → ∀ ls : Array Slot, lv_has ls 5 [(0, .ref r)] → W p_ l e_ (rm_ 4 0 0) s m args below meth c_ H locs 0 0 Q (F0 m 85 ls [])) :
    ∀ (fu : Nat) (i : Nat) (xi : Int32) (g : Nat → Int32) (w1 : wd_M) (H : Heap) (locs : List Loc) (ls : Array Slot), pa.length < i + fu → i ≤ pa.length → xi = nI i → (∀ j, j < 33 → hy_isD (Ps.take i) lx (hy_row lt) j (g j)) → w1 = va_up w (B 7) (some (.inl (G.2.1 0, 33, .inl g))) → wd_W G.1 ev_cl A w1 s.heap H locs → lv_has ls 5 [(0, .ref r), (1, .int (nI lx)), (3, .int xi)] → W p_ l e_ (rm_ 4 0 0) s m args below meth c_ H locs 0 0 Q (F0 m 40 ls []) := by
  have hx := S.1
  have hb := S.2.1
  have hK := hE.1
  intro fu
  induction fu with
  | zero =>
    intro i xi g w1 H locs ls hfu hi exi hinv ew hW hl
    exact absurd hfu (by omega)
  | succ fu ih =>
    intro i xi g w1 H locs ls hfu hi exi hinv ew hW hl
    have hc0 := hc
    obtain ⟨hr0, a3, a4, a5, a6, a7, a8⟩ := id hc
    have a0 := a7
    have halP := al_upI halP a0 ew
    have hpa := pa_keep (tg2 := tg) hpa (up_kp ew (by rw [hg.2 7 (by omega)]; show ¬ (_ ∧ _); omega)) (fun _ _ => rfl) hPs
    obtain ⟨mo1, haP, he1⟩ := id halP
    have hpl := hpa.1
    have hr0 := wd_keep ew (wd_ne hr0 a0 (by simp)) hr0
    refine lv_iload_n hx hb d_HR_findRowDigits_40 rfl (lv_at hl 2 rfl) ?_
    refine lv_aload_n hx hb d_HR_findRowDigits_41 rfl (lv_at hl 0 rfl) ?_
    refine wd_get S i_HR hK hW hr0 rfl 1 (by decide) k_HR_16 rfl rfl d_HR_findRowDigits_42 ?_
    refine ct_goi hW (ct_runV (As := []) (rest := [.int xi]) (q := (R_AL, F_AL, 3)) S hE hW (c_AL_size l G _ _ (B 1) (E 1) (nI pa.length) mo1 haP) haP rfl kc_AL_size kz_AL k_HR_54 ki_AL_size kv_AL_size kd_AL_size ⟨Nat.le_of_ble_eq_true rfl, Nat.le_of_ble_eq_true rfl⟩ hl.1 (Nat.le_of_ble_eq_true rfl) d_HR_findRowDigits_45 ⟨Nat.le_of_ble_eq_true rfl, Nat.le_of_ble_eq_true rfl⟩) (fun v_3 u_1 H locs hp_2 hW => ?_)
    obtain ⟨hv, hu_4⟩ := hp_2
    rw [hu_4] at hW
    rw [hv]
    refine lv_icmp_ge (tgt := 85) hx hb d_HR_findRowDigits_48 (by decide) (fun h48 => ?_) (fun h48 => ?_)
    · exact kk g w1 _ _ (fun j hj => isD_all (hinv j hj) (by rw [exi] at h48; have := (nI_leI (by omega) (by omega)).mp h48; omega)) ew hW ls (lv_sub hl [0] rfl)
    · have hlt : i < pa.length := by rw [exi] at h48; exact Nat.lt_of_not_le (fun q => h48 (nI_le q (by omega)))
      obtain ⟨p, hpi⟩ : ∃ p, Ps[i]? = some p := ⟨_, List.getElem?_eq_getElem (by omega)⟩
      have hpm := hwp p (List.mem_of_getElem? hpi)
      obtain ⟨a, b, d, f, g2, e1, hp1, -⟩ := hpa.2 i p hpi
      obtain ⟨p1, p2, p3, p4, p5⟩ := id hp1
      refine lv_aload_n hx hb d_HR_findRowDigits_51 rfl (lv_at hl 0 rfl) ?_
      refine wd_get S i_HR hK hW hr0 rfl 1 (by decide) k_HR_16 rfl rfl d_HR_findRowDigits_52 ?_
      refine lv_iload_n hx hb d_HR_findRowDigits_55 rfl (lv_at hl 2 rfl) ?_
      rw [exi]
      refine ct_goq hW (ct_runV (As := [.int (nI i)]) (rest := []) (q := (R_AL, F_AL, 3)) S hE hW (c_AL_get l G _ _ (B 1) (E 1) pa i halP hlt) haP rfl kc_AL_get kz_AL k_HR_75 ki_AL_get kv_AL_get kd_AL_get ⟨Nat.le_of_ble_eq_true rfl, Nat.le_of_ble_eq_true rfl⟩ hl.1 (Nat.le_of_ble_eq_true rfl) d_HR_findRowDigits_56 ⟨Nat.le_of_ble_eq_true rfl, Nat.le_of_ble_eq_true rfl⟩) (fun v_7 u_5 H locs hp_6 hW => ?_)
      obtain ⟨hv2, hu_8⟩ := hp_6
      rw [hu_8] at hW
      rw [hv2, e1]
      refine W.eq (g2 := F0 m 59 ls [.ref a]) rfl ?_
      refine wd_cast S (T := F_Pa) (N := 3) k_HR_109 hK hW p1 rfl d_HR_findRowDigits_59 ?_
      refine lv_astore (lv' := [(4, .ref a), (0, .ref r), (1, .int (nI lx)), (3, .int xi)]) hx hb d_HR_findRowDigits_62 hl (by decide) rfl (fun ls hl => ?_)
      refine lv_aload hx hb d_HR_findRowDigits_64 (lv_at hl 0 rfl) ?_
      refine wd_get S i_Pa hK hW p1 rfl 0 (by decide) k_HR_155 rfl rfl d_HR_findRowDigits_66 ?_
      refine lv_iload_n hx hb d_HR_findRowDigits_69 rfl (lv_at hl 2 rfl) ?_
      refine lv_icmp_ne (tgt := 79) hx hb d_HR_findRowDigits_70 (by decide) (fun h70 => ?_) (fun h70 => ?_)
      · obtain ⟨xi2, exi2⟩ : ∃ y : Int32, y = xi + 1 := ⟨_, rfl⟩
        refine lv_iinc (v := xi2) (lv' := [(3, .int xi2), (4, .ref a), (0, .ref r), (1, .int (nI lx))]) hx hb d_HR_findRowDigits_79 hl (k := 3) rfl (by rw [exi2]; rfl) (by decide) rfl (fun ls hl => ?_)
        refine lv_goto (tgt := 40) hx hb d_HR_findRowDigits_82 (by decide) ?_
        exact ih (i + 1) xi2 g _ _ _ _ (by omega) hlt (by rw [exi2, exi]; exact nI_1 i) (fun j hj => isD_no (hinv j hj) hpi (fun q => h70 (by rw [q]))) ew hW (lv_sub hl [2, 3, 0] rfl)
      · refine lv_aload_n hx hb d_HR_findRowDigits_73 rfl (lv_at hl 1 rfl) ?_
        refine lv_aload hx hb d_HR_findRowDigits_74 (lv_at hl 0 rfl) ?_
        refine ct_gov hW (ct_runV (As := [.ref a]) (rest := []) (q := (R_HR, F_HR, 13)) S hE hW (c_HR_layOverRow l G _ _ r a b d lt.length B (fun k => if k = 7 then g else F k) f g2 p (hy_row lt) tot mn pn (hc_7 hc0 ew) hp1 hrl (row_len lt) hlt30 ⟨hpm.2.2.1, hpm.2.2.2.1⟩ hpm.2.1) hr0 rfl kc_HR_layOverRow kz_HR k_HR_181 ki_HR_layOverRow kv_HR_layOverRow kd_HR_layOverRow ⟨Nat.le_of_ble_eq_true rfl, Nat.le_of_ble_eq_true rfl⟩ hl.1 (Nat.le_of_ble_eq_true rfl) d_HR_findRowDigits_76 ⟨Nat.le_of_ble_eq_true rfl, Nat.le_of_ble_eq_true rfl⟩) (fun u_9 H locs hp_10 hW => ?_)
        obtain ⟨g3, hu, hg3⟩ := hp_10
        rw [if_pos rfl] at hg3
        obtain ⟨xi2, exi2⟩ : ∃ y : Int32, y = xi + 1 := ⟨_, rfl⟩
        refine lv_iinc (v := xi2) (lv' := [(3, .int xi2), (4, .ref a), (0, .ref r), (1, .int (nI lx))]) hx hb d_HR_findRowDigits_79 hl (k := 3) rfl (by rw [exi2]; rfl) (by decide) rfl (fun ls hl => ?_)
        refine lv_goto (tgt := 40) hx hb d_HR_findRowDigits_82 (by decide) ?_
        exact ih (i + 1) xi2 g3 _ _ _ _ (by omega) hlt (by rw [exi2, exi]; exact nI_1 i) (fun j hj => isD_yes (hinv j hj) hpi ((nI_eq (by omega) (by omega)).mp h70) hg3 (by rw [row_len]; omega)) (by rw [hu, ew]; exact bx_uu _ _ _ _) hW (lv_sub hl [2, 3, 0] rfl)

set_option maxHeartbeats 4000000 in
set_option maxRecDepth 100000 in
/-- findRowDigits(lx): the letters lt stand in the row -/
theorem c_HR_findRowDigits (l : Launch) (G : ev_G) (w : wd_M) (sz : Nat) (r lx : Nat) (B E : Nat → Nat) (F : Nat → Nat → Int32) (tot mn pn : Int32) (tg : Nat → Nat) (pa ta : List Nat) (Ps : List hy_P) (Ts : List hy_T) (lt : List Int32) (hc : hr_c G w r B F tot mn (nI lt.length) pn) (hg : hr_g tg r B) (halP : al_ G w (B 1) (E 1) pa) (hpa : pa_ G w tg pa Ps) (hwp : (∀ p ∈ Ps, p.1 < 4 ∧ p.2.2.length = p.2.1.length + 1 ∧ 1 ≤ p.2.1.length ∧ p.2.1.length ≤ 12 ∧ ∀ x ∈ p.2.2, 0 ≤ x)) (hPs : Ps.length ≤ 150) (hrl : li_ (hy_row lt) (F 6)) (hlt30 : lt.length ≤ 30) (hlx : lx < 4)(halT : al_ G w (B 2) (E 2) ta) (hta : ta_ G w tg ta Ts) (hwt : ∀ t ∈ Ts, t.1 < 4 ∧ t.2.1.length ≤ 30) (hTs : Ts.length ≤ 40) : ct_v l y_HR_findRowDigits b_HR_findRowDigits 5 none (rm_ 4 0 0) G w sz [.ref r, .int (nI lx)] (fun u => ∃ g : Nat → Int32, u = va_up w (B 7) (some (.inl (G.2.1 0, 33, .inl g))) ∧ ∀ k, k ≤ lt.length → hy_dig Ps Ts lx lt k (g (k + 1))) := by
  refine ct_enter (by decide +kernel) (Nat.le_of_ble_eq_true rfl) ?_
  intro p_ e_ s m below meth c_ hsz S hr hlocks hname hE hW ls hl
  have S : CallFix p_ m c_ b_HR_findRowDigits 5 s _ lw_good "HyphenRows" := S
  have hx := S.1
  have hb := S.2.1
  have hK := hE.1
  have hl : lv_has ls 5 [(0, .ref r), (1, .int (nI lx))] := hl
  obtain ⟨hr0, a3, a4, a5, a6, a7, a8⟩ := id hc
  refine lv_aload_n hx hb d_HR_findRowDigits_0 rfl (lv_at hl 0 rfl) ?_
  refine wd_get S i_HR hK hW hr0 rfl 10 (by decide) k_HR_45 rfl rfl d_HR_findRowDigits_1 ?_
  refine lv_iconst (v := 0) hx hb d_HR_findRowDigits_4 (by decide) ?_
  refine ct_gov hW (ct_runS (As := [.ref (B 7), .int 0]) (rest := []) S hE hW (c_Ar_fill l G _ _ (B 7) 33 0 (F 7) a7 (by omega)) kc_Ar_fill kz_Ar k_HR_174 ks_Ar_fill kd_Ar_fill ⟨Nat.le_of_ble_eq_true rfl, Nat.le_of_ble_eq_true rfl⟩ hl.1 (Nat.le_of_ble_eq_true rfl) d_HR_findRowDigits_5 ⟨Nat.le_of_ble_eq_true rfl, Nat.le_of_ble_eq_true rfl⟩) (fun u_1 H locs hp_2 hW => ?_)
  obtain ⟨g0, hg0, ew⟩ := hp_2
  have halP1 := al_upI halP a7 ew
  have halT1 := al_upI halT a7 ew
  have h79 : tg (B 7) = 9 := hg.2 7 (by omega)
  have hpa1 := pa_keep (tg2 := tg) hpa (up_kp ew (by rw [h79]; show ¬ (_ ∧ _); omega)) (fun _ _ => rfl) hPs
  have hta1 := ta_keep (tg2 := tg) hta (up_kp ew (by rw [h79]; show ¬ (_ ≤ _); omega)) (fun _ _ => rfl)
  have hc1 := hc_7 hc ew
  have hr0 := hc1.1
  refine lv_aload_n hx hb d_HR_findRowDigits_8 rfl (lv_at hl 0 rfl) ?_
  refine lv_iload_n hx hb d_HR_findRowDigits_9 rfl (lv_at hl 1 rfl) ?_
  refine ct_goi hW (ct_runV (As := [.int (nI lx)]) (rest := []) (q := (R_HR, F_HR, 13)) S hE hW (c_HR_exceptionWithWordsLetters l G _ _ r B E (fun k => if k = 7 then g0 else F k) tot mn pn lx tg ta Ts lt hc1 halT1 hta1 hwt hTs (row_tail hrl) hlt30 hlx) hr0 rfl kc_HR_exceptionWithWordsLetters kz_HR k_HR_127 ki_HR_exceptionWithWordsLetters kv_HR_exceptionWithWordsLetters kd_HR_exceptionWithWordsLetters ⟨Nat.le_of_ble_eq_true rfl, Nat.le_of_ble_eq_true rfl⟩ hl.1 (Nat.le_of_ble_eq_true rfl) d_HR_findRowDigits_10 ⟨Nat.le_of_ble_eq_true rfl, Nat.le_of_ble_eq_true rfl⟩) (fun v_6 u_4 H locs hp_5 hW => ?_)
  obtain ⟨hfm, hu_7⟩ := hp_5
  rw [hu_7] at hW
  refine lv_istore_n (lv' := [(2, .int v_6), (0, .ref r), (1, .int (nI lx))]) hx hb d_HR_findRowDigits_13 rfl hl (by decide) rfl (fun ls hl => ?_)
  refine lv_iload_n hx hb d_HR_findRowDigits_14 rfl (lv_at hl 0 rfl) ?_
  refine lv_iconst (v := -1) hx hb d_HR_findRowDigits_15 (by decide) ?_
  refine lv_icmp_eq (tgt := 38) hx hb d_HR_findRowDigits_16 (by decide) (fun h16 => ?_) (fun h16 => ?_)
  · have hfm1 : fm_ Ts (hy_tm lx lt) (-1) := by rw [h16] at hfm; exact hfm
    refine lv_iconst (v := 0) hx hb d_HR_findRowDigits_38 (by decide) ?_
    refine lv_istore_n (lv' := [(3, .int 0), (2, .int v_6), (0, .ref r), (1, .int (nI lx))]) hx hb d_HR_findRowDigits_39 rfl hl (by decide) rfl (fun ls hl => ?_)
    refine lo_HR_findRowDigits S hE hc hg halP hpa hwp hPs hrl hlt30 hlx (fun g w1 H locs hD ew hW ls hl => ?_) (pa.length + 1) 0 0 g0 _ _ _ _ (by omega) (Nat.zero_le _) nI_0.symm (fun j hj => isD_0 (hg0 j hj)) ew hW (lv_sub hl [2, 3, 0] rfl)
    exact ct_vret S hr hlocks hW (⟨g, ew, fun k hk => Or.inr ⟨hfm1, hD (k + 1) (by omega)⟩⟩) (Nat.le_refl _) (Nat.le_refl _) d_HR_findRowDigits_85
  · obtain ⟨i, t, exv, hti, htm, hbef⟩ : ∃ (i : Nat) (t : hy_T), v_6 = nI i ∧ Ts[i]? = some t ∧ hy_tm lx lt t ∧ ∀ (j : Nat) (y : hy_T), j < i → Ts[j]? = some y → ¬ hy_tm lx lt y := hfm.elim (fun q => absurd q.1 h16) id
    have hil : i < Ts.length := (List.getElem?_eq_some_iff.mp hti).1
    obtain ⟨a, b, f, e1, ⟨t1, -⟩, -⟩ := hta1.2.2 i t hti
    have htl := hta1.1
    obtain ⟨mo2, haT, he2⟩ := id halT1
    refine lv_aload_n hx hb d_HR_findRowDigits_19 rfl (lv_at hl 1 rfl) ?_
    refine lv_aload_n hx hb d_HR_findRowDigits_20 rfl (lv_at hl 1 rfl) ?_
    refine wd_get S i_HR hK hW hr0 rfl 2 (by decide) k_HR_19 rfl rfl d_HR_findRowDigits_21 ?_
    refine lv_iload_n hx hb d_HR_findRowDigits_24 rfl (lv_at hl 0 rfl) ?_
    rw [exv]
    refine ct_goq hW (ct_runV (As := [.int (nI i)]) (rest := [.ref r]) (q := (R_AL, F_AL, 3)) S hE hW (c_AL_get l G _ _ (B 2) (E 2) ta i halT1 (by omega)) haT rfl kc_AL_get kz_AL k_HR_75 ki_AL_get kv_AL_get kd_AL_get ⟨Nat.le_of_ble_eq_true rfl, Nat.le_of_ble_eq_true rfl⟩ hl.1 (Nat.le_of_ble_eq_true rfl) d_HR_findRowDigits_25 ⟨Nat.le_of_ble_eq_true rfl, Nat.le_of_ble_eq_true rfl⟩) (fun v_10 u_8 H locs hp_9 hW => ?_)
    obtain ⟨hv2, hu_11⟩ := hp_9
    rw [hu_11] at hW
    rw [hv2, e1]
    refine W.eq (g2 := F0 m 28 ls [.ref a, .ref r]) rfl ?_
    refine wd_cast S (T := F_To) (N := 3) k_HR_131 hK hW t1 rfl d_HR_findRowDigits_28 ?_
    refine wd_get S i_To hK hW t1 rfl 2 (by decide) k_HR_133 rfl rfl d_HR_findRowDigits_31 ?_
    refine ct_gov hW (ct_runV (As := [.int t.2.2]) (rest := []) (q := (R_HR, F_HR, 13)) S hE hW (c_HR_takeToldPlaces l G _ _ r lt.length B (fun k => if k = 7 then g0 else F k) tot mn pn t.2.2 hc1 hlt30) hr0 rfl kc_HR_takeToldPlaces kz_HR k_HR_178 ki_HR_takeToldPlaces kv_HR_takeToldPlaces kd_HR_takeToldPlaces ⟨Nat.le_of_ble_eq_true rfl, Nat.le_of_ble_eq_true rfl⟩ hl.1 (Nat.le_of_ble_eq_true rfl) d_HR_findRowDigits_34 ⟨Nat.le_of_ble_eq_true rfl, Nat.le_of_ble_eq_true rfl⟩) (fun u_12 H locs hp_13 hW => ?_)
    obtain ⟨g, hu, hbt⟩ := hp_13
    exact ct_vret S hr hlocks hW (⟨g, by rw [hu, ew]; exact bx_uu _ _ _ _, fun k hk => Or.inl ⟨i, t, Or.inr ⟨i, t, rfl, hti, htm, hbef⟩, hil, hti, hbt k hk⟩⟩) (Nat.le_refl _) (Nat.le_refl _) d_HR_findRowDigits_37
