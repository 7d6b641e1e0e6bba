/-! THE REFERENCE: stands, digitOf. -/

theorem hb_n : ∀ k : Nat, k < 32 → ((nI k &&& 31).toBitVec.smod 32).toNat = k ∧ (((nI k).toUInt32 &&& Int32.toUInt32 31).toBitVec % 32).toNat = k := by decide +kernel
theorem hb_1 : ∀ i : Nat, i < 32 → ¬ i = 0 → (1 : Int32).toBitVec.getLsbD i = false := by decide +kernel
/-- an arithmetic shift shows the same lowest bit -/
theorem hb_sh {x : Int32} {k : Nat} (hk : k ≤ 30) : (x >>> (nI k &&& 31)) &&& 1 = hy_bit x k := by
  unfold hy_bit
  refine Int32.toBitVec_inj.mp (BitVec.eq_of_getLsbD_eq (fun i hi => ?_))
  rw [Int32.toBitVec_and, Int32.toBitVec_and, BitVec.getLsbD_and, BitVec.getLsbD_and]
  by_cases h0 : i = 0
  · subst h0
    congr 1
    rw [Int32.toBitVec_shiftRight]
    show (x.toBitVec.sshiftRight ((nI k &&& 31).toBitVec.smod 32).toNat).getLsbD 0 = (x.toUInt32 >>> ((nI k).toUInt32 &&& Int32.toUInt32 31)).toBitVec.getLsbD 0
    rw [UInt32.toBitVec_shiftRight]
    show _ = (x.toUInt32.toBitVec >>> (((nI k).toUInt32 &&& Int32.toUInt32 31).toBitVec % 32).toNat).getLsbD 0
    rw [(hb_n k (by omega)).1, (hb_n k (by omega)).2, BitVec.getLsbD_ushiftRight, BitVec.getLsbD_sshiftRight]
    simp
    omega
  · rw [hb_1 i hi h0, Bool.and_false, Bool.and_false]
/-- the greatest digit among the first i patterns -/
def dq_ (Ps : List hy_P) (lx : Nat) (row : List Int32) (K i : Nat) (d : Int32) : Prop := (d = 0 ∨ hy_cov Ps lx row K d) ∧ 0 ≤ d ∧ ∀ (k : Nat) (p : hy_P), k < i → Ps[k]? = some p → p.1 = lx → ∀ st : Nat, hy_at p.2.1 row st → st ≤ K → K ≤ st + p.2.1.length → p.2.2.getD (K - st) 0 ≤ d
def dr_ (Ps : List hy_P) (lx : Nat) (row : List Int32) (K i : Nat) (p : hy_P) (j : Nat) (d : Int32) : Prop := dq_ Ps lx row K i d ∧ ∀ j2 st : Nat, j2 < j → st + j2 = K → hy_at p.2.1 row st → p.2.2.getD j2 0 ≤ d
theorem dq_0 {Ps : List hy_P} {lx : Nat} {row : List Int32} {K : Nat} : dq_ Ps lx row K 0 0 := ⟨Or.inl rfl, Int32.le_refl _, fun k p hk => absurd hk (Nat.not_lt_zero k)⟩
theorem dr_0 {Ps : List hy_P} {lx : Nat} {row : List Int32} {K i : Nat} {p : hy_P} {d : Int32} (h : dq_ Ps lx row K i d) : dr_ Ps lx row K i p 0 d := ⟨h, fun j2 st hj => absurd hj (Nat.not_lt_zero j2)⟩
theorem dr_le {Ps : List hy_P} {lx : Nat} {row : List Int32} {K i : Nat} {p : hy_P} {j : Nat} {d : Int32} (h : dr_ Ps lx row K i p j d) (hd : p.2.2.getD j 0 ≤ d) : dr_ Ps lx row K i p (j + 1) d := ⟨h.1, fun j2 st hj hs ha => by
  by_cases e : j2 = j
  · subst e; exact hd
  · exact h.2 j2 st (by omega) hs ha⟩
theorem dr_no {Ps : List hy_P} {lx : Nat} {row : List Int32} {K i : Nat} {p : hy_P} {j : Nat} {d : Int32} (h : dr_ Ps lx row K i p j d) (hn : ∀ st, st + j = K → ¬ hy_at p.2.1 row st) : dr_ Ps lx row K i p (j + 1) d := ⟨h.1, fun j2 st hj hs ha => by
  by_cases e : j2 = j
  · subst e; exact absurd ha (hn st hs)
  · exact h.2 j2 st (by omega) hs ha⟩
theorem dr_up {Ps : List hy_P} {lx : Nat} {row : List Int32} {K i : Nat} {p : hy_P} {j st : Nat} {d e : Int32} (h : dr_ Ps lx row K i p j d) (hp : Ps[i]? = some p) (hl : p.1 = lx) (ha : hy_at p.2.1 row st) (hs : st + j = K) (hj : j ≤ p.2.1.length) (hde : d < e) (he : e = p.2.2.getD j 0) : dr_ Ps lx row K i p (j + 1) e := by
  refine ⟨⟨Or.inr ⟨i, p, hp, hl, st, ha, by omega, by omega, ?_⟩, Int32.le_trans h.1.2.1 (Int32.le_of_lt hde), fun k q hk hq hql s2 h1 h2 h3 => Int32.le_trans (h.1.2.2 k q hk hq hql s2 h1 h2 h3) (Int32.le_of_lt hde)⟩, fun j2 s2 hj2 hs2 ha2 => ?_⟩
  · rw [show K - st = j by omega, he]
  · by_cases e2 : j2 = j
    · subst e2; rw [he]; exact Int32.le_refl _
    · exact Int32.le_trans (h.2 j2 s2 (by omega) hs2 ha2) (Int32.le_of_lt hde)
theorem dq_s {Ps : List hy_P} {lx : Nat} {row : List Int32} {K i : Nat} {p : hy_P} {d : Int32} (h : dr_ Ps lx row K i p (p.2.1.length + 1) d) (hp : Ps[i]? = some p) : dq_ Ps lx row K (i + 1) d := by
  refine ⟨h.1.1, h.1.2.1, fun k q hk hq hql st h1 h2 h3 => ?_⟩
  by_cases e : k = i
  · subst e
    rw [hp] at hq
    cases hq
    exact h.2 (K - st) st (by omega) (by omega) h1
  · exact h.1.2.2 k q (by omega) hq hql st h1 h2 h3
theorem dq_n {Ps : List hy_P} {lx : Nat} {row : List Int32} {K i : Nat} {p : hy_P} {d : Int32} (h : dq_ Ps lx row K i d) (hp : Ps[i]? = some p) (hn : ¬ p.1 = lx) : dq_ Ps lx row K (i + 1) d := by
  refine ⟨h.1, h.2.1, fun k q hk hq hql st h1 h2 h3 => ?_⟩
  by_cases e : k = i
  · subst e
    rw [hp] at hq
    cases hq
    exact absurd hql hn
  · exact h.2.2 k q (by omega) hq hql st h1 h2 h3
theorem dq_end {Ps : List hy_P} {lx : Nat} {row : List Int32} {K : Nat} {d : Int32} (h : dq_ Ps lx row K Ps.length d) : hy_isD Ps lx row K d := ⟨h.1, h.2.1, fun d2 hc => by
  obtain ⟨k, p, hp, hl, st, ha, h1, h2, rfl⟩ := hc
  exact h.2.2 k p (List.getElem?_eq_some_iff.mp hp).1 hp hl st ha h1 h2⟩

set_option maxHeartbeats 4000000 in
set_option maxRecDepth 100000 in
/-- the loop of stands -/
theorem lo_Mo_stands {p_ : Program} {l : Launch} {e_ : Env} {s : State} {m : MethodId} {args : Array Value} {below : List Frame} {meth : Method} {c_ : Code} {Q : State → Prop} {G : ev_G} {A : Nat → Prop} (S : CallFix p_ m c_ b_Mo_stands 5 s args lw_good "HyphenRowsModel") (hE : ev_K G A s s.heap) {w : wd_M} {H : Heap} {locs : List Loc} {t : Nat} {C : Nat → Nat} {M : Nat → Nat → Int32} {ln mk pn tn en qn : Int32} {pi : Nat} {p : hy_P} {lt : List Int32} {x : Int32} {st : Nat} (hW : wd_W G.1 ev_cl A w s.heap H locs) (hc : mo_c G w t C M ln mk pn tn en (nI lt.length) qn) (m8 : M 8 pi = nI p.2.1.length) (m9 : ∀ (i : Nat) (x : Int32), p.2.1[i]? = some x → M 9 (12 * pi + i) = x) (hrow : li_ (hy_row lt) (M 16)) (hlt30 : lt.length ≤ 30) (hpi : pi < 150) (hpl : p.2.1.length ≤ 12) (kk : ∀ sm : Int32, bl_ sm ((x = nI st ∧ st + p.2.1.length ≤ lt.length + 2) ∧ ∀ j, j < p.2.1.length → M 9 (12 * pi + j) = M 16 (st + j)) → ∀ ls : Array Slot, lv_has ls 5 [(0, .ref t), (3, .int sm)] → W p_ l e_ (rm_ 0 0 0) s m args below meth c_ H locs 0 0 Q (F0 m 81 ls [])) :
    ∀ (fu : Nat) (k : Nat) (xi : Int32) (sm : Int32) (ls : Array Slot), p.2.1.length < k + fu → k ≤ p.2.1.length → xi = nI k → bl_ sm ((x = nI st ∧ st + p.2.1.length ≤ lt.length + 2) ∧ ∀ j, j < k → M 9 (12 * pi + j) = M 16 (st + j)) → lv_has ls 5 [(0, .ref t), (1, .int (nI pi)), (2, .int x), (3, .int sm), (4, .int xi)] → W p_ l e_ (rm_ 0 0 0) s m args below meth c_ H locs 0 0 Q (F0 m 30 ls []) := by
  have hx := S.1
  have hb := S.2.1
  have hK := hE.1
  intro fu
  induction fu with
  | zero =>
    intro k xi sm ls hfu hk exi hsm hl
    exact absurd hfu (by omega)
  | succ fu ih =>
    intro k xi sm ls hfu hk exi hsm hl
    obtain ⟨ht0, -, -, -, -, -, -, -, -, c8, c9, -, -, -, -, -, -, c16, -⟩ := id hc
    refine lv_iload hx hb d_Mo_stands_30 (lv_at hl 4 rfl) ?_
    refine lv_aload_n hx hb d_Mo_stands_32 rfl (lv_at hl 0 rfl) ?_
    refine wd_get S i_Mo hK hW ht0 rfl 12 (by decide) k_Mo_35 rfl rfl d_Mo_stands_33 ?_
    refine lv_iload_n hx hb d_Mo_stands_36 rfl (lv_at hl 1 rfl) ?_
    refine wd_iald S hK hW 0 c8 rfl (vp_in_nI (by omega) (by omega)) d_Mo_stands_37 ?_
    rw [nI_clamp (by omega), m8]
    refine lv_icmp_ge (tgt := 81) hx hb d_Mo_stands_38 (by decide) (fun h38 => ?_) (fun h38 => ?_)
    · have hin9 : k = p.2.1.length := by rw [exi] at h38; have := (nI_leI (by omega) (by omega)).mp h38; omega
      subst hin9
      exact kk sm hsm ls (lv_sub hl [0, 3] rfl)
    · have hlt : k < p.2.1.length := by rw [exi] at h38; exact Nat.lt_of_not_le (fun q => h38 (nI_le q (by omega)))
      refine lv_iload_n hx hb d_Mo_stands_41 rfl (lv_at hl 3 rfl) ?_
      refine lv_if_eq (tgt := 81) hx hb d_Mo_stands_42 (by decide) (fun h42 => ?_) (fun h42 => ?_)
      · exact kk sm (bl_alx hsm h42 hk) ls (lv_sub hl [0, 3] rfl)
      · have hq := (bl_t hsm h42).1
        have hq2 := hq.2
        refine lv_aload_n hx hb d_Mo_stands_45 rfl (lv_at hl 0 rfl) ?_
        refine wd_get S i_Mo hK hW ht0 rfl 13 (by decide) k_Mo_38 rfl rfl d_Mo_stands_46 ?_
        refine lv_bipush (v := 12) hx hb d_Mo_stands_49 (by decide) ?_
        refine lv_iload_n hx hb d_Mo_stands_51 rfl (lv_at hl 1 rfl) ?_
        refine lv_imul hx hb d_Mo_stands_52 ?_
        refine lv_iload hx hb d_Mo_stands_53 (lv_at hl 4 rfl) ?_
        refine lv_iadd hx hb d_Mo_stands_55 ?_
        rw [show (12 : Int32) * nI pi + xi = nI (12 * pi + k) from by rw [exi]; exact ix_12 pi k]
        refine wd_iald S hK hW 0 c9 rfl (vp_in_nI (by omega) (by omega)) d_Mo_stands_56 ?_
        rw [nI_clamp (by omega)]
        refine lv_aload_n hx hb d_Mo_stands_57 rfl (lv_at hl 0 rfl) ?_
        refine wd_get S i_Mo hK hW ht0 rfl 22 (by decide) k_Mo_59 rfl rfl d_Mo_stands_58 ?_
        refine lv_iload_n hx hb d_Mo_stands_61 rfl (lv_at hl 2 rfl) ?_
        refine lv_iload hx hb d_Mo_stands_62 (lv_at hl 4 rfl) ?_
        refine lv_iadd hx hb d_Mo_stands_64 ?_
        rw [show x + xi = nI (st + k) from by rw [exi, hq.1]; exact nI_add st k]
        refine wd_iald S hK hW 0 c16 rfl (vp_in_nI (by omega) (by omega)) d_Mo_stands_65 ?_
        rw [nI_clamp (by omega)]
        refine lv_icmp_ne (tgt := 73) hx hb d_Mo_stands_66 (by decide) (fun h66 => ?_) (fun h66 => ?_)
        · refine lv_iconst (v := 0) hx hb d_Mo_stands_73 (by decide) ?_
          refine lv_istore_n (lv' := [(3, .int 0), (0, .ref t), (1, .int (nI pi)), (2, .int x), (4, .int xi)]) hx hb d_Mo_stands_74 rfl hl (by decide) rfl (fun ls hl => ?_)
          obtain ⟨xi2, exi2⟩ : ∃ y : Int32, y = xi + 1 := ⟨_, rfl⟩
          refine lv_iinc (v := xi2) (lv' := [(4, .int xi2), (3, .int 0), (0, .ref t), (1, .int (nI pi)), (2, .int x)]) hx hb d_Mo_stands_75 hl (k := 4) rfl (by rw [exi2]; rfl) (by decide) rfl (fun ls hl => ?_)
          refine lv_goto (tgt := 30) hx hb d_Mo_stands_78 (by decide) ?_
          exact ih (k + 1) xi2 0 _ (by omega) (by omega) (by rw [exi2, exi]; exact nI_1 k) (bl_al0 h66) (lv_sub hl [2, 3, 4, 1, 0] rfl)
        · refine lv_iconst (v := 1) hx hb d_Mo_stands_69 (by decide) ?_
          refine lv_goto (tgt := 74) hx hb d_Mo_stands_70 (by decide) ?_
          refine lv_istore_n (lv' := [(3, .int 1), (0, .ref t), (1, .int (nI pi)), (2, .int x), (4, .int xi)]) hx hb d_Mo_stands_74 rfl hl (by decide) rfl (fun ls hl => ?_)
          obtain ⟨xi2, exi2⟩ : ∃ y : Int32, y = xi + 1 := ⟨_, rfl⟩
          refine lv_iinc (v := xi2) (lv' := [(4, .int xi2), (3, .int 1), (0, .ref t), (1, .int (nI pi)), (2, .int x)]) hx hb d_Mo_stands_75 hl (k := 4) rfl (by rw [exi2]; rfl) (by decide) rfl (fun ls hl => ?_)
          refine lv_goto (tgt := 30) hx hb d_Mo_stands_78 (by decide) ?_
          exact ih (k + 1) xi2 1 _ (by omega) (by omega) (by rw [exi2, exi]; exact nI_1 k) (bl_al1 hsm h42 h66) (lv_sub hl [2, 3, 4, 1, 0] rfl)

set_option maxHeartbeats 4000000 in
set_option maxRecDepth 100000 in
/-- stands(p, from) -/
theorem c_Mo_stands (l : Launch) (G : ev_G) (w : wd_M) (sz : Nat) (t : Nat) (C : Nat → Nat) (M : Nat → Nat → Int32) (ln mk pn tn en qn : Int32) (pi : Nat) (p : hy_P) (lt : List Int32) (x : Int32) (a b : Nat) (hc : mo_c G w t C M ln mk pn tn en (nI lt.length) qn) (m8 : M 8 pi = nI p.2.1.length) (m9 : ∀ (i : Nat) (x : Int32), p.2.1[i]? = some x → M 9 (12 * pi + i) = x) (hrow : li_ (hy_row lt) (M 16)) (hlt30 : lt.length ≤ 30) (hpi : pi < 150) (hpl : p.2.1.length ≤ 12) (ex : x = nI a - nI b) (ha60 : a ≤ 60) (hb60 : b ≤ 60) : ct_i l y_Mo_stands b_Mo_stands 5 (some FieldType.boolean) (rm_ 0 0 0) G w sz [.ref t, .int (nI pi), .int x] (fun v u => bl_ v (∃ st : Nat, x = nI st ∧ hy_at p.2.1 (hy_row lt) st) ∧ u = w) := by
  refine ct_enter (by decide +kernel) (Nat.le_of_ble_eq_true rfl) ?_
  intro p_ e_ s m below meth c_ hsz S hr hlocks hname hE hW ls hl
  have S : CallFix p_ m c_ b_Mo_stands 5 s _ lw_good "HyphenRowsModel" := S
  have hx := S.1
  have hb := S.2.1
  have hK := hE.1
  have hl : lv_has ls 5 [(0, .ref t), (1, .int (nI pi)), (2, .int x)] := hl
  obtain ⟨ht0, -, -, -, -, -, -, -, -, c8, c9, -, -, -, -, -, -, c16, -⟩ := id hc
  refine lv_iload_n hx hb d_Mo_stands_0 rfl (lv_at hl 2 rfl) ?_
  refine lv_if_lt (tgt := 25) hx hb d_Mo_stands_1 (by decide) (fun h1 => ?_) (fun h1 => ?_)
  · refine lv_iconst (v := 0) hx hb d_Mo_stands_25 (by decide) ?_
    refine lv_istore_n (lv' := [(3, .int 0), (0, .ref t), (1, .int (nI pi)), (2, .int x)]) hx hb d_Mo_stands_26 rfl hl (by decide) rfl (fun ls hl => ?_)
    refine lv_iconst (v := 0) hx hb d_Mo_stands_27 (by decide) ?_
    refine lv_istore (lv' := [(4, .int 0), (3, .int 0), (0, .ref t), (1, .int (nI pi)), (2, .int x)]) hx hb d_Mo_stands_28 hl (by decide) rfl (fun ls hl => ?_)
    refine lo_Mo_stands (st := a - b) S hE hW hc m8 m9 hrow hlt30 hpi hpl (fun sm hsm ls hl => ?_) (p.2.1.length + 1) 0 0 0 _ (by omega) (Nat.zero_le _) nI_0.symm (Or.inr ⟨rfl, fun q => by have h9 := h1; rw [q.1.1] at h9; exact nI_pos (by omega) h9⟩) (lv_sub hl [2, 3, 4, 1, 0] rfl)
    have hrl := row_len lt
    have hiff : ((x = nI (a - b) ∧ a - b + p.2.1.length ≤ lt.length + 2) ∧ ∀ j, j < p.2.1.length → M 9 (12 * pi + j) = M 16 (a - b + j)) ↔ ∃ st : Nat, x = nI st ∧ hy_at p.2.1 (hy_row lt) st := by
      refine ⟨fun q => ⟨a - b, q.1.1, by rw [hrl]; exact q.1.2, fun j hj => ?_⟩, fun q => ?_⟩
      · rw [← li_get hrow (by have := q.1.2; omega), ← q.2 j hj]
        exact li_get (f := fun j => M 9 (12 * pi + j)) m9 hj
      · obtain ⟨st, e1, hat⟩ := q
        have hat1 := hat.1
        have e2 : (nI a - nI b).toInt = (st : Int) := by rw [← ex, e1, nI_toInt (by omega)]
        rw [pk_sub_toInt (by omega) (by omega)] at e2
        have e3 : st = a - b := by omega
        subst e3
        refine ⟨⟨e1, by omega⟩, fun j hj => ?_⟩
        rw [li_get hrow (by omega), hat.2 j hj]
        exact li_get (f := fun j => M 9 (12 * pi + j)) m9 hj
    refine lv_iload_n hx hb d_Mo_stands_81 rfl (lv_at hl 1 rfl) ?_
    exact ct_iret S hr (bl_01 hsm) hlocks hW (⟨bl_i hsm hiff, rfl⟩) (Nat.le_refl _) (Nat.le_refl _) d_Mo_stands_82
  · have hab : b ≤ a := by have h9 := h1; rw [ex, Int32.lt_iff_toInt_lt, pk_sub_toInt (by omega) (by omega), show (0 : Int32).toInt = 0 from rfl] at h9; omega
    have exs : x = nI (a - b) := ex.trans (pk_sub hab)
    refine lv_iload_n hx hb d_Mo_stands_4 rfl (lv_at hl 2 rfl) ?_
    refine lv_aload_n hx hb d_Mo_stands_5 rfl (lv_at hl 0 rfl) ?_
    refine wd_get S i_Mo hK hW ht0 rfl 12 (by decide) k_Mo_35 rfl rfl d_Mo_stands_6 ?_
    refine lv_iload_n hx hb d_Mo_stands_9 rfl (lv_at hl 1 rfl) ?_
    refine wd_iald S hK hW 0 c8 rfl (vp_in_nI (by omega) (by omega)) d_Mo_stands_10 ?_
    rw [nI_clamp (by omega), m8]
    refine lv_iadd hx hb d_Mo_stands_11 ?_
    refine lv_aload_n hx hb d_Mo_stands_12 rfl (lv_at hl 0 rfl) ?_
    refine wd_get S i_Mo hK hW ht0 rfl 20 (by decide) k_Mo_94 rfl rfl d_Mo_stands_13 ?_
    refine lv_iconst (v := 2) hx hb d_Mo_stands_16 (by decide) ?_
    refine lv_iadd hx hb d_Mo_stands_17 ?_
    rw [show x + nI p.2.1.length = nI (a - b + p.2.1.length) from by rw [exs, nI_add], show nI lt.length + 2 = nI (lt.length + 2) from nI_add lt.length 2]
    refine lv_icmp_gt (tgt := 25) hx hb d_Mo_stands_18 (by decide) (fun h18 => ?_) (fun h18 => ?_)
    · refine lv_iconst (v := 0) hx hb d_Mo_stands_25 (by decide) ?_
      refine lv_istore_n (lv' := [(3, .int 0), (0, .ref t), (1, .int (nI pi)), (2, .int x)]) hx hb d_Mo_stands_26 rfl hl (by decide) rfl (fun ls hl => ?_)
      refine lv_iconst (v := 0) hx hb d_Mo_stands_27 (by decide) ?_
      refine lv_istore (lv' := [(4, .int 0), (3, .int 0), (0, .ref t), (1, .int (nI pi)), (2, .int x)]) hx hb d_Mo_stands_28 hl (by decide) rfl (fun ls hl => ?_)
      refine lo_Mo_stands (st := a - b) S hE hW hc m8 m9 hrow hlt30 hpi hpl (fun sm hsm ls hl => ?_) (p.2.1.length + 1) 0 0 0 _ (by omega) (Nat.zero_le _) nI_0.symm (Or.inr ⟨rfl, fun q => by have h9 := (nI_ltI (by omega) (by omega)).mp h18; have := q.1.2; omega⟩) (lv_sub hl [2, 3, 4, 1, 0] rfl)
      have hrl := row_len lt
      have hiff : ((x = nI (a - b) ∧ a - b + p.2.1.length ≤ lt.length + 2) ∧ ∀ j, j < p.2.1.length → M 9 (12 * pi + j) = M 16 (a - b + j)) ↔ ∃ st : Nat, x = nI st ∧ hy_at p.2.1 (hy_row lt) st := by
        refine ⟨fun q => ⟨a - b, q.1.1, by rw [hrl]; exact q.1.2, fun j hj => ?_⟩, fun q => ?_⟩
        · rw [← li_get hrow (by have := q.1.2; omega), ← q.2 j hj]
          exact li_get (f := fun j => M 9 (12 * pi + j)) m9 hj
        · obtain ⟨st, e1, hat⟩ := q
          have hat1 := hat.1
          have e2 : (nI a - nI b).toInt = (st : Int) := by rw [← ex, e1, nI_toInt (by omega)]
          rw [pk_sub_toInt (by omega) (by omega)] at e2
          have e3 : st = a - b := by omega
          subst e3
          refine ⟨⟨e1, by omega⟩, fun j hj => ?_⟩
          rw [li_get hrow (by omega), hat.2 j hj]
          exact li_get (f := fun j => M 9 (12 * pi + j)) m9 hj
      refine lv_iload_n hx hb d_Mo_stands_81 rfl (lv_at hl 1 rfl) ?_
      exact ct_iret S hr (bl_01 hsm) hlocks hW (⟨bl_i hsm hiff, rfl⟩) (Nat.le_refl _) (Nat.le_refl _) d_Mo_stands_82
    · refine lv_iconst (v := 1) hx hb d_Mo_stands_21 (by decide) ?_
      refine lv_goto (tgt := 26) hx hb d_Mo_stands_22 (by decide) ?_
      refine lv_istore_n (lv' := [(3, .int 1), (0, .ref t), (1, .int (nI pi)), (2, .int x)]) hx hb d_Mo_stands_26 rfl hl (by decide) rfl (fun ls hl => ?_)
      refine lv_iconst (v := 0) hx hb d_Mo_stands_27 (by decide) ?_
      refine lv_istore (lv' := [(4, .int 0), (3, .int 1), (0, .ref t), (1, .int (nI pi)), (2, .int x)]) hx hb d_Mo_stands_28 hl (by decide) rfl (fun ls hl => ?_)
      refine lo_Mo_stands (st := a - b) S hE hW hc m8 m9 hrow hlt30 hpi hpl (fun sm hsm ls hl => ?_) (p.2.1.length + 1) 0 0 1 _ (by omega) (Nat.zero_le _) nI_0.symm (Or.inl ⟨rfl, ⟨exs, by have h9 := (nI_leI (by omega) (by omega)).mp (Int32.not_lt.mp h18); omega⟩, lt_0⟩) (lv_sub hl [2, 3, 4, 1, 0] rfl)
      have hrl := row_len lt
      have hiff : ((x = nI (a - b) ∧ a - b + p.2.1.length ≤ lt.length + 2) ∧ ∀ j, j < p.2.1.length → M 9 (12 * pi + j) = M 16 (a - b + j)) ↔ ∃ st : Nat, x = nI st ∧ hy_at p.2.1 (hy_row lt) st := by
        refine ⟨fun q => ⟨a - b, q.1.1, by rw [hrl]; exact q.1.2, fun j hj => ?_⟩, fun q => ?_⟩
        · rw [← li_get hrow (by have := q.1.2; omega), ← q.2 j hj]
          exact li_get (f := fun j => M 9 (12 * pi + j)) m9 hj
        · obtain ⟨st, e1, hat⟩ := q
          have hat1 := hat.1
          have e2 : (nI a - nI b).toInt = (st : Int) := by rw [← ex, e1, nI_toInt (by omega)]
          rw [pk_sub_toInt (by omega) (by omega)] at e2
          have e3 : st = a - b := by omega
          subst e3
          refine ⟨⟨e1, by omega⟩, fun j hj => ?_⟩
          rw [li_get hrow (by omega), hat.2 j hj]
          exact li_get (f := fun j => M 9 (12 * pi + j)) m9 hj
      refine lv_iload_n hx hb d_Mo_stands_81 rfl (lv_at hl 1 rfl) ?_
      exact ct_iret S hr (bl_01 hsm) hlocks hW (⟨bl_i hsm hiff, rfl⟩) (Nat.le_refl _) (Nat.le_refl _) d_Mo_stands_82

set_option maxHeartbeats 4000000 in
set_option maxRecDepth 100000 in
/-- the inner loop of digitOf -/
theorem lo_Mo_digitOfB {p_ : Program} {l : Launch} {e_ : Env} {s : State} {m : MethodId} {args : Array Value} {below : List Frame} {meth : Method} {c_ : Code} {Q : State → Prop} {G : ev_G} {A : Nat → Prop} (S : CallFix p_ m c_ b_Mo_digitOf 7 s args lw_good "HyphenRowsModel") (hE : ev_K G A s s.heap) {w : wd_M} {t : Nat} {C : Nat → Nat} {M : Nat → Nat → Int32} {ln mk tn qn : Int32} {lx k : Nat} {lt : List Int32} {Ps : List hy_P} {Ts : List hy_T} {i : Nat} {p : hy_P} (hc : mo_c G w t C M ln mk (nI Ps.length) tn (nI Ts.length) (nI lt.length) qn) (hp0 : mo_p Ps M) (hq0 : mo_t Ts M) (hrow : li_ (hy_row lt) (M 16)) (hlt30 : lt.length ≤ 30) (wT : Ts.length ≤ 40) (wts : ∀ t ∈ Ts, t.1 < 4 ∧ t.2.1.length ≤ 30) (wP : Ps.length ≤ 150) (wps : (∀ p ∈ Ps, p.1 < 4 ∧ p.2.2.length = p.2.1.length + 1 ∧ 1 ≤ p.2.1.length ∧ p.2.1.length ≤ 12 ∧ ∀ x ∈ p.2.2, 0 ≤ x)) (hlx : lx < 4) (hk30 : k ≤ 30) (hpi : Ps[i]? = some p) (kk : ∀ mo : Int32, dq_ Ps lx (hy_row lt) (k + 1) (i + 1) mo → ∀ (H : Heap) (locs : List Loc), wd_W G.1 ev_cl A w s.heap H locs → ∀ ls : Array Slot, lv_has ls 7 [(0, .ref t), (1, .int (nI lx)), (2, .int (nI k)), (4, .int mo), (5, .int (nI i))] → W p_ l e_ (rm_ 1 0 0) s m args below meth c_ H locs 0 0 Q (F0 m 120 ls [])) :
    ∀ (fu : Nat) (j : Nat) (xj : Int32) (mo : Int32) (H : Heap) (locs : List Loc) (ls : Array Slot), p.2.1.length + 1 < j + fu → j ≤ p.2.1.length + 1 → xj = nI j → dr_ Ps lx (hy_row lt) (k + 1) i p j mo → wd_W G.1 ev_cl A w s.heap H locs → lv_has ls 7 [(0, .ref t), (1, .int (nI lx)), (2, .int (nI k)), (4, .int mo), (5, .int (nI i)), (6, .int xj)] → W p_ l e_ (rm_ 1 0 0) s m args below meth c_ H locs 0 0 Q (F0 m 43 ls []) := by
  have hx := S.1
  have hb := S.2.1
  have hK := hE.1
  intro fu
  induction fu with
  | zero =>
    intro j xj mo H locs ls hfu hj1 exj hinv hW hl
    exact absurd hfu (by omega)
  | succ fu ih =>
    intro j xj mo H locs ls hfu hj1 exj hinv hW hl
    obtain ⟨ht0, -, -, -, -, -, -, -, c7, c8, c9, c10, -, -, -, c14, -, c16, -⟩ := id hc
    obtain ⟨m7, m8, m9, m10⟩ := hp0 i p hpi
    have hpm := wps p (List.mem_of_getElem? hpi)
    have hi150 : i < 150 := by have := (List.getElem?_eq_some_iff.mp hpi).1; omega
    refine lv_iload hx hb d_Mo_digitOf_43 (lv_at hl 5 rfl) ?_
    refine lv_aload_n hx hb d_Mo_digitOf_45 rfl (lv_at hl 0 rfl) ?_
    refine wd_get S i_Mo hK hW ht0 rfl 12 (by decide) k_Mo_35 rfl rfl d_Mo_digitOf_46 ?_
    refine lv_iload hx hb d_Mo_digitOf_49 (lv_at hl 4 rfl) ?_
    refine wd_iald S hK hW 0 c8 rfl (vp_in_nI (by omega) (by omega)) d_Mo_digitOf_51 ?_
    rw [nI_clamp (by omega), m8]
    refine lv_icmp_gt (tgt := 120) hx hb d_Mo_digitOf_52 (by decide) (fun h52 => ?_) (fun h52 => ?_)
    · have hin9 : j = p.2.1.length + 1 := by rw [exj] at h52; have := (nI_ltI (by omega) (by omega)).mp h52; omega
      subst hin9
      exact kk mo (dq_s hinv hpi) H locs hW ls (lv_sub hl [0, 1, 2, 3, 4] rfl)
    · have hj : j ≤ p.2.1.length := by rw [exj] at h52; exact (nI_leI (by omega) (by omega)).mp (Int32.not_lt.mp h52)
      refine lv_aload_n hx hb d_Mo_digitOf_55 rfl (lv_at hl 0 rfl) ?_
      refine wd_get S i_Mo hK hW ht0 rfl 11 (by decide) k_Mo_32 rfl rfl d_Mo_digitOf_56 ?_
      refine lv_iload hx hb d_Mo_digitOf_59 (lv_at hl 4 rfl) ?_
      refine wd_iald S hK hW 0 c7 rfl (vp_in_nI (by omega) (by omega)) d_Mo_digitOf_61 ?_
      rw [nI_clamp (by omega), m7]
      refine lv_iload_n hx hb d_Mo_digitOf_62 rfl (lv_at hl 1 rfl) ?_
      refine lv_icmp_ne (tgt := 120) hx hb d_Mo_digitOf_63 (by decide) (fun h63 => ?_) (fun h63 => ?_)
      · exact kk mo (dq_n hinv.1 hpi (fun q => h63 (by rw [q]))) H locs hW ls (lv_sub hl [0, 1, 2, 3, 4] rfl)
      · have hpl : p.1 = lx := (nI_eq (by omega) (by omega)).mp h63
        have hd : M 10 (13 * i + j) = p.2.2.getD j 0 := li_get (f := fun j => M 10 (13 * i + j)) m10 (by omega)
        have hix : (13 : Int32) * nI i + xj = nI (13 * i + j) := by rw [exj]; exact ix_13 i j
        refine lv_aload_n hx hb d_Mo_digitOf_66 rfl (lv_at hl 0 rfl) ?_
        refine wd_get S i_Mo hK hW ht0 rfl 14 (by decide) k_Mo_41 rfl rfl d_Mo_digitOf_67 ?_
        refine lv_bipush (v := 13) hx hb d_Mo_digitOf_70 (by decide) ?_
        refine lv_iload hx hb d_Mo_digitOf_72 (lv_at hl 4 rfl) ?_
        refine lv_imul hx hb d_Mo_digitOf_74 ?_
        refine lv_iload hx hb d_Mo_digitOf_75 (lv_at hl 5 rfl) ?_
        refine lv_iadd hx hb d_Mo_digitOf_77 ?_
        rw [hix]
        refine wd_iald S hK hW 0 c10 rfl (vp_in_nI (by omega) (by omega)) d_Mo_digitOf_78 ?_
        rw [nI_clamp (by omega), hd]
        refine lv_iload hx hb d_Mo_digitOf_79 (lv_at hl 3 rfl) ?_
        refine lv_icmp_le (tgt := 114) hx hb d_Mo_digitOf_81 (by decide) (fun h81 => ?_) (fun h81 => ?_)
        · obtain ⟨xj2, exj2⟩ : ∃ y : Int32, y = xj + 1 := ⟨_, rfl⟩
          refine lv_iinc (v := xj2) (lv' := [(6, .int xj2), (0, .ref t), (1, .int (nI lx)), (2, .int (nI k)), (4, .int mo), (5, .int (nI i))]) hx hb d_Mo_digitOf_114 hl (k := 5) rfl (by rw [exj2]; rfl) (by decide) rfl (fun ls hl => ?_)
          refine lv_goto (tgt := 43) hx hb d_Mo_digitOf_117 (by decide) ?_
          exact ih (j + 1) xj2 mo _ _ _ (by omega) (by omega) (by rw [exj2, exj]; exact nI_1 j) (dr_le hinv h81) hW (lv_sub hl [1, 2, 3, 4, 5, 0] rfl)
        · refine lv_aload_n hx hb d_Mo_digitOf_84 rfl (lv_at hl 0 rfl) ?_
          refine lv_iload hx hb d_Mo_digitOf_85 (lv_at hl 4 rfl) ?_
          refine lv_iload_n hx hb d_Mo_digitOf_87 rfl (lv_at hl 2 rfl) ?_
          refine lv_iconst (v := 1) hx hb d_Mo_digitOf_88 (by decide) ?_
          refine lv_iadd hx hb d_Mo_digitOf_89 ?_
          refine lv_iload hx hb d_Mo_digitOf_90 (lv_at hl 5 rfl) ?_
          refine lv_isub hx hb d_Mo_digitOf_92 ?_
          refine lv_topi (fun x9 ex9 => ?_)
          have ex9b : x9 = nI (k + 1) - nI j := by rw [ex9, exj, nI_1]
          refine ct_goi hW (ct_runV (As := [.int (nI i), .int x9]) (rest := []) (q := (R_Mo, F_Mo, 25)) S hE hW (c_Mo_stands l G _ _ t C M ln mk (nI Ps.length) tn (nI Ts.length) qn i p lt x9 (k + 1) j hc m8 m9 hrow hlt30 hi150 hpm.2.2.2.1 ex9b (by omega) (by omega)) ht0 rfl kc_Mo_stands kz_Mo k_Mo_107 ki_Mo_stands kv_Mo_stands kd_Mo_stands ⟨Nat.le_of_ble_eq_true rfl, Nat.le_of_ble_eq_true rfl⟩ hl.1 (Nat.le_of_ble_eq_true rfl) d_Mo_digitOf_93 ⟨Nat.le_of_ble_eq_true rfl, Nat.le_of_ble_eq_true rfl⟩) (fun v_3 u_1 H locs hp_2 hW => ?_)
          obtain ⟨hv, hu_4⟩ := hp_2
          rw [hu_4] at hW
          refine lv_if_eq (tgt := 114) hx hb d_Mo_digitOf_96 (by decide) (fun h96 => ?_) (fun h96 => ?_)
          · obtain ⟨xj2, exj2⟩ : ∃ y : Int32, y = xj + 1 := ⟨_, rfl⟩
            refine lv_iinc (v := xj2) (lv' := [(6, .int xj2), (0, .ref t), (1, .int (nI lx)), (2, .int (nI k)), (4, .int mo), (5, .int (nI i))]) hx hb d_Mo_digitOf_114 hl (k := 5) rfl (by rw [exj2]; rfl) (by decide) rfl (fun ls hl => ?_)
            refine lv_goto (tgt := 43) hx hb d_Mo_digitOf_117 (by decide) ?_
            exact ih (j + 1) xj2 mo _ _ _ (by omega) (by omega) (by rw [exj2, exj]; exact nI_1 j) (dr_no hinv (fun st hs ha => bl_f hv h96 ⟨st, by rw [ex9b, ← hs, pk_sub (by omega), Nat.add_sub_cancel], ha⟩)) hW (lv_sub hl [1, 2, 3, 4, 5, 0] rfl)
          · obtain ⟨st, e1, hat⟩ := bl_t hv h96
            have hat1 := hat.1
            rw [row_len] at hat1
            have h9s : (nI (k + 1) - nI j).toInt = (st : Int) := by rw [← ex9b, e1, nI_toInt (by omega)]
            rw [pk_sub_toInt (by omega) (by omega)] at h9s
            have hsj : st + j = k + 1 := by omega
            refine lv_aload_n hx hb d_Mo_digitOf_99 rfl (lv_at hl 0 rfl) ?_
            refine wd_get S i_Mo hK hW ht0 rfl 14 (by decide) k_Mo_41 rfl rfl d_Mo_digitOf_100 ?_
            refine lv_bipush (v := 13) hx hb d_Mo_digitOf_103 (by decide) ?_
            refine lv_iload hx hb d_Mo_digitOf_105 (lv_at hl 4 rfl) ?_
            refine lv_imul hx hb d_Mo_digitOf_107 ?_
            refine lv_iload hx hb d_Mo_digitOf_108 (lv_at hl 5 rfl) ?_
            refine lv_iadd hx hb d_Mo_digitOf_110 ?_
            rw [hix]
            refine wd_iald S hK hW 0 c10 rfl (vp_in_nI (by omega) (by omega)) d_Mo_digitOf_111 ?_
            rw [nI_clamp (by omega), hd]
            refine lv_topi (fun mo2 emo2 => ?_)
            refine lv_istore (lv' := [(4, .int mo2), (0, .ref t), (1, .int (nI lx)), (2, .int (nI k)), (5, .int (nI i)), (6, .int xj)]) hx hb d_Mo_digitOf_112 hl (by decide) rfl (fun ls hl => ?_)
            obtain ⟨xj2, exj2⟩ : ∃ y : Int32, y = xj + 1 := ⟨_, rfl⟩
            refine lv_iinc (v := xj2) (lv' := [(6, .int xj2), (4, .int mo2), (0, .ref t), (1, .int (nI lx)), (2, .int (nI k)), (5, .int (nI i))]) hx hb d_Mo_digitOf_114 hl (k := 5) rfl (by rw [exj2]; rfl) (by decide) rfl (fun ls hl => ?_)
            refine lv_goto (tgt := 43) hx hb d_Mo_digitOf_117 (by decide) ?_
            exact ih (j + 1) xj2 mo2 _ _ _ (by omega) (by omega) (by rw [exj2, exj]; exact nI_1 j) (dr_up hinv hpi hpl hat hsj hj (by rw [emo2]; exact Int32.not_le.mp h81) emo2) hW (lv_sub hl [2, 3, 4, 1, 5, 0] rfl)

set_option maxHeartbeats 4000000 in
set_option maxRecDepth 100000 in
/-- the loop of digitOf -/
theorem lo_Mo_digitOf {p_ : Program} {l : Launch} {e_ : Env} {s : State} {m : MethodId} {args : Array Value} {below : List Frame} {meth : Method} {c_ : Code} {Q : State → Prop} {G : ev_G} {A : Nat → Prop} (S : CallFix p_ m c_ b_Mo_digitOf 7 s args lw_good "HyphenRowsModel") (hE : ev_K G A s s.heap) {w : wd_M} {t : Nat} {C : Nat → Nat} {M : Nat → Nat → Int32} {ln mk tn qn : Int32} {lx k : Nat} {lt : List Int32} {Ps : List hy_P} {Ts : List hy_T} (hc : mo_c G w t C M ln mk (nI Ps.length) tn (nI Ts.length) (nI lt.length) qn) (hp0 : mo_p Ps M) (hq0 : mo_t Ts M) (hrow : li_ (hy_row lt) (M 16)) (hlt30 : lt.length ≤ 30) (wT : Ts.length ≤ 40) (wts : ∀ t ∈ Ts, t.1 < 4 ∧ t.2.1.length ≤ 30) (wP : Ps.length ≤ 150) (wps : (∀ p ∈ Ps, p.1 < 4 ∧ p.2.2.length = p.2.1.length + 1 ∧ 1 ≤ p.2.1.length ∧ p.2.1.length ≤ 12 ∧ ∀ x ∈ p.2.2, 0 ≤ x)) (hlx : lx < 4) (hk30 : k ≤ 30) (kk : ∀ mo : Int32, hy_isD Ps lx (hy_row lt) (k + 1) mo → ∀ (H : Heap) (locs : List Loc), wd_W G.1 ev_cl A w s.heap H locs → ∀ ls : Array Slot, lv_has ls 7 [(0, .ref t), (4, .int mo)] → W p_ l e_ (rm_ 1 0 0) s m args below meth c_ H locs 0 0 Q (F0 m 126 ls [])) :
    ∀ (fu : Nat) (i : Nat) (xi : Int32) (mo : Int32) (H : Heap) (locs : List Loc) (ls : Array Slot), Ps.length < i + fu → i ≤ Ps.length → xi = nI i → dq_ Ps lx (hy_row lt) (k + 1) i mo → wd_W G.1 ev_cl A w s.heap H locs → lv_has ls 7 [(0, .ref t), (1, .int (nI lx)), (2, .int (nI k)), (4, .int mo), (5, .int xi)] → W p_ l e_ (rm_ 1 0 0) s m args below meth c_ H locs 0 0 Q (F0 m 31 ls []) := by
  have hx := S.1
  have hb := S.2.1
  have hK := hE.1
  intro fu
  induction fu with
  | zero =>
    intro i xi mo H locs ls hfu hi exi hinv hW hl
    exact absurd hfu (by omega)
  | succ fu ih =>
    intro i xi mo H locs ls hfu hi exi hinv hW hl
    obtain ⟨ht0, -, -, -, -, -, -, -, c7, c8, c9, c10, -, -, -, c14, -, c16, -⟩ := id hc
    refine lv_iload hx hb d_Mo_digitOf_31 (lv_at hl 4 rfl) ?_
    refine lv_aload_n hx hb d_Mo_digitOf_33 rfl (lv_at hl 0 rfl) ?_
    refine wd_get S i_Mo hK hW ht0 rfl 9 (by decide) k_Mo_80 rfl rfl d_Mo_digitOf_34 ?_
    refine lv_icmp_ge (tgt := 126) hx hb d_Mo_digitOf_37 (by decide) (fun h37 => ?_) (fun h37 => ?_)
    · have hin9 : i = Ps.length := by rw [exi] at h37; have := (nI_leI (by omega) (by omega)).mp h37; omega
      subst hin9
      exact kk mo (dq_end hinv) H locs hW ls (lv_sub hl [0, 3] rfl)
    · have hlt : i < Ps.length := by rw [exi] at h37; exact Nat.lt_of_not_le (fun q => h37 (nI_le q (by omega)))
      obtain ⟨p, hpi⟩ : ∃ p, Ps[i]? = some p := ⟨_, List.getElem?_eq_getElem hlt⟩
      have hpm := wps p (List.mem_of_getElem? hpi)
      rw [exi] at hl
      refine lv_iconst (v := 0) hx hb d_Mo_digitOf_40 (by decide) ?_
      refine lv_istore (lv' := [(6, .int 0), (0, .ref t), (1, .int (nI lx)), (2, .int (nI k)), (4, .int mo), (5, .int (nI i))]) hx hb d_Mo_digitOf_41 hl (by decide) rfl (fun ls hl => ?_)
      refine lo_Mo_digitOfB S hE hc hp0 hq0 hrow hlt30 wT wts wP wps hlx hk30 hpi (fun mo hinv H locs hW ls hl => ?_) (p.2.1.length + 2) 0 0 mo _ _ _ (by omega) (Nat.zero_le _) nI_0.symm (dr_0 hinv) hW (lv_sub hl [1, 2, 3, 4, 5, 0] rfl)
      obtain ⟨xi2, exi2⟩ : ∃ y : Int32, y = (nI i) + 1 := ⟨_, rfl⟩
      refine lv_iinc (v := xi2) (lv' := [(5, .int xi2), (0, .ref t), (1, .int (nI lx)), (2, .int (nI k)), (4, .int mo)]) hx hb d_Mo_digitOf_120 hl (k := 4) rfl (by rw [exi2]; rfl) (by decide) rfl (fun ls hl => ?_)
      refine lv_goto (tgt := 31) hx hb d_Mo_digitOf_123 (by decide) ?_
      exact ih (i + 1) xi2 mo _ _ _ (by omega) (by omega) (by rw [exi2]; exact nI_1 i) hinv hW (lv_sub hl [1, 2, 3, 4, 0] rfl)

set_option maxHeartbeats 4000000 in
set_option maxRecDepth 100000 in
/-- digitOf(language, k) -/
theorem c_Mo_digitOf (l : Launch) (G : ev_G) (w : wd_M) (sz : Nat) (t : Nat) (C : Nat → Nat) (M : Nat → Nat → Int32) (ln mk tn qn : Int32) (lx k : Nat) (lt : List Int32) (Ps : List hy_P) (Ts : List hy_T) (hc : mo_c G w t C M ln mk (nI Ps.length) tn (nI Ts.length) (nI lt.length) qn) (hp0 : mo_p Ps M) (hq0 : mo_t Ts M) (hrow : li_ (hy_row lt) (M 16)) (hlt30 : lt.length ≤ 30) (wT : Ts.length ≤ 40) (wts : ∀ t ∈ Ts, t.1 < 4 ∧ t.2.1.length ≤ 30) (wP : Ps.length ≤ 150) (wps : (∀ p ∈ Ps, p.1 < 4 ∧ p.2.2.length = p.2.1.length + 1 ∧ 1 ≤ p.2.1.length ∧ p.2.1.length ≤ 12 ∧ ∀ x ∈ p.2.2, 0 ≤ x)) (hlx : lx < 4) (hk30 : k ≤ 30) : ct_i l y_Mo_digitOf b_Mo_digitOf 7 (some FieldType.int) (rm_ 1 0 0) G w sz [.ref t, .int (nI lx), .int (nI k)] (fun v u => hy_dig Ps Ts lx lt k v ∧ u = w) := by
  refine ct_enter (by decide +kernel) (Nat.le_of_ble_eq_true rfl) ?_
  intro p_ e_ s m below meth c_ hsz S hr hlocks hname hE hW ls hl
  have S : CallFix p_ m c_ b_Mo_digitOf 7 s _ lw_good "HyphenRowsModel" := S
  have hx := S.1
  have hb := S.2.1
  have hK := hE.1
  have hl : lv_has ls 7 [(0, .ref t), (1, .int (nI lx)), (2, .int (nI k))] := hl
  obtain ⟨ht0, -, -, -, -, -, -, -, c7, c8, c9, c10, -, -, -, c14, -, c16, -⟩ := id hc
  refine lv_aload_n hx hb d_Mo_digitOf_0 rfl (lv_at hl 0 rfl) ?_
  refine lv_iload_n hx hb d_Mo_digitOf_1 rfl (lv_at hl 1 rfl) ?_
  refine ct_goi hW (ct_runV (As := [.int (nI lx)]) (rest := []) (q := (R_Mo, F_Mo, 25)) S hE hW (c_Mo_exceptionOf l G _ _ t C M ln mk (nI Ps.length) tn qn lx lt Ts hc hq0 (row_tail hrow) hlt30 wT wts hlx) ht0 rfl kc_Mo_exceptionOf kz_Mo k_Mo_103 ki_Mo_exceptionOf kv_Mo_exceptionOf kd_Mo_exceptionOf ⟨Nat.le_of_ble_eq_true rfl, Nat.le_of_ble_eq_true rfl⟩ hl.1 (Nat.le_of_ble_eq_true rfl) d_Mo_digitOf_2 ⟨Nat.le_of_ble_eq_true rfl, Nat.le_of_ble_eq_true rfl⟩) (fun v_3 u_1 H locs hp_2 hW => ?_)
  obtain ⟨e, exv, he, hno, hyes, hu2⟩ := hp_2
  rw [hu2] at hW
  rw [exv]
  refine lv_istore_n (lv' := [(3, .int (nI e)), (0, .ref t), (1, .int (nI lx)), (2, .int (nI k))]) hx hb d_Mo_digitOf_5 rfl hl (by decide) rfl (fun ls hl => ?_)
  refine lv_iload_n hx hb d_Mo_digitOf_6 rfl (lv_at hl 0 rfl) ?_
  refine lv_aload_n hx hb d_Mo_digitOf_7 rfl (lv_at hl 1 rfl) ?_
  refine wd_get S i_Mo hK hW ht0 rfl 15 (by decide) k_Mo_97 rfl rfl d_Mo_digitOf_8 ?_
  refine lv_icmp_ge (tgt := 25) hx hb d_Mo_digitOf_11 (by decide) (fun h11 => ?_) (fun h11 => ?_)
  · have hen : e = Ts.length := by have := (nI_leI (by omega) (by omega)).mp h11; omega
    have hfm1 : fm_ Ts (hy_tm lx lt) (-1) := Or.inl ⟨rfl, fun j p hj => hno j p (by have := (List.getElem?_eq_some_iff.mp hj).1; omega) hj⟩
    refine lv_iconst (v := 0) hx hb d_Mo_digitOf_25 (by decide) ?_
    refine lv_istore (lv' := [(4, .int 0), (3, .int (nI e)), (0, .ref t), (1, .int (nI lx)), (2, .int (nI k))]) hx hb d_Mo_digitOf_26 hl (by decide) rfl (fun ls hl => ?_)
    refine lv_iconst (v := 0) hx hb d_Mo_digitOf_28 (by decide) ?_
    refine lv_istore (lv' := [(5, .int 0), (4, .int 0), (3, .int (nI e)), (0, .ref t), (1, .int (nI lx)), (2, .int (nI k))]) hx hb d_Mo_digitOf_29 hl (by decide) rfl (fun ls hl => ?_)
    refine lo_Mo_digitOf S hE hc hp0 hq0 hrow hlt30 wT wts wP wps hlx hk30 (fun mo hd H locs hW ls hl => ?_) (Ps.length + 1) 0 0 0 _ _ _ (by omega) (Nat.zero_le _) nI_0.symm dq_0 hW (lv_sub hl [3, 4, 5, 1, 0] rfl)
    refine lv_iload hx hb d_Mo_digitOf_126 (lv_at hl 1 rfl) ?_
    exact ct_iret S hr rfl hlocks hW (⟨Or.inr ⟨hfm1, hd⟩, rfl⟩) (Nat.le_of_ble_eq_true rfl) (Nat.le_of_ble_eq_true rfl) d_Mo_digitOf_128
  · have hel : e < Ts.length := Nat.lt_of_not_le (fun q => h11 (nI_le q (by omega)))
    obtain ⟨q, hqe, hqm⟩ := hyes hel
    refine lv_aload_n hx hb d_Mo_digitOf_14 rfl (lv_at hl 1 rfl) ?_
    refine wd_get S i_Mo hK hW ht0 rfl 19 (by decide) k_Mo_53 rfl rfl d_Mo_digitOf_15 ?_
    refine lv_iload_n hx hb d_Mo_digitOf_18 rfl (lv_at hl 0 rfl) ?_
    refine wd_iald S hK hW 0 c14 rfl (vp_in_nI (by omega) (by omega)) d_Mo_digitOf_19 ?_
    rw [nI_clamp (by omega), (hq0 e q hqe).2.2.2]
    refine lv_iload_n hx hb d_Mo_digitOf_20 rfl (lv_at hl 3 rfl) ?_
    refine lv_ishr hx hb d_Mo_digitOf_21 ?_
    refine lv_iconst (v := 1) hx hb d_Mo_digitOf_22 (by decide) ?_
    refine lv_iand hx hb d_Mo_digitOf_23 ?_
    rw [hb_sh hk30]
    exact ct_iret S hr rfl hlocks hW (⟨Or.inl ⟨e, q, Or.inr ⟨e, q, rfl, hqe, hqm, hno⟩, hel, hqe, rfl⟩, rfl⟩) (Nat.le_of_ble_eq_true rfl) (Nat.le_of_ble_eq_true rfl) d_Mo_digitOf_24
