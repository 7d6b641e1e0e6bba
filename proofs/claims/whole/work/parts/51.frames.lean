/-! CLASS AND REFERENCE, SIDE BY SIDE: a call of one keeps the other. -/
theorem hr_mk {G : ev_G} {w u : wd_M} {tg : Nat → Nat} {r : Nat} {x : hy_S} (h : hr_S G w tg r x) (hwf : wf_S x) (hk : mk_ w u tg) : hr_S G u tg r x := by
  obtain ⟨B, E, F, la, pa, ta, ⟨c0, c3, c4, c5, c6, c7, c8⟩, hg, ⟨g0, g1, g2, gE⟩, hla, hpa, hta, hml, hmd, hwd, hpl⟩ := h
  have k0 : ∀ q, ¬ (500 ≤ tg q ∧ tg q < 600) → u q = w q := hk.1
  have kB : ∀ i, i < 9 → u (B i) = w (B i) := fun i hi => k0 _ (by rw [hg.2 i hi]; omega)
  have kE : ∀ i, i < 3 → w (E i) ≠ none → u (E i) = w (E i) := fun i hi hn => k0 _ (by rw [gE i hi hn]; omega)
  refine ⟨B, E, F, la, pa, ta, ⟨(k0 r (by rw [hg.1]; omega)).trans c0, (kB 3 (by omega)).trans c3, (kB 4 (by omega)).trans c4, (kB 5 (by omega)).trans c5, (kB 6 (by omega)).trans c6, (kB 7 (by omega)).trans c7, (kB 8 (by omega)).trans c8⟩, hg, ⟨al_keep g0 (kB 0 (by omega)) (kE 0 (by omega)), al_keep g1 (kB 1 (by omega)) (kE 1 (by omega)), al_keep g2 (kB 2 (by omega)) (kE 2 (by omega)), fun i hi hn => gE i hi (fun q => hn ((hk.2 _).mpr q))⟩, la_keep hla (fun y _ hy => k0 y (by have hy : 1000 ≤ tg y ∧ tg y < 2000 := hy; omega)) ex_rf hwf.1, pa_keep hpa (fun y _ hy => k0 y (by have hy : 2000 ≤ tg y ∧ tg y < 10000 := hy; omega)) ex_rf hwf.2.1, ta_keep hta (fun y _ hy => k0 y (by have hy : 10000 ≤ tg y := hy; omega)) ex_rf, hml, hmd, hwd, hpl⟩
theorem mo_kp {G : ev_G} {w u : wd_M} {tg tg2 : Nat → Nat} {t : Nat} {x : hy_S} (h : mo_S G w tg t x) (hk : kp_ w u tg (fun t => 500 ≤ t ∧ t < 600)) (he : ex_ w tg tg2) : mo_S G u tg2 t x := by
  obtain ⟨C, M, ⟨ht0, c0, c1, c2, c3, c4, c5, c6, c7, c8, c9, c10, c11, c12, c13, c14, c15, c16, c17⟩, hT, hr⟩ := h
  have kc : ∀ (i : Nat) {y : va_E}, i < 18 → w (C i) = some y → u (C i) = some y := fun i y hi hy => (hk _ (wd_some hy) (by rw [hT.2 i hi]; show _ ∧ _; omega)).trans hy
  have kt : ∀ (i : Nat) {y : va_E}, i < 18 → w (C i) = some y → tg2 (C i) = 501 + i := fun i y hi hy => (he _ (wd_some hy)).trans (hT.2 i hi)
  refine ⟨C, M, ⟨(hk t (wd_some ht0) (by rw [hT.1]; show _ ∧ _; omega)).trans ht0, kc 0 (by omega) c0, kc 1 (by omega) c1, kc 2 (by omega) c2, kc 3 (by omega) c3, kc 4 (by omega) c4, kc 5 (by omega) c5, kc 6 (by omega) c6, kc 7 (by omega) c7, kc 8 (by omega) c8, kc 9 (by omega) c9, kc 10 (by omega) c10, kc 11 (by omega) c11, kc 12 (by omega) c12, kc 13 (by omega) c13, kc 14 (by omega) c14, kc 15 (by omega) c15, kc 16 (by omega) c16, kc 17 (by omega) c17⟩, ⟨(he t (wd_some ht0)).trans hT.1, fun i hi => ?_⟩, hr⟩
  match i, hi with
  | 0, h => exact kt 0 h c0
  | 1, h => exact kt 1 h c1
  | 2, h => exact kt 2 h c2
  | 3, h => exact kt 3 h c3
  | 4, h => exact kt 4 h c4
  | 5, h => exact kt 5 h c5
  | 6, h => exact kt 6 h c6
  | 7, h => exact kt 7 h c7
  | 8, h => exact kt 8 h c8
  | 9, h => exact kt 9 h c9
  | 10, h => exact kt 10 h c10
  | 11, h => exact kt 11 h c11
  | 12, h => exact kt 12 h c12
  | 13, h => exact kt 13 h c13
  | 14, h => exact kt 14 h c14
  | 15, h => exact kt 15 h c15
  | 16, h => exact kt 16 h c16
  | 17, h => exact kt 17 h c17
  | i + 18, h => exact absurd h (by omega)
