/-! WHAT EACH CALL DOES, as relations; class and reference keep the same ones, and each has one answer. -/
abbrev hy_S : Type := List hy_L × List hy_P × List hy_T × List Int32 × List Int32 × List Int32 × List Nat
def wf_S (x : hy_S) : Prop := hy_wf x.1 x.2.1 x.2.2.1 x.2.2.2.1 x.2.2.2.2.1 x.2.2.2.2.2.1 x.2.2.2.2.2.2
def hr_S (G : ev_G) (w : wd_M) (tg : Nat → Nat) (r : Nat) (x : hy_S) : Prop := hr_ G w tg r x.1 x.2.1 x.2.2.1 x.2.2.2.1 x.2.2.2.2.1 x.2.2.2.2.2.1 x.2.2.2.2.2.2
/-- a call of the class: what it answers and makes of the state; the reference's cells stay -/
def hq_ (G : ev_G) (w : wd_M) (tg : Nat → Nat) (r : Nat) (sp : Int32 → hy_S → Prop) (v : Int32) (u : wd_M) : Prop := ∃ (x : hy_S) (tg2 : Nat → Nat), sp v x ∧ hr_S G u tg2 r x ∧ ex_ w tg tg2 ∧ kp_ w u tg (fun t => 500 ≤ t ∧ t < 600)
def ok_s (x : Int32) : Prop := ¬ x < 0 ∧ ¬ 255 < x
def ok_l (x : Int32) : Prop := ¬ x < 0 ∧ ¬ 30 < x
def ok_d (x : Int32) : Prop := ¬ x < 0 ∧ ¬ 9 < x
def ok_e (x : Int32) : Prop := ¬ x < 0 ∧ ¬ 20 < x
theorem ok_s256 {x : Int32} : (¬ x < 0 ∧ ¬ 256 ≤ x) ↔ ok_s x := by
  have h : (256 : Int32) ≤ x ↔ 255 < x := by
    rw [Int32.le_iff_toInt_le, Int32.lt_iff_toInt_lt, show (256 : Int32).toInt = 256 by decide, show (255 : Int32).toInt = 255 by decide]
    omega
  unfold ok_s
  rw [h]
theorem ok_nat {x M : Int32} {n : Nat} (h : ¬ x < 0 ∧ ¬ M < x) (hM : M.toInt = n) : ∃ k : Nat, k ≤ n ∧ x = nI k := nI_of2 hM h.1 (Int32.not_lt.mp h.2)
def sp_language (s : hy_S) (v : Int32) (t : hy_S) : Prop := (¬ s.1.length < 4 ∧ v = -2 ∧ t = s) ∨ (s.1.length < 4 ∧ v = nI s.1.length ∧ t = (s.1 ++ [((fun _ => 0), (fun _ => 0), 2, 3, 0)], s.2))
def sp_code (x g c k : Int32) (s : hy_S) (v : Int32) (t : hy_S) : Prop := (¬ (nm_ x s.1.length ∧ ok_s g ∧ ok_l c) ∧ v = -1 ∧ t = s) ∨ ((nm_ x s.1.length ∧ ok_s g ∧ ok_l c) ∧ v = 1 ∧ ∃ (i gn : Nat) (lg : hy_L), x = nI i ∧ g = nI gn ∧ gn < 256 ∧ s.1[i]? = some lg ∧ t = (s.1.set i (upd lg.1 gn c, upd lg.2.1 gn k, lg.2.2), s.2))
def sp_ends (x a b k : Int32) (s : hy_S) (v : Int32) (t : hy_S) : Prop := (¬ (nm_ x s.1.length ∧ ok_e a ∧ ok_e b) ∧ v = -1 ∧ t = s) ∨ ((nm_ x s.1.length ∧ ok_e a ∧ ok_e b) ∧ v = 1 ∧ ∃ (i an bn : Nat) (lg : hy_L), x = nI i ∧ a = nI an ∧ an ≤ 20 ∧ b = nI bn ∧ bn ≤ 20 ∧ s.1[i]? = some lg ∧ t = (s.1.set i (lg.1, lg.2.1, an, bn, k), s.2))
def sp_next (x d : Int32) (s : hy_S) (v : Int32) (t : hy_S) : Prop := (¬ (ok_l x ∧ ok_d d) ∧ v = -1 ∧ t = s) ∨ ((ok_l x ∧ ok_d d) ∧ ¬ s.2.2.2.1.length < 12 ∧ v = -2 ∧ t = s) ∨ ((ok_l x ∧ ok_d d) ∧ s.2.2.2.1.length < 12 ∧ v = nI (s.2.2.2.1.length + 1) ∧ t = (s.1, s.2.1, s.2.2.1, s.2.2.2.1 ++ [x], s.2.2.2.2.1 ++ [d], s.2.2.2.2.2))
def sp_sign (x : Int32) (s : hy_S) (v : Int32) (t : hy_S) : Prop := (¬ ok_s x ∧ v = -1 ∧ t = s) ∨ (ok_s x ∧ ¬ s.2.2.2.2.2.1.length < 30 ∧ v = -2 ∧ t = s) ∨ (ok_s x ∧ s.2.2.2.2.2.1.length < 30 ∧ v = nI (s.2.2.2.2.2.1.length + 1) ∧ t = (s.1, s.2.1, s.2.2.1, s.2.2.2.1, s.2.2.2.2.1, s.2.2.2.2.2.1 ++ [x], s.2.2.2.2.2.2))
def sp_clear (s : hy_S) (v : Int32) (t : hy_S) : Prop := v = nI s.2.2.2.2.2.1.length ∧ t = (s.1, s.2.1, s.2.2.1, s.2.2.2.1, s.2.2.2.2.1, [], s.2.2.2.2.2.2)
def sp_at (x : Int32) (s : hy_S) (v : Int32) (t : hy_S) : Prop := t = s ∧ ((¬ nm_ x s.2.2.2.2.2.2.length ∧ v = -1) ∨ ∃ k p : Nat, x = nI k ∧ s.2.2.2.2.2.2[k]? = some p ∧ v = nI p)
def sp_patterns (s : hy_S) (v : Int32) (t : hy_S) : Prop := v = nI s.2.1.length ∧ t = s
def sp_exceptions (s : hy_S) (v : Int32) (t : hy_S) : Prop := v = nI s.2.2.1.length ∧ t = s
def sp_pattern (x d : Int32) (s : hy_S) (v : Int32) (t : hy_S) : Prop := (¬ (nm_ x s.1.length ∧ ok_d d) ∧ v = -1 ∧ t = s) ∨ ((nm_ x s.1.length ∧ ok_d d) ∧ ∃ i : Nat, x = nI i ∧ i < s.1.length ∧ (
  (¬ hy_pat s.2.2.2.1 ∧ v = -3 ∧ t = (s.1, s.2.1, s.2.2.1, [], [], s.2.2.2.2.2)) ∨
  (hy_pat s.2.2.2.1 ∧ ∃ k : Nat, fm_ s.2.1 (fun p => p.1 = i ∧ p.2.1 = s.2.2.2.1) (nI k) ∧ k < s.2.1.length ∧ v = nI k ∧ t = (s.1, s.2.1.set k (i, s.2.2.2.1, s.2.2.2.2.1 ++ [d]), s.2.2.1, [], [], s.2.2.2.2.2)) ∨
  (hy_pat s.2.2.2.1 ∧ fm_ s.2.1 (fun p => p.1 = i ∧ p.2.1 = s.2.2.2.1) (-1) ∧ ¬ (s.2.1.length < 150 ∧ hy_tot s.2.1 + s.2.2.2.1.length ≤ 900) ∧ v = -2 ∧ t = (s.1, s.2.1, s.2.2.1, [], [], s.2.2.2.2.2)) ∨
  (hy_pat s.2.2.2.1 ∧ fm_ s.2.1 (fun p => p.1 = i ∧ p.2.1 = s.2.2.2.1) (-1) ∧ (s.2.1.length < 150 ∧ hy_tot s.2.1 + s.2.2.2.1.length ≤ 900) ∧ v = nI s.2.1.length ∧ t = (s.1, s.2.1 ++ [(i, s.2.2.2.1, s.2.2.2.2.1 ++ [d])], s.2.2.1, [], [], s.2.2.2.2.2))))
def sp_exception (x b : Int32) (s : hy_S) (v : Int32) (t : hy_S) : Prop := (¬ nm_ x s.1.length ∧ v = -1 ∧ t = s) ∨ (nm_ x s.1.length ∧ ∃ (i : Nat) (lg : hy_L), x = nI i ∧ s.1[i]? = some lg ∧ (
  (¬ (0 < s.2.2.2.2.2.1.length ∧ hy_sp lg s.2.2.2.2.2.1) ∧ v = -3 ∧ t = s) ∨
  ((0 < s.2.2.2.2.2.1.length ∧ hy_sp lg s.2.2.2.2.2.1) ∧ ∃ (k : Nat) (p : hy_T), fm_ s.2.2.1 (hy_tm i (hy_let lg s.2.2.2.2.2.1)) (nI k) ∧ k < s.2.2.1.length ∧ s.2.2.1[k]? = some p ∧ v = nI k ∧ t = (s.1, s.2.1, s.2.2.1.set k (p.1, p.2.1, b), s.2.2.2)) ∨
  ((0 < s.2.2.2.2.2.1.length ∧ hy_sp lg s.2.2.2.2.2.1) ∧ fm_ s.2.2.1 (hy_tm i (hy_let lg s.2.2.2.2.2.1)) (-1) ∧ ¬ s.2.2.1.length < 40 ∧ v = -2 ∧ t = s) ∨
  ((0 < s.2.2.2.2.2.1.length ∧ hy_sp lg s.2.2.2.2.2.1) ∧ fm_ s.2.2.1 (hy_tm i (hy_let lg s.2.2.2.2.2.1)) (-1) ∧ s.2.2.1.length < 40 ∧ v = nI s.2.2.1.length ∧ t = (s.1, s.2.1, s.2.2.1 ++ [(i, hy_let lg s.2.2.2.2.2.1, b)], s.2.2.2))))
def sp_drop (x : Int32) (s : hy_S) (v : Int32) (t : hy_S) : Prop := (¬ nm_ x s.2.2.1.length ∧ v = -1 ∧ t = s) ∨ (nm_ x s.2.2.1.length ∧ v = 1 ∧ ∃ k : Nat, x = nI k ∧ k < s.2.2.1.length ∧ t = (s.1, s.2.1, s.2.2.1.eraseIdx k, s.2.2.2))
def sp_run (x : Int32) (s : hy_S) (v : Int32) (t : hy_S) : Prop := (¬ nm_ x s.1.length ∧ v = -1 ∧ t = s) ∨ (nm_ x s.1.length ∧ ∃ (i : Nat) (lg : hy_L), x = nI i ∧ s.1[i]? = some lg ∧ (
  ((hy_wh lg s.2.2.2.2.2.1 ∨ ¬ hy_sp lg s.2.2.2.2.2.1) ∧ v = 0 ∧ t = (s.1, s.2.1, s.2.2.1, s.2.2.2.1, s.2.2.2.2.1, s.2.2.2.2.2.1, [])) ∨
  (¬ (hy_wh lg s.2.2.2.2.2.1 ∨ ¬ hy_sp lg s.2.2.2.2.2.1) ∧ v = nI (hy_pls s.2.1 s.2.2.1 i lg s.2.2.2.2.2.1 s.2.2.2.2.2.1.length).length ∧ t = (s.1, s.2.1, s.2.2.1, s.2.2.2.1, s.2.2.2.2.1, s.2.2.2.2.2.1, hy_pls s.2.1 s.2.2.1 i lg s.2.2.2.2.2.1 s.2.2.2.2.2.1.length))))
def sp_digit (x y : Int32) (s : hy_S) (v : Int32) (t : hy_S) : Prop := t = s ∧ ((¬ (nm_ x s.1.length ∧ ¬ y < 0 ∧ ¬ nI s.2.2.2.2.2.1.length < y) ∧ v = -1) ∨ ((nm_ x s.1.length ∧ ¬ y < 0 ∧ ¬ nI s.2.2.2.2.2.1.length < y) ∧ ∃ (i k : Nat) (lg : hy_L), x = nI i ∧ y = nI k ∧ k ≤ s.2.2.2.2.2.1.length ∧ s.1[i]? = some lg ∧ ((¬ hy_sp lg s.2.2.2.2.2.1 ∧ v = 0) ∨ (hy_sp lg s.2.2.2.2.2.1 ∧ hy_dig s.2.1 s.2.2.1 i (hy_let lg s.2.2.2.2.2.1) k v))))
/-! THE CLASS'S OTHER PARTS behind a write of one of its own cells -/
def hs_ (G : ev_G) (w : wd_M) (tg : Nat → Nat) (B E : Nat → Nat) (la pa ta : List Nat) (Ls : List hy_L) (Ps : List hy_P) (Ts : List hy_T) : Prop :=
  (al_ G w (B 0) (E 0) la ∧ al_ G w (B 1) (E 1) pa ∧ al_ G w (B 2) (E 2) ta ∧ ∀ i, i < 3 → w (E i) ≠ none → tg (E i) = 11 + i) ∧ la_ G w tg la Ls ∧ pa_ G w tg pa Ps ∧ ta_ G w tg ta Ts
theorem kp_tr {w w1 w2 : wd_M} {tg : Nat → Nat} {P : Nat → Prop} (h1 : kp_ w w1 tg P) (h2 : kp_ w1 w2 tg P) : kp_ w w2 tg P := fun x hx hp => by
  rw [h2 x (by rw [h1 x hx hp]; exact hx) hp, h1 x hx hp]
theorem kp_rf {w : wd_M} {tg : Nat → Nat} {P : Nat → Prop} : kp_ w w tg P := fun _ _ _ => rfl
theorem ex_rf {w : wd_M} {tg : Nat → Nat} : ex_ w tg tg := fun _ _ => rfl
theorem al_up0 {G : ev_G} {w w1 : wd_M} {a e b : Nat} {els : List Nat} {x : Option va_E} (h : al_ G w a e els) (h1 : a ≠ b) (h2 : w e ≠ none → e ≠ b) (e1 : w1 = va_up w b x) : al_ G w1 a e els := by
  refine al_keep h (by rw [e1, va_up_ne _ _ h1]) (fun q => by rw [e1, va_up_ne _ _ (h2 q)])
theorem hs_up {G : ev_G} {w w1 : wd_M} {tg : Nat → Nat} {B E : Nat → Nat} {la pa ta : List Nat} {Ls : List hy_L} {Ps : List hy_P} {Ts : List hy_T} {a : Nat} {x y : va_E} (h : hs_ G w tg B E la pa ta Ls Ps Ts) (hLs : Ls.length ≤ 4) (hPs : Ps.length ≤ 150) (hB : ∀ i, i < 3 → tg (B i) = 2 + i) (ha : w a = some y) (e1 : w1 = va_up w a (some x)) (ht : tg a = 1 ∨ (5 ≤ tg a ∧ tg a < 11)) : hs_ G w1 tg B E la pa ta Ls Ps Ts := by
  obtain ⟨⟨h0, h1, h2, hE⟩, hl, hp, h3⟩ := h
  have nB : ∀ i, i < 3 → B i ≠ a := fun i hi => tg_ne (tg := tg) (by rw [hB i hi]; omega)
  have nE : ∀ i, i < 3 → w (E i) ≠ none → E i ≠ a := fun i hi hn => tg_ne (tg := tg) (by rw [hE i hi hn]; omega)
  refine ⟨⟨al_up0 h0 (nB 0 (by omega)) (nE 0 (by omega)) e1, al_up0 h1 (nB 1 (by omega)) (nE 1 (by omega)) e1, al_up0 h2 (nB 2 (by omega)) (nE 2 (by omega)) e1, fun i hi hn => hE i hi (fun q => hn ?_)⟩, la_keep hl (up_kp e1 (by show ¬ (_ ∧ _); omega)) ex_rf hLs, pa_keep hp (up_kp e1 (by show ¬ (_ ∧ _); omega)) ex_rf hPs, ta_keep h3 (up_kp e1 (by show ¬ (_ ≤ _); omega)) ex_rf⟩
  rw [e1]
  exact (up_dom ha).mpr q
