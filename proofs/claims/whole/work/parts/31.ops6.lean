/-! ===== pure level: the calls, class beside model (6): turners, ashore; laid by mkops6.py ===== -/
def asT (h : Nat) (t : Nat → Nat) : Nat → Nat := updN t (14 + 5 * h) 0
def ltF (v : Int32) : Int32 := if v = -9 then 61 else v
section PC6
variable {g : Nat} {t : Nat → Nat} {np nh na ns nd : Int32} {nc nk nf nl nse : Nat → Int32}
theorem asT_ne {h k : Nat} (e : k < 14 ∨ (k - 14) % 5 ≠ 0) : asT h t k = t k := updN_ne (by omega)
theorem WF.ash (w : WF t) {j : Nat} (hj : j < t 1) : WF (asT j t) := w.updH (j := 4) hj (by omega) ⟨by omega, by omega, by omega, by omega, fun _ => by omega⟩
theorem vAsh (w : WF t) {j : Nat} (hj : j < t 1) : fX3_leaveAshore g (nI j) (nI (abT t)) = some (nI (abT (asT j t))) := by
  have h7 := w.2.1
  unfold fX3_leaveAshore
  have q := and7 _ w.ab_lt j (by omega)
  rw [q.1]
  congr 2
  have e1 : asT j t 1 = t 1 := asT_ne (by omega)
  have hlt := abN_lt (t := t) (t 1) (fun h hh => (w.2.2.2.2.1 h hh).2.2.2.2)
  refine ab_uniq ?_ ?_
  · rw [e1]; exact Nat.lt_of_le_of_lt (Nat.sub_le _ _) hlt
  · intro h hh
    rw [e1] at hh
    rw [q.2 h (by omega), w.ab_bit hh]
    unfold asT updN
    by_cases e : h = j
    · rw [if_pos e, if_pos (by omega)]
    · rw [if_neg e, if_neg (by omega)]
theorem cT_ab (w : WF t) {t' : Nat → Nat} (e : ∀ k, (k < 14 ∨ (k - 14) % 5 ≠ 0) → t' k = t k) {h : Nat} (hh : h < t 1) : cT t' h = cT t h := by
  have h6 := w.1
  have hq := (w.2.2.2.2.1 h hh).2.2.1
  unfold cT
  rw [e (12 + 5 * h) (by omega), e _ (by omega)]
theorem lnT_ab (w : WF t) {t' : Nat → Nat} (e : ∀ k, (k < 14 ∨ (k - 14) % 5 ≠ 0) → t' k = t k) {h : Nat} (hh : h < t 1) : lnT t' h = lnT t h := by
  unfold lnT xT fT
  rw [cT_ab w e hh, e (10 + 5 * h) (by omega), e (13 + 5 * h) (by omega), e (11 + 5 * h) (by omega), e 3 (by omega)]
theorem roT_ab (w : WF t) {t' : Nat → Nat} (e : ∀ k, (k < 14 ∨ (k - 14) % 5 ≠ 0) → t' k = t k) {h : Nat} (hh : h < t 1) : roT t' h = roT t h ∧ coT t' h = coT t h := by
  unfold roT coT
  rw [cT_ab w e hh, e 3 (by omega)]
  exact ⟨rfl, rfl⟩
theorem plT_as (w : WF t) {h : Nat} (hh : h < t 1) (x : Int32) : plT (asT h t) x (-9) = plT t x (nI h) := by
  have h7 := w.2.1
  unfold plT
  rw [asT_ne (show 1 < 14 ∨ _ by omega)]
  refine it_congr _ _ _ (fun j _ hj b => ?_)
  have z := roT_ab w (t' := asT h t) (fun k e => asT_ne e) (h := j) (by omega)
  unfold plS
  rw [if_neg (n9 (by omega)), lnT_ab w (t' := asT h t) (fun k e => asT_ne e) (h := j) (by omega), z.1, z.2]
  by_cases e : j = h
  · subst e
    rw [if_pos rfl, if_neg (show ¬ asT j t (14 + 5 * j) = 1 by unfold asT; rw [updN_eq]; omega)]
  · rw [if_neg (show ¬ nI j = nI h from fun q => e ((nI_eq (by omega) (by omega)).mp q)), show asT h t (14 + 5 * j) = t (14 + 5 * j) from updN_ne (by omega)]
theorem ndT_as (w : WF t) {h : Nat} (hh : h < t 1) : ndT (asT h t) (-9) = ndT t (nI h) := by
  unfold ndT
  rw [plT_as w hh, plT_as w hh]
theorem turn_L (w : WF t) (hg : big g) (R : RV t np nh na ns nd nc nk nf nl nse) : ∀ (d k n n' : Nat) (a : Int32) (tp th ta ts td tx ty : Int32) (tc tk tf tl te : Nat → Int32), k + d = t 1 → d < n → d < n' → ∃ r o1 o2 o3 o4 o5 o6 o7 o8 o9 o10 o11 o12, fX4_turners_L12 g (ndT t (-9)) np nh na ns nd nc nk nf nl nse n a (nI k) tp th ta ts td tx ty tc tk tf tl te = some (r, o1, o2, o3, o4, o5, o6, o7, o8, o9, o10, o11, o12) ∧ fX5_turners_L4 g (rw1 t) n' a (nI k) = some r := by
  have h7 := w.2.1
  intro d
  induction d with
  | zero =>
    intro k n n' a tp th ta ts td tx ty tc tk tf tl te hk hn hn'
    obtain ⟨n, rfl⟩ : ∃ m, n = m + 1 := ⟨n - 1, by omega⟩
    obtain ⟨n', rfl⟩ : ∃ m, n' = m + 1 := ⟨n' - 1, by omega⟩
    refine ⟨a, tp, th, ta, ts, td, tx, ty, tc, tk, tf, tl, te, ?_, ?_⟩
    · show fX4_turners_L12_b g (ndT t (-9)) np nh na ns nd nc nk nf nl nse _ a (nI k) tp th ta ts td tx ty tc tk tf tl te = _
      unfold fX4_turners_L12_b
      rw [R.2.1, if_pos (nI_le (by omega) (by omega))]
    · show fX5_turners_L4_b g (rw1 t) _ a (nI k) = _
      unfold fX5_turners_L4_b
      rw [if_pos (show rw1 t 1 ≤ nI k from nI_le (by omega) (by omega))]
  | succ d ih =>
    intro k n n' a tp th ta ts td tx ty tc tk tf tl te hk hn hn'
    obtain ⟨n, rfl⟩ : ∃ m, n = m + 1 := ⟨n - 1, by omega⟩
    obtain ⟨n', rfl⟩ : ∃ m, n' = m + 1 := ⟨n' - 1, by omega⟩
    show ∃ r o1 o2 o3 o4 o5 o6 o7 o8 o9 o10 o11 o12, fX4_turners_L12_b g (ndT t (-9)) np nh na ns nd nc nk nf nl nse (fX4_turners_L12 g (ndT t (-9)) np nh na ns nd nc nk nf nl nse n) a (nI k) tp th ta ts td tx ty tc tk tf tl te = some (r, o1, o2, o3, o4, o5, o6, o7, o8, o9, o10, o11, o12) ∧ fX5_turners_L4_b g (rw1 t) (fX5_turners_L4 g (rw1 t) n') a (nI k) = some r
    have hk1 : k < t 1 := by omega
    have va : fX3_isAboard g (nI k) na = some (if t (14 + 5 * k) = 1 then 1 else 0) := by rw [R.2.2.1]; exact vAboard w hk1
    obtain ⟨c, kk, f, l, se, h1, R1⟩ := vThink (g := g) w R tc tk tf tl te
    have v2 : fX3_leaveAshore g (nI k) na = some (nI (abT (asT k t))) := by rw [R.2.2.1]; exact vAsh w hk1
    have R2 := R1.abd w (t' := asT k t) (fun j e => asT_ne e)
    have v3 := vPoints (g := g) (w.ash hk1) hg R2
    rw [ndT_as w hk1] at v3
    unfold fX4_turners_L12_b fX5_turners_L4_b
    rw [if_neg (show ¬ nh ≤ nI k by rw [R.2.1]; exact nI_ge (by omega) (by omega)), if_neg (show ¬ rw1 t 1 ≤ nI k from nI_ge (by omega) (by omega)), va, bd1_s, mAboard w hk1, bd1_s, h1, bd10_s, v2, bd1_s, v3, bd3_s, mNeedle w hg, bd1_s, mNeedle w hg, bd1_s, nI_1, Int32.or_zero]
    by_cases e : t (14 + 5 * k) = 1
    · simp only [e, if_true, z10, if_false]
      by_cases e2 : ndT t (nI k) = ndT t (-9)
      · simp only [if_pos e2]
        exact ih (k + 1) n n' _ _ _ _ _ _ _ _ _ _ _ _ _ (by omega) (by omega) (by omega)
      · simp only [if_neg e2]
        exact ih (k + 1) n n' _ _ _ _ _ _ _ _ _ _ _ _ _ (by omega) (by omega) (by omega)
    · simp only [e, if_true, if_false]
      exact ih (k + 1) n n' _ _ _ _ _ _ _ _ _ _ _ _ _ (by omega) (by omega) (by omega)
theorem oTurners (w : WF t) (hg : big g) (R : RV t np nh na ns nd nc nk nf nl nse) (tp th ta ts td tx ty : Int32) (tc tk tf tl te : Nat → Int32) : ∃ r x y o1 o2 o3 o4 o5 o6 o7 o8 o9 o10 o11 o12, fX4_turners g np nh na ns nd nc nk nf nl nse tp th ta ts td tx ty tc tk tf tl te = some (r, x, y, o1, o2, o3, o4, o5, o6, o7, o8, o9, o10, o11, o12) ∧ fX5_turners g (rw1 t) = some r := by
  have h7 := w.2.1
  have hg' : 100000000000000000000 ≤ g := hg
  obtain ⟨r, o1, o2, o3, o4, o5, o6, o7, o8, o9, o10, o11, o12, h1, h2⟩ := turn_L (g := g) w hg R (t 1) 0 g g 0 tp th ta ts td tx ty tc tk tf tl te (by omega) (by omega) (by omega)
  refine ⟨r, plT t 0 (-9), plT t 1 (-9), o1, o2, o3, o4, o5, o6, o7, o8, o9, o10, o11, o12, ?_, ?_⟩
  · unfold fX4_turners
    rw [vPoints w hg R, bd3_s]
    show bd13 (fX4_turners_L12 g (ndT t (-9)) np nh na ns nd nc nk nf nl nse g 0 (nI 0) tp th ta ts td tx ty tc tk tf tl te) _ = _
    rw [h1, bd13_s]
  · unfold fX5_turners
    show bd1 (fX5_turners_L4 g (rw1 t) g 0 (nI 0)) _ = _
    rw [h2, bd1_s]
theorem fd_lt (p : (Nat → Nat) → Bool) : ∀ (d k : Nat) (t : Nat → Nat) {q : Nat × (Nat → Nat)}, fdT p d k t = some q → q.1 < k + d
  | 0, _, _, _, h => by cases h
  | d + 1, k, t, q, h => by
    unfold fdT at h
    split at h
    · cases h; show k < k + (d + 1); omega
    · have := fd_lt p d (k + 1) (dyT t) h; omega
theorem cm_or (c W : Nat) (t : Nat → Nat) : cmT c W t = -9 ∨ ∃ k, k ≤ W ∧ cmT c W t = nI k := by
  unfold cmT
  cases h : fdT (fun t => t 3 == c) (W + 1) 0 t with
  | none => exact Or.inl rfl
  | some q => exact Or.inr ⟨q.1, by have := fd_lt _ _ _ _ h; omega, rfl⟩
theorem cLate (v : Int32) : fX4_orLate g v = some (ltF v) := by unfold fX4_orLate ltF; split <;> rfl
theorem mNever {c W : Nat} (hW : W < 1000) : fX5_orNever g (cmT c W t) = some (ltF (cmT c W t)) := by
  unfold fX5_orNever ltF
  rcases cm_or c W t with h | ⟨k, hk, h⟩
  · rw [h]; rfl
  · rw [h, if_pos (nI_pos' (by omega)), if_neg (n9 (by omega))]
theorem ash_L (w : WF t) (hg : big g) (R : RV t np nh na ns nd nc nk nf nl nse) {p : Nat} (hp : p < t 0) : ∀ (d k n n' : Nat) (a b : Int32) (tp th ta ts td tx ty : Int32) (tc tk tf tl te : Nat → Int32) (u : Nat → Nat), z45 u → k + d = t 1 → d < n → d < n' → ∃ r v o1 o2 o3 o4 o5 o6 o7 o8 o9 o10 o11 o12, fX4_ashore_L41 g (nI p) np nh na ns nd nc nk nf nl nse n a b (nI k) tp th ta ts td tx ty tc tk tf tl te = some (r, o1, o2, o3, o4, o5, o6, o7, o8, o9, o10, o11, o12) ∧ fX5_ashore_L29 g (nI p) (rw1 t) n' a b (nI k) (rw1 u) = some (r, rw1 v) ∧ z45 v := by
  have h7 := w.2.1
  have h6 := w.1
  intro d
  induction d with
  | zero =>
    intro k n n' a b tp th ta ts td tx ty tc tk tf tl te u hu hk hn hn'
    obtain ⟨n, rfl⟩ : ∃ m, n = m + 1 := ⟨n - 1, by omega⟩
    obtain ⟨n', rfl⟩ : ∃ m, n' = m + 1 := ⟨n' - 1, by omega⟩
    refine ⟨b, u, tp, th, ta, ts, td, tx, ty, tc, tk, tf, tl, te, ?_, ?_, hu⟩
    · show fX4_ashore_L41_b g (nI p) np nh na ns nd nc nk nf nl nse _ a b (nI k) tp th ta ts td tx ty tc tk tf tl te = _
      unfold fX4_ashore_L41_b
      rw [R.2.1, if_pos (nI_le (by omega) (by omega))]
    · show fX5_ashore_L29_b g (nI p) (rw1 t) _ a b (nI k) (rw1 u) = _
      unfold fX5_ashore_L29_b
      rw [if_pos (show rw1 t 1 ≤ nI k from nI_le (by omega) (by omega))]
  | succ d ih =>
    intro k n n' a b tp th ta ts td tx ty tc tk tf tl te u hu hk hn hn'
    obtain ⟨n, rfl⟩ : ∃ m, n = m + 1 := ⟨n - 1, by omega⟩
    obtain ⟨n', rfl⟩ : ∃ m, n' = m + 1 := ⟨n' - 1, by omega⟩
    show ∃ r v o1 o2 o3 o4 o5 o6 o7 o8 o9 o10 o11 o12, fX4_ashore_L41_b g (nI p) np nh na ns nd nc nk nf nl nse (fX4_ashore_L41 g (nI p) np nh na ns nd nc nk nf nl nse n) a b (nI k) tp th ta ts td tx ty tc tk tf tl te = some (r, o1, o2, o3, o4, o5, o6, o7, o8, o9, o10, o11, o12) ∧ fX5_ashore_L29_b g (nI p) (rw1 t) (fX5_ashore_L29 g (nI p) (rw1 t) n') a b (nI k) (rw1 u) = some (r, rw1 v) ∧ z45 v
    have hk1 : k < t 1 := by omega
    have h4 := w.2.2.2.1 p hp
    obtain ⟨c, kk, f, l, se, h1, R1⟩ := vThink (g := g) w R tc tk tf tl te
    have v2 : fX3_leaveAshore g (nI k) na = some (nI (abT (asT k t))) := by rw [R.2.2.1]; exact vAsh w hk1
    have R2 := R1.abd w (t' := asT k t) (fun j e => asT_ne e)
    have e0 : asT k t 0 = t 0 := asT_ne (by omega)
    have e4 : asT k t (4 + p) = t (4 + p) := asT_ne (by omega)
    obtain ⟨b1, b2, b3, b4, b5, v3⟩ := vReach (g := g) hg (w.ash hk1) R2 (p := p) (W := 60) (by rw [e0]; exact hp) (by omega) tx ty
    rw [e4] at v3
    obtain ⟨v, v4, hv⟩ := mComes (g := g) hg (w.ash hk1) (c := t (4 + p)) (W := 60) (by omega) (by omega)
    have up : upd (rw1 t) (14 + 5 * k) 0 = rw1 (asT k t) := upd_rw t (14 + 5 * k) 0
    have v3 : fX3_reaches g (nI p) 60 nh (nI (abT (asT k t))) ns nd tx ty c kk f l se = some (cmT (t (4 + p)) 60 (asT k t), b1, b2, b3, b4, b5) := v3
    have v4 : fX5_comesIn g (nI (t (4 + p))) 60 (rw1 (asT k t)) = some (cmT (t (4 + p)) 60 (asT k t), rw1 v) := v4
    unfold fX4_ashore_L41_b fX5_ashore_L29_b
    rw [if_neg (show ¬ nh ≤ nI k by rw [R.2.1]; exact nI_ge (by omega) (by omega)), if_neg (show ¬ rw1 t 1 ≤ nI k from nI_ge (by omega) (by omega)), h1, bd10_s, v2, bd1_s, v3, bd6_s, cLate, bd1_s, mCopies hg w.z hu, bd1_s, of4, bd1_s, gdn (by omega) (by decide), nI_clamp (by omega), up, show (4 : Int32) + nI p = nI (4 + p) from nI_add 4 p, gdn (by omega) (by decide), nI_clamp (by omega)]
    show ∃ r v o1 o2 o3 o4 o5 o6 o7 o8 o9 o10 o11 o12, _ ∧ (bd2 (fX5_comesIn g (nI (t (4 + p))) 60 (rw1 (asT k t))) _) = _ ∧ z45 v
    rw [v4, bd2_s, mNever (by omega), bd1_s, nI_1]
    by_cases e : a ≤ ltF (cmT (t (4 + p)) 60 (asT k t))
    · simp only [if_pos e, if_neg (Int32.not_lt.mpr e)]
      exact ih (k + 1) n n' _ _ _ _ _ _ _ _ _ _ _ _ _ _ v hv.z (by omega) (by omega) (by omega)
    · simp only [if_neg e, if_pos (Int32.not_le.mp e)]
      exact ih (k + 1) n n' _ _ _ _ _ _ _ _ _ _ _ _ _ _ v hv.z (by omega) (by omega) (by omega)
theorem oAshore (w : WF t) (hg : big g) (R : RV t np nh na ns nd nc nk nf nl nse) (rf : Nat → Int32) (p0 : Int32) (tp th ta ts td tx ty : Int32) (tc tk tf tl te : Nat → Int32) {u : Nat → Nat} (hu : z45 u) : ∃ r u' rf' o1 o2 o3 o4 o5 o6 o7 o8 o9 o10 o11 o12, fX4_ashore g p0 np nh na ns nd nc nk nf nl nse tp th ta ts td tx ty tc tk tf tl te rf = some (r, o1, o2, o3, o4, o5, o6, o7, o8, o9, o10, o11, o12, rf') ∧ fX5_ashore g p0 (rw1 t) (rw1 u) rf = some (r, rw1 u', rf') ∧ z45 u' := by
  have h6 := w.1
  have h7 := w.2.1
  have hg' : 100000000000000000000 ≤ g := hg
  unfold fX4_ashore fX5_ashore
  rw [cNoPlace, bd1_s]
  rcases tri_or p0 (n := t 0) (by omega) with h | ⟨j, hj, rfl⟩
  · refine ⟨-1, u, rfz (-1) rf, tp, th, ta, ts, td, tx, ty, tc, tk, tf, tl, te, ?_, ?_, hu⟩
    · rw [R.1, nh_bad (by omega) h, if_neg zm1, rZ4 ok1, bd2_s]
    · rw [mPl_bad w h, bd1_s, if_pos z00, rZ5 ok1, bd2_s]
  · have a1 : nhF (nI j) np = 0 := by rw [R.1]; exact nh_ok hj (by omega)
    obtain ⟨c, k, f, l, se0, h1, R1⟩ := vThink (g := g) w R tc tk tf tl te
    obtain ⟨b1, b2, b3, b4, b5, h2⟩ := vReach (g := g) hg w R1 (p := j) (W := 60) hj (by omega) tx ty
    have h2 : fX3_reaches g (nI j) 60 nh na ns nd tx ty c k f l se0 = some (cmT (t (4 + j)) 60 t, b1, b2, b3, b4, b5) := h2
    obtain ⟨v, h3, hv⟩ := mComesTo w hg hu hj
    obtain ⟨r, v2, o1, o2, o3, o4, o5, o6, o7, o8, o9, o10, o11, o12, q1, q2, q3⟩ := ash_L (g := g) w hg R hj (t 1) 0 g g (ltF (cmT (t (4 + j)) 60 t)) (-9) np nh na b1 b2 b3 b4 c k f l b5 v hv (by omega) (by omega) (by omega)
    refine ⟨r, v2, rf, o1, o2, o3, o4, o5, o6, o7, o8, o9, o10, o11, o12, ?_, ?_, q3⟩
    · rw [a1, if_pos z00, h1, bd10_s, h2, bd6_s, cLate, bd1_s]
      show bd13 (fX4_ashore_L41 g (nI j) np nh na ns nd nc nk nf nl nse g _ (-9) (nI 0) _ _ _ _ _ _ _ _ _ _ _ _) _ = _
      rw [q1, bd13_s]
    · rw [mPl_ok w hj, bd1_s, if_neg z10, h3, bd2_s, mNever (by omega), bd1_s]
      show bd2 (fX5_ashore_L29 g (nI j) (rw1 t) g _ (-9) (nI 0) _) _ = _
      rw [q2, bd2_s]
end PC6
