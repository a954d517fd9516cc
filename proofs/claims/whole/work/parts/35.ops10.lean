/-! ===== pure level: the calls, class beside model (10): judge, log; laid by mkops10.py ===== -/
/-- the ship follows the row of numbers -/
def foT (nu : Nat → Int32) : Nat → Nat → (Nat → Nat) → Bool
  | 0, _, _ => true
  | d + 1, k, t => if nI (t 3) = nu k then foT nu d (k + 1) (dyT t) else false
section PC10
variable {g : Nat} {t : Nat → Nat} {np nh na ns nd : Int32} {nc nk nf nl nse : Nat → Int32}
theorem nd_pos (t : Nat → Nat) (b : Int32) : 0 ≤ ndT t b ↔ ¬ ndT t b = -9 := by
  rw [← nd_neg t b]
  exact Int32.not_lt.symm
theorem judge_L (hg : big g) (nu : Nat → Int32) {K : Nat} (hK : K ≤ 16) : ∀ (d k n n' : Nat) (t : Nat → Nat) (ns nd x y : Int32) (nse : Nat → Int32), WF t → RV t np nh na ns nd nc nk nf nl nse → k + d = K → d < n → d < n' → ∃ z z', fX4_firstWrongCourse_L6 g (nI K) np nh na nc nk nf nl nu n (nI k) ns nd x y nse = some z ∧ fX5_judge_L23 g (nI K) 0 nu n' (nI k) (rw1 t) = some z' ∧ ((∃ v o1 o2 o3 o4 o5, z = .inl (o1, o2, o3, o4, o5) ∧ z' = .inl (rw1 v) ∧ WF v) ∨ ∃ r v o1 o2 o3 o4 o5 o6 o7 o8 o9 o10 o11 o12, z = .inr (r, o1, o2, o3, o4, o5, o6, o7, o8, o9, o10, o11, o12) ∧ z' = .inr (r, 0, rw1 v) ∧ WF v) := by
  intro d
  induction d with
  | zero =>
    intro k n n' t ns nd x y nse w R hk hn hn'
    obtain ⟨n, rfl⟩ : ∃ m, n = m + 1 := ⟨n - 1, by omega⟩
    obtain ⟨n', rfl⟩ : ∃ m, n' = m + 1 := ⟨n' - 1, by omega⟩
    refine ⟨.inl (ns, nd, x, y, nse), .inl (rw1 t), ?_, ?_, Or.inl ⟨t, ns, nd, x, y, nse, rfl, rfl, w⟩⟩
    · show fX4_firstWrongCourse_L6_b g (nI K) np nh na nc nk nf nl nu _ (nI k) ns nd x y nse = _
      unfold fX4_firstWrongCourse_L6_b
      rw [if_pos (nI_le (by omega) (by omega))]
    · show fX5_judge_L23_b g (nI K) 0 nu _ (nI k) (rw1 t) = _
      unfold fX5_judge_L23_b
      rw [if_pos (nI_le (by omega) (by omega))]
  | succ d ih =>
    intro k n n' t ns nd x y nse w R hk hn hn'
    obtain ⟨n, rfl⟩ : ∃ m, n = m + 1 := ⟨n - 1, by omega⟩
    obtain ⟨n', rfl⟩ : ∃ m, n' = m + 1 := ⟨n' - 1, by omega⟩
    show ∃ z z', fX4_firstWrongCourse_L6_b g (nI K) np nh na nc nk nf nl nu (fX4_firstWrongCourse_L6 g (nI K) np nh na nc nk nf nl nu n) (nI k) ns nd x y nse = some z ∧ fX5_judge_L23_b g (nI K) 0 nu (fX5_judge_L23 g (nI K) 0 nu n') (nI k) (rw1 t) = some z' ∧ _
    obtain ⟨x', y', se, g1, g2⟩ := vGoDay (g := g) w hg R
    unfold fX4_firstWrongCourse_L6_b fX5_judge_L23_b
    rw [if_neg (nI_ge (by omega) (by omega)), if_neg (nI_ge (by omega) (by omega)), vPoints w hg R, bd3_s, g1, mNeedle w hg, bd1_s, mDay w hg, nI_1]
    simp only [bd6_s, bd1_s, gdn (show k < 16 by omega) (show 16 < 2 ^ 31 by decide), nI_clamp (show k < 2 ^ 31 by omega)]
    by_cases e : ndT t (-9) = -9
    · rw [if_pos e, if_neg (fun h => (nd_pos t (-9)).mp h e)]
      by_cases e2 : nu k = 9
      · rw [if_pos e2, if_pos e2.symm]
        exact ih (k + 1) n n' _ _ _ _ _ _ w.day g2 (by omega) (by omega) (by omega)
      · rw [if_neg e2, if_neg (fun h => e2 h.symm)]
        exact ⟨_, _, rfl, rfl, Or.inr ⟨_, t, _, _, _, _, _, _, _, _, _, _, _, _, rfl, rfl, w⟩⟩
    · rw [if_neg e, if_pos ((nd_pos t (-9)).mpr e)]
      by_cases e2 : nu k = ndT t (-9)
      · rw [if_pos e2, if_pos e2.symm]
        exact ih (k + 1) n n' _ _ _ _ _ _ w.day g2 (by omega) (by omega) (by omega)
      · rw [if_neg e2, if_neg (fun h => e2 h.symm)]
        exact ⟨_, _, rfl, rfl, Or.inr ⟨_, t, _, _, _, _, _, _, _, _, _, _, _, _, rfl, rfl, w⟩⟩
theorem oJudge (w : WF t) (hg : big g) (R : RV t np nh na ns nd nc nk nf nl nse) (nu : Nat → Int32) {K : Nat} (hK : K ≤ 16) (tx ty : Int32) (tc tk tf tl te : Nat → Int32) {u : Nat → Nat} (hu : z45 u) : ∃ r u' o1 o2 o3 o4 o5 o6 o7 o8 o9 o10 o11 o12, fX4_judge g (nI K) np nh na ns nd nc nk nf nl nse tx ty tc tk tf tl te nu = some (r, 0, o1, o2, o3, o4, o5, o6, o7, o8, o9, o10, o11, o12) ∧ fX5_judge g (nI K) (rw1 t) (rw1 u) nu = some (r, 0, rw1 u') ∧ z45 u' := by
  have hg' : 100000000000000000000 ≤ g := hg
  obtain ⟨c, kk, f, l, se, h1, R1⟩ := vThink (g := g) w R tc tk tf tl te
  obtain ⟨z, z', q1, q2, q3⟩ := judge_L (g := g) hg nu hK K 0 g g t ns nd tx ty se w R1 (by omega) (by omega) (by omega)
  have q1 : fX4_firstWrongCourse_L6 g (nI K) np nh na c kk f l nu g 0 ns nd tx ty se = some z := q1
  have q2 : fX5_judge_L23 g (nI K) 0 nu g 0 (rw1 t) = some z' := q2
  unfold fX4_judge fX4_firstWrongCourse fX5_judge
  rw [h1, bd10_s, q1, mCopies hg w.z hu, bd1_s, q2]
  rcases q3 with ⟨v, o1, o2, o3, o4, o5, rfl, rfl, hv⟩ | ⟨r, v, o1, o2, o3, o4, o5, o6, o7, o8, o9, o10, o11, o12, rfl, rfl, hv⟩
  · exact ⟨-9, v, _, _, _, _, _, _, _, _, _, _, _, _, rfl, rfl, hv.z⟩
  · exact ⟨r, v, o1, o2, o3, o4, o5, o6, o7, o8, o9, o10, o11, o12, rfl, rfl, hv.z⟩
theorem fol_L (hg : big g) (nu : Nat → Int32) {K : Nat} (hK : K ≤ 16) : ∀ (d k n : Nat) (t : Nat → Nat) (ns nd x y : Int32) (nse : Nat → Int32), WF t → RV t np nh na ns nd nc nk nf nl nse → k + d = K → d < n → ∃ z, fX4_thoughtFollowsRow_L2 g (nI K) nh na nc nk nf nl nu n (nI k) ns nd x y nse = some z ∧ ((foT nu d k t = true ∧ ∃ o1 o2 o3 o4 o5, z = .inl (o1, o2, o3, o4, o5)) ∨ (foT nu d k t = false ∧ ∃ o1 o2 o3 o4 o5, z = .inr (0, o1, o2, o3, o4, o5))) := by
  intro d
  induction d with
  | zero =>
    intro k n t ns nd x y nse w R hk hn
    obtain ⟨n, rfl⟩ : ∃ m, n = m + 1 := ⟨n - 1, by omega⟩
    refine ⟨.inl (ns, nd, x, y, nse), ?_, Or.inl ⟨rfl, ns, nd, x, y, nse, rfl⟩⟩
    show fX4_thoughtFollowsRow_L2_b g (nI K) nh na nc nk nf nl nu _ (nI k) ns nd x y nse = _
    unfold fX4_thoughtFollowsRow_L2_b
    rw [if_pos (nI_le (by omega) (by omega))]
  | succ d ih =>
    intro k n t ns nd x y nse w R hk hn
    obtain ⟨n, rfl⟩ : ∃ m, n = m + 1 := ⟨n - 1, by omega⟩
    show ∃ z, fX4_thoughtFollowsRow_L2_b g (nI K) nh na nc nk nf nl nu (fX4_thoughtFollowsRow_L2 g (nI K) nh na nc nk nf nl nu n) (nI k) ns nd x y nse = some z ∧ _
    obtain ⟨x', y', se, g1, g2⟩ := vGoDay (g := g) w hg R
    unfold fX4_thoughtFollowsRow_L2_b foT
    rw [if_neg (nI_ge (by omega) (by omega)), gdn (by omega) (by decide), g1, bd6_s, nI_1]
    simp only [nI_clamp (show k < 2 ^ 31 by omega), R.2.2.2.1]
    by_cases e : nI (t 3) = nu k
    · rw [if_pos e, if_pos e]
      exact ih (k + 1) n _ _ _ _ _ _ w.day g2 (by omega) (by omega)
    · rw [if_neg e, if_neg e]
      exact ⟨_, rfl, Or.inr ⟨rfl, _, _, _, _, _, rfl⟩⟩
theorem vFol (w : WF t) (hg : big g) (R : RV t np nh na ns nd nc nk nf nl nse) (nu : Nat → Int32) {K : Nat} (hK : K ≤ 16) (x y : Int32) : ∃ r o1 o2 o3 o4 o5, fX4_thoughtFollowsRow g (nI K) nh na ns nd x y nc nk nf nl nse nu = some (r, o1, o2, o3, o4, o5) ∧ ((foT nu K 0 t = true ∧ r = 1) ∨ (foT nu K 0 t = false ∧ r = 0)) := by
  have hg' : 100000000000000000000 ≤ g := hg
  obtain ⟨z, z1, z2⟩ := fol_L (g := g) hg nu hK K 0 g t ns nd x y nse w R (by omega) (by omega)
  have z1 : fX4_thoughtFollowsRow_L2 g (nI K) nh na nc nk nf nl nu g 0 ns nd x y nse = some z := z1
  unfold fX4_thoughtFollowsRow
  rw [z1]
  rcases z2 with ⟨h, o1, o2, o3, o4, o5, rfl⟩ | ⟨h, o1, o2, o3, o4, o5, rfl⟩
  · exact ⟨1, o1, o2, o3, o4, o5, rfl, Or.inl ⟨h, rfl⟩⟩
  · exact ⟨0, o1, o2, o3, o4, o5, rfl, Or.inr ⟨h, rfl⟩⟩
theorem a11 {a : Int32} (h : a = 0 ∨ a = 1) : a &&& 1 = a ∧ a &&& 0 = 0 := by rcases h with rfl | rfl <;> decide
theorem mFol_L (hg : big g) (nu : Nat → Int32) {K : Nat} (hK : K ≤ 16) : ∀ (d k n : Nat) (t : Nat → Nat) (a : Int32), WF t → (a = 0 ∨ a = 1) → k + d = K → d < n → ∃ v, fX5_log_L92 g (nI K) nu n a (nI k) (rw1 t) = some (if foT nu d k t = true then a else 0, rw1 v) ∧ WF v := by
  intro d
  induction d with
  | zero =>
    intro k n t a w ha hk hn
    obtain ⟨n, rfl⟩ : ∃ m, n = m + 1 := ⟨n - 1, by omega⟩
    refine ⟨t, ?_, w⟩
    show fX5_log_L92_b g (nI K) nu _ a (nI k) (rw1 t) = _
    unfold fX5_log_L92_b foT
    rw [if_pos (nI_le (by omega) (by omega)), if_pos rfl]
  | succ d ih =>
    intro k n t a w ha hk hn
    obtain ⟨n, rfl⟩ : ∃ m, n = m + 1 := ⟨n - 1, by omega⟩
    show ∃ v, fX5_log_L92_b g (nI K) nu (fX5_log_L92 g (nI K) nu n) a (nI k) (rw1 t) = _ ∧ _
    unfold fX5_log_L92_b foT
    rw [if_neg (nI_ge (by omega) (by omega)), gdn (by omega) (by decide), mDay w hg, bd1_s, bd1_s, nI_1, (a11 ha).1, (a11 ha).2]
    simp only [nI_clamp (show k < 2 ^ 31 by omega)]
    by_cases e : nI (t 3) = nu k
    · simp only [if_pos e]
      exact ih (k + 1) n _ a w.day ha (by omega) (by omega)
    · simp only [if_neg e]
      obtain ⟨v, v1, v2⟩ := ih (k + 1) n (dyT t) 0 w.day (Or.inl rfl) (by omega) (by omega)
      refine ⟨v, ?_, v2⟩
      rw [v1]
      simp
theorem mFol (hg : big g) (w : WF t) (nu : Nat → Int32) {K : Nat} (hK : K ≤ 16) : ∃ v, fX5_log_L92 g (nI K) nu g 1 0 (rw1 t) = some (if foT nu K 0 t = true then 1 else 0, rw1 v) ∧ WF v := by
  have hg' : 100000000000000000000 ≤ g := hg
  exact mFol_L (g := g) hg nu hK K 0 g t 1 w (Or.inr rfl) (by omega) (by omega)

theorem places_L (w : WF t) (hg : big g) (R : RV t np nh na ns nd nc nk nf nl nse) (nu : Nat → Int32) {K : Nat} (hK : K ≤ 16) {h : Nat} (hh : h < t 1) : ∀ (d k n n' : Nat) (a : Int32) (tp th ta ts td tx ty : Int32) (tc tk tf tl te : Nat → Int32) (u : Nat → Nat), z45 u → k + d = t 0 → d < n → d < n' → ∃ r v o1 o2 o3 o4 o5 o6 o7 o8 o9 o10 o11 o12, fX4_placesByLog_L4 g (nI h) (nI K) np nh na ns nd nc nk nf nl nse nu n a (nI k) tp th ta ts td tx ty tc tk tf tl te = some (r, o1, o2, o3, o4, o5, o6, o7, o8, o9, o10, o11, o12) ∧ fX5_log_L35 g (nI h) 0 (nI K) (rw1 t) nu n' a (nI k) (rw1 u) = some (r, rw1 v) ∧ z45 v := by
  have h7 := w.2.1
  have h6 := w.1
  intro d
  induction d with
  | zero =>
    intro k n n' a tp th ta ts td tx ty tc tk tf tl te u hu hk hn hn'
    obtain ⟨n, rfl⟩ : ∃ m, n = m + 1 := ⟨n - 1, by omega⟩
    obtain ⟨n', rfl⟩ : ∃ m, n' = m + 1 := ⟨n' - 1, by omega⟩
    refine ⟨a, u, tp, th, ta, ts, td, tx, ty, tc, tk, tf, tl, te, ?_, ?_, hu⟩
    · show fX4_placesByLog_L4_b g (nI h) (nI K) np nh na ns nd nc nk nf nl nse nu _ a (nI k) tp th ta ts td tx ty tc tk tf tl te = _
      unfold fX4_placesByLog_L4_b
      rw [R.1, if_pos (nI_le (by omega) (by omega))]
    · show fX5_log_L35_b g (nI h) 0 (nI K) (rw1 t) nu _ a (nI k) (rw1 u) = _
      unfold fX5_log_L35_b
      rw [if_pos z00, if_pos (show rw1 t 0 ≤ nI k from nI_le (by omega) (by omega))]
  | succ d ih =>
    intro k n n' a tp th ta ts td tx ty tc tk tf tl te u hu hk hn hn'
    obtain ⟨n, rfl⟩ : ∃ m, n = m + 1 := ⟨n - 1, by omega⟩
    obtain ⟨n', rfl⟩ : ∃ m, n' = m + 1 := ⟨n' - 1, by omega⟩
    show ∃ r v o1 o2 o3 o4 o5 o6 o7 o8 o9 o10 o11 o12, fX4_placesByLog_L4_b g (nI h) (nI K) np nh na ns nd nc nk nf nl nse nu (fX4_placesByLog_L4 g (nI h) (nI K) np nh na ns nd nc nk nf nl nse nu n) a (nI k) tp th ta ts td tx ty tc tk tf tl te = some (r, o1, o2, o3, o4, o5, o6, o7, o8, o9, o10, o11, o12) ∧ fX5_log_L35_b g (nI h) 0 (nI K) (rw1 t) nu (fX5_log_L35 g (nI h) 0 (nI K) (rw1 t) nu n') a (nI k) (rw1 u) = some (r, rw1 v) ∧ z45 v
    obtain ⟨c, kk, f, l, se, h1, R1⟩ := vThink (g := g) w R tc tk tf tl te
    have wr : WF (updN t (12 + 5 * h) k) := w.updH (j := 2) (v := k) hh (by omega) ⟨by omega, by omega, fun _ => by omega, by omega, by omega⟩
    obtain ⟨q, c1, c2, c3, c4, c5, q1, q2⟩ := vFol (g := g) wr hg (R1.miss w (v := k) hh) nu hK tx ty
    obtain ⟨v, v1, v2⟩ := mFol (g := g) hg wr nu hK
    unfold fX4_placesByLog_L4_b fX5_log_L35_b
    rw [if_neg (show ¬ np ≤ nI k by rw [R.1]; exact nI_ge (by omega) (by omega)), h1, bd10_s, gdn (by omega) (by decide), nI_clamp (by omega), q1, bd6_s, if_pos z00, if_neg (show ¬ rw1 t 0 ≤ nI k from nI_ge (by omega) (by omega)), mCopies hg w.z hu, bd1_s, if_pos z00, of2, bd1_s, gdn (by omega) (by decide), nI_clamp (by omega), upd_rw, v1, bd2_s, nI_1, Int32.or_zero]
    rcases q2 with ⟨e, rfl⟩ | ⟨e, rfl⟩
    · rw [if_neg z10, e, if_pos rfl, if_neg z10]
      exact ih (k + 1) n n' _ _ _ _ _ _ _ _ _ _ _ _ _ v v2.z (by omega) (by omega) (by omega)
    · rw [if_pos z00, e, if_neg (show ¬ false = true by decide), if_pos z00]
      exact ih (k + 1) n n' _ _ _ _ _ _ _ _ _ _ _ _ _ v v2.z (by omega) (by omega) (by omega)
theorem kinds_L (w : WF t) (hg : big g) (R : RV t np nh na ns nd nc nk nf nl nse) (nu : Nat → Int32) {K : Nat} (hK : K ≤ 16) {h : Nat} (hh : h < t 1) : ∀ (d k n n' : Nat) (a : Int32) (tp th ta ts td tx ty : Int32) (tc tk tf tl te : Nat → Int32) (u : Nat → Nat), z45 u → k + d = 6 → d < n → d < n' → ∃ r v o1 o2 o3 o4 o5 o6 o7 o8 o9 o10 o11 o12, fX4_kindsByLog_L4 g (nI h) (nI K) np nh na ns nd nc nk nf nl nse nu n a (nI k) tp th ta ts td tx ty tc tk tf tl te = some (r, o1, o2, o3, o4, o5, o6, o7, o8, o9, o10, o11, o12) ∧ fX5_log_L35 g (nI h) 1 (nI K) (rw1 t) nu n' a (nI k) (rw1 u) = some (r, rw1 v) ∧ z45 v := by
  have h7 := w.2.1
  have h6 := w.1
  intro d
  induction d with
  | zero =>
    intro k n n' a tp th ta ts td tx ty tc tk tf tl te u hu hk hn hn'
    obtain ⟨n, rfl⟩ : ∃ m, n = m + 1 := ⟨n - 1, by omega⟩
    obtain ⟨n', rfl⟩ : ∃ m, n' = m + 1 := ⟨n' - 1, by omega⟩
    refine ⟨a, u, tp, th, ta, ts, td, tx, ty, tc, tk, tf, tl, te, ?_, ?_, hu⟩
    · show fX4_kindsByLog_L4_b g (nI h) (nI K) np nh na ns nd nc nk nf nl nse nu _ a (nI k) tp th ta ts td tx ty tc tk tf tl te = _
      unfold fX4_kindsByLog_L4_b
      rw [if_pos (show (6 : Int32) ≤ nI k from nI_le (a := 6) (by omega) (by omega))]
    · show fX5_log_L35_b g (nI h) 1 (nI K) (rw1 t) nu _ a (nI k) (rw1 u) = _
      unfold fX5_log_L35_b
      rw [if_neg z10, if_pos (show (6 : Int32) ≤ nI k from nI_le (a := 6) (by omega) (by omega))]
  | succ d ih =>
    intro k n n' a tp th ta ts td tx ty tc tk tf tl te u hu hk hn hn'
    obtain ⟨n, rfl⟩ : ∃ m, n = m + 1 := ⟨n - 1, by omega⟩
    obtain ⟨n', rfl⟩ : ∃ m, n' = m + 1 := ⟨n' - 1, by omega⟩
    show ∃ r v o1 o2 o3 o4 o5 o6 o7 o8 o9 o10 o11 o12, fX4_kindsByLog_L4_b g (nI h) (nI K) np nh na ns nd nc nk nf nl nse nu (fX4_kindsByLog_L4 g (nI h) (nI K) np nh na ns nd nc nk nf nl nse nu n) a (nI k) tp th ta ts td tx ty tc tk tf tl te = some (r, o1, o2, o3, o4, o5, o6, o7, o8, o9, o10, o11, o12) ∧ fX5_log_L35_b g (nI h) 1 (nI K) (rw1 t) nu (fX5_log_L35 g (nI h) 1 (nI K) (rw1 t) nu n') a (nI k) (rw1 u) = some (r, rw1 v) ∧ z45 v
    obtain ⟨c, kk, f, l, se, h1, R1⟩ := vThink (g := g) w R tc tk tf tl te
    have wr : WF (updN t (10 + 5 * h) k) := w.updH (j := 0) (v := k) hh (by omega) ⟨fun _ => by omega, by omega, by omega, by omega, by omega⟩
    obtain ⟨q, c1, c2, c3, c4, c5, q1, q2⟩ := vFol (g := g) wr hg (R1.kind w (v := k) hh) nu hK tx ty
    obtain ⟨v, v1, v2⟩ := mFol (g := g) hg wr nu hK
    unfold fX4_kindsByLog_L4_b fX5_log_L35_b
    rw [if_neg (show ¬ (6 : Int32) ≤ nI k from nI_ge (b := 6) (by omega) (by omega)), h1, bd10_s, gdn (by omega) (by decide), nI_clamp (by omega), q1, bd6_s, if_neg z10, if_neg (show ¬ (6 : Int32) ≤ nI k from nI_ge (b := 6) (by omega) (by omega)), mCopies hg w.z hu, bd1_s, if_neg z10, of0, bd1_s, gdn (by omega) (by decide), nI_clamp (by omega), upd_rw, v1, bd2_s, nI_1, Int32.or_zero]
    rcases q2 with ⟨e, rfl⟩ | ⟨e, rfl⟩
    · rw [if_neg z10, e, if_pos rfl, if_neg z10]
      exact ih (k + 1) n n' _ _ _ _ _ _ _ _ _ _ _ _ _ v v2.z (by omega) (by omega) (by omega)
    · rw [if_pos z00, e, if_neg (show ¬ false = true by decide), if_pos z00]
      exact ih (k + 1) n n' _ _ _ _ _ _ _ _ _ _ _ _ _ v v2.z (by omega) (by omega) (by omega)
theorem oLog (w : WF t) (hg : big g) (R : RV t np nh na ns nd nc nk nf nl nse) (nu : Nat → Int32) {K : Nat} (hK : K ≤ 16) (rf : Nat → Int32) (p0 p1 : Int32) (tp th ta ts td tx ty : Int32) (tc tk tf tl te : Nat → Int32) {u : Nat → Nat} (hu : z45 u) : ∃ r u' rf' o1 o2 o3 o4 o5 o6 o7 o8 o9 o10 o11 o12, fX4_log g p0 p1 (nI K) np nh na ns nd nc nk nf nl nse tp th ta ts td tx ty tc tk tf tl te nu rf = some (r, o1, o2, o3, o4, o5, o6, o7, o8, o9, o10, o11, o12, rf') ∧ fX5_log g p0 p1 (nI K) (rw1 t) (rw1 u) nu rf = some (r, rw1 u', rf') ∧ z45 u' := by
  have h6 := w.1
  have h7 := w.2.1
  have hg' : 100000000000000000000 ≤ g := hg
  unfold fX4_log fX5_log
  rw [cNoHand, bd1_s, cNoWhat, bd1_s, cFirst, bd1_s]
  rcases tri_or p0 (n := t 1) (by omega) with h | ⟨j, hj, rfl⟩
  · refine ⟨-1, u, rfz (-1) rf, tp, th, ta, ts, td, tx, ty, tc, tk, tf, tl, te, ?_, ?_, hu⟩
    · rw [R.2.1, nh_bad (by omega) h, fo_n ok1, if_neg zm1, rZ4 ok1, bd2_s]
    · rw [mHd_bad w h, bd1_s, if_pos z00, rZ5 ok1, bd2_s]
  · have a1 : nhF (nI j) nh = 0 := by rw [R.2.1]; exact nh_ok hj (by omega)
    rcases tri_or p1 (n := 2) (by omega) with h | ⟨i, hi, rfl⟩
    · refine ⟨-2, u, rfz (-2) rf, tp, th, ta, ts, td, tx, ty, tc, tk, tf, tl, te, ?_, ?_, hu⟩
      · rw [a1, fo_0, show nvF p1 2 = -2 from nw_bad (n := 2) (by omega) h, if_neg zm2, rZ4 ok2, bd2_s]
      · rw [mHd_ok w hj, bd1_s, if_neg z10, show fX5_isIn g p1 0 1 = some 0 from mIsIn_bad (n := 2) (by omega) h, bd1_s, if_pos z00, rZ5 ok2, bd2_s]
    · rw [a1, fo_0, show nvF (nI i) 2 = 0 from nw_ok (n := 2) hi (by omega), if_pos z00, mHd_ok w hj, bd1_s, if_neg z10, show fX5_isIn g (nI i) 0 1 = some 1 from mIsIn_ok (n := 2) hi (by omega), bd1_s, if_neg z10]
      rcases (show i = 0 ∨ i = 1 by omega) with rfl | rfl
      · obtain ⟨r, v, o1, o2, o3, o4, o5, o6, o7, o8, o9, o10, o11, o12, q1, q2, q3⟩ := places_L (g := g) w hg R nu hK hj (t 0) 0 g g 0 tp th ta ts td tx ty tc tk tf tl te u hu (by omega) (by omega) (by omega)
        have q1 : fX4_placesByLog_L4 g (nI j) (nI K) np nh na ns nd nc nk nf nl nse nu g 0 0 tp th ta ts td tx ty tc tk tf tl te = some (r, o1, o2, o3, o4, o5, o6, o7, o8, o9, o10, o11, o12) := q1
        have q2 : fX5_log_L35 g (nI j) (nI 0) (nI K) (rw1 t) nu g 0 0 (rw1 u) = some (r, rw1 v) := q2
        refine ⟨r, v, rf, o1, o2, o3, o4, o5, o6, o7, o8, o9, o10, o11, o12, ?_, ?_, q3⟩
        · rw [if_pos (show nI 0 = 0 from rfl)]
          unfold fX4_placesByLog
          rw [q1, bd13_s, bd13_s]
        · rw [q2, bd2_s]
      · obtain ⟨r, v, o1, o2, o3, o4, o5, o6, o7, o8, o9, o10, o11, o12, q1, q2, q3⟩ := kinds_L (g := g) w hg R nu hK hj 6 0 g g 0 tp th ta ts td tx ty tc tk tf tl te u hu (by omega) (by omega) (by omega)
        have q1 : fX4_kindsByLog_L4 g (nI j) (nI K) np nh na ns nd nc nk nf nl nse nu g 0 0 tp th ta ts td tx ty tc tk tf tl te = some (r, o1, o2, o3, o4, o5, o6, o7, o8, o9, o10, o11, o12) := q1
        have q2 : fX5_log_L35 g (nI j) (nI 1) (nI K) (rw1 t) nu g 0 0 (rw1 u) = some (r, rw1 v) := q2
        refine ⟨r, v, rf, o1, o2, o3, o4, o5, o6, o7, o8, o9, o10, o11, o12, ?_, ?_, q3⟩
        · rw [if_neg (show ¬ nI 1 = 0 by decide)]
          unfold fX4_kindsByLog
          rw [q1, bd13_s, bd13_s]
        · rw [q2, bd2_s]
end PC10
