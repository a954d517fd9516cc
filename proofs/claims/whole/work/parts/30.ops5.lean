/-! ===== pure level: the calls, class beside model (5): missed, opposed, turners ===== -/
theorem and7 : ∀ a, a < 128 → ∀ h, h < 7 → (nI a &&& (((1 : Int32) <<< (nI h &&& 31)) ^^^ (-1))) = nI (a - a / 2 ^ h % 2 * 2 ^ h) ∧ ∀ j, j < 7 → (a - a / 2 ^ h % 2 * 2 ^ h) / 2 ^ j % 2 = if j = h then 0 else a / 2 ^ j % 2 := by decide +kernel
section PC5
variable {g : Nat} {t : Nat → Nat} {np nh na ns nd : Int32} {nc nk nf nl nse : Nat → Int32}
theorem miss_L (w : WF t) (hg : big g) (R : RV t np nh na ns nd nc nk nf nl nse) : ∀ (d k n n' j : Nat), k + d = t 0 → d < n → d < n' → j < k → ∃ j', j' < t 0 ∧ fX4_missed_L52 g np nh na ns nc nk nf nl nse n (nI j) (mbT t j) (nI k) = some (nI j', mbT t j') ∧ fX5_missed_L21 g (rw1 t) n' (nI j) (nI k) = some (nI j') := by
  have h6 := w.1
  intro d
  induction d with
  | zero =>
    intro k n n' j hk hn hn' hj
    obtain ⟨n, rfl⟩ : ∃ m, n = m + 1 := ⟨n - 1, by omega⟩
    obtain ⟨n', rfl⟩ : ∃ m, n' = m + 1 := ⟨n' - 1, by omega⟩
    refine ⟨j, by omega, ?_, ?_⟩
    · show fX4_missed_L52_b g np nh na ns nc nk nf nl nse _ (nI j) (mbT t j) (nI k) = _
      unfold fX4_missed_L52_b
      rw [R.1, if_pos (nI_le (by omega) (by omega))]
    · show fX5_missed_L21_b g (rw1 t) _ (nI j) (nI k) = _
      unfold fX5_missed_L21_b
      rw [if_pos (show rw1 t 0 ≤ nI k from nI_le (by omega) (by omega))]
  | succ d ih =>
    intro k n n' j hk hn hn' hj
    obtain ⟨n, rfl⟩ : ∃ m, n = m + 1 := ⟨n - 1, by omega⟩
    obtain ⟨n', rfl⟩ : ∃ m, n' = m + 1 := ⟨n' - 1, by omega⟩
    show ∃ j', j' < t 0 ∧ fX4_missed_L52_b g np nh na ns nc nk nf nl nse (fX4_missed_L52 g np nh na ns nc nk nf nl nse n) (nI j) (mbT t j) (nI k) = some (nI j', mbT t j') ∧ fX5_missed_L21_b g (rw1 t) (fX5_missed_L21 g (rw1 t) n') (nI j) (nI k) = some (nI j')
    unfold fX4_missed_L52_b fX5_missed_L21_b
    rw [if_neg (show ¬ np ≤ nI k by rw [R.1]; exact nI_ge (by omega) (by omega)), if_neg (show ¬ rw1 t 0 ≤ nI k from nI_ge (by omega) (by omega)), (vMb w hg R (show k < 2 ^ 31 by omega)).1, bd1_s, (vMb w hg R (show k < 2 ^ 31 by omega)).2, bd1_s, (vMb w hg R (show j < 2 ^ 31 by omega)).2, bd1_s, nI_1, if_neg (nI_pos (show j < 2 ^ 31 by omega))]
    by_cases e : mbT t k ≤ mbT t j
    · simp only [if_pos e]
      exact ih (k + 1) n n' j (by omega) (by omega) (by omega) (by omega)
    · simp only [if_neg e]
      exact ih (k + 1) n n' k (by omega) (by omega) (by omega) (by omega)
theorem oMissed (w : WF t) (hg : big g) (R : RV t np nh na ns nd nc nk nf nl nse) (rf : Nat → Int32) (p0 : Int32) : ∃ r rf', fX4_missed g p0 np nh na ns nc nk nf nl nse rf = some (r, rf') ∧ fX5_missed g p0 (rw1 t) rf = some (r, rf') := by
  have h6 := w.1
  have hg' : 100000000000000000000 ≤ g := hg
  unfold fX4_missed fX5_missed
  rw [cNoWhat, bd1_s]
  rcases tri_or p0 (n := 2) (by omega) with h | ⟨j, hj, rfl⟩
  · refine ⟨1000000000 - (-2), rfz (-2) rf, ?_, ?_⟩
    · rw [show nvF p0 2 = -2 from nw_bad (n := 2) (by omega) h, if_neg zm2, rS4 ok2, bd2_s]
    · rw [show fX5_isIn g p0 0 1 = some 0 from mIsIn_bad (n := 2) (by omega) h, bd1_s, if_pos z00, rS5 ok2, bd2_s]
  · rw [show nvF (nI j) 2 = 0 from nw_ok (n := 2) hj (by omega), show fX5_isIn g (nI j) 0 1 = some 1 from mIsIn_ok (n := 2) hj (by omega), bd1_s, if_pos z00, if_neg z10]
    by_cases e0 : t 0 = 0
    · have el : fX5_missed_L21 g (rw1 t) g (-9) 0 = some (-9) := by
        obtain ⟨g', rfl⟩ : ∃ m, g = m + 1 := ⟨g - 1, by omega⟩
        show fX5_missed_L21_b (g' + 1) (rw1 t) _ (-9) 0 = _
        unfold fX5_missed_L21_b
        rw [if_pos (show rw1 t 0 ≤ 0 by show nI (t 0) ≤ nI 0; rw [e0]; decide)]
      rw [el, bd1_s, if_pos (show np = 0 by rw [R.1, e0]; rfl)]
      rcases (show j = 0 ∨ j = 1 by omega) with rfl | rfl
      · exact ⟨-9, rf, rfl, rfl⟩
      · exact ⟨0, rf, rfl, rfl⟩
    · have hne : ¬ np = 0 := by
        rw [R.1]
        exact nI_ne0 (by omega) (by omega)
      obtain ⟨g', hgg⟩ : ∃ m, g = m + 1 := ⟨g - 1, by omega⟩
      obtain ⟨j', hj', q1, q2⟩ := miss_L (g := g) w hg R (t 0 - 1) 1 g g' 0 (by omega) (by omega) (by omega) (by omega)
      have el : fX5_missed_L21 g (rw1 t) g (-9) 0 = some (nI j') := by
        have s1 : fX5_missed_L21 g (rw1 t) (g' + 1) (-9) (nI 0) = fX5_missed_L21 g (rw1 t) g' (nI 0) (nI 1) := by
          show fX5_missed_L21_b g (rw1 t) (fX5_missed_L21 g (rw1 t) g') (-9) (nI 0) = _
          unfold fX5_missed_L21_b
          rw [if_neg (show ¬ rw1 t 0 ≤ nI 0 from nI_ge (by omega) (by omega)), if_pos (show (-9 : Int32) < 0 by decide), nI_1]
        have s2 : fX5_missed_L21 g (rw1 t) g (-9) 0 = fX5_missed_L21 g (rw1 t) (g' + 1) (-9) (nI 0) := by rw [← hgg]; rfl
        rw [s2, s1]
        exact q2
      have v0 : fX3_leansTogether g 0 nh na ns nc nk nf nl nse = some (mbT t 0) := (vMb w hg R (p := 0) (by omega)).1
      have q1 : fX4_missed_L52 g np nh na ns nc nk nf nl nse g 0 (mbT t 0) 1 = some (nI j', mbT t j') := q1
      rw [if_neg hne, v0, bd1_s, q1, bd2_s, el, bd1_s, if_pos (nI_pos' (show j' < 2 ^ 31 by omega)), (vMb w hg R (show j' < 2 ^ 31 by omega)).2, bd1_s]
      rcases (show j = 0 ∨ j = 1 by omega) with rfl | rfl
      · exact ⟨nI j', rf, rfl, rfl⟩
      · exact ⟨mbT t j', rf, rfl, rfl⟩
theorem d8 {a : Nat} (h : a < 64) : nI a / 8 = nI (a / 8) := pk_div (d := 8) (by omega) (by omega) (by omega)
theorem m8 {a : Nat} (h : a < 64) : md8 (nI a) = nI (a % 8) := pk_rem (d := 8) (by omega) (by omega) (by omega)
def opT (t : Nat → Nat) (i j : Nat) : Prop := roT t i * roT t j < 0 ∨ coT t i * coT t j < 0
theorem vOpp (w : WF t) (R : RV t np nh na ns nd nc nk nf nl nse) {i j : Nat} (hi : i < t 1) (hj : j < t 1) : ∃ r, fX3_areOpposed g (nI i) (nI j) ns nc nl = some r ∧ ((r = 1 ∧ opT t i j) ∨ (r = 0 ∧ ¬ opT t i j)) := by
  have ci := w.cT_lt hi
  have cj := w.cT_lt hj
  have cs := w.2.2.1
  unfold fX3_areOpposed opT roT coT
  rw [vRowsTo w R hi, bd1_s, vRowsTo w R hj, bd1_s, vColsTo w R hi, bd1_s, vColsTo w R hj, bd1_s, d8 ci, d8 cj, d8 cs, m8 ci, m8 cj, m8 cs]
  have hr := rowmul (cT t i / 8) (by omega) (cT t j / 8) (by omega) (t 3 / 8) (by omega)
  have hc := rowmul (cT t i % 8) (by omega) (cT t j % 8) (by omega) (t 3 % 8) (by omega)
  by_cases e1 : (nI (cT t i / 8) - nI (t 3 / 8)) * (nI (cT t j / 8) - nI (t 3 / 8)) < 0
  · rw [if_pos e1]
    exact ⟨1, rfl, Or.inl ⟨rfl, Or.inl (hr.mp e1)⟩⟩
  · rw [if_neg e1]
    by_cases e2 : 0 ≤ (nI (cT t i % 8) - nI (t 3 % 8)) * (nI (cT t j % 8) - nI (t 3 % 8))
    · rw [if_pos e2]
      refine ⟨0, rfl, Or.inr ⟨rfl, fun h => ?_⟩⟩
      rcases h with h | h
      · exact e1 (hr.mpr h)
      · exact absurd (hc.mpr h) (Int32.not_lt.mpr e2)
    · rw [if_neg e2]
      exact ⟨1, rfl, Or.inl ⟨rfl, Or.inr (hc.mp (Int32.not_le.mp e2))⟩⟩
theorem opp_L (w : WF t) (R : RV t np nh na ns nd nc nk nf nl nse) {i : Nat} (hi : i < t 1) : ∀ (d k n n' : Nat) (a : Int32), k + d = t 1 → d < n → d < n' → ∃ r, fX4_opposed_L19 g (nI i) nh na ns nc nl n a (nI k) = some r ∧ fX5_opposed_L18 g (nI i) (rw1 t) n' a (nI k) = some r := by
  have h7 := w.2.1
  intro d
  induction d with
  | zero =>
    intro k n n' a hk hn hn'
    obtain ⟨n, rfl⟩ : ∃ m, n = m + 1 := ⟨n - 1, by omega⟩
    obtain ⟨n', rfl⟩ : ∃ m, n' = m + 1 := ⟨n' - 1, by omega⟩
    refine ⟨a, ?_, ?_⟩
    · show fX4_opposed_L19_b g (nI i) nh na ns nc nl _ a (nI k) = _
      unfold fX4_opposed_L19_b
      rw [R.2.1, if_pos (nI_le (by omega) (by omega))]
    · show fX5_opposed_L18_b g (nI i) (rw1 t) _ a (nI k) = _
      unfold fX5_opposed_L18_b
      rw [if_pos (show rw1 t 1 ≤ nI k from nI_le (by omega) (by omega))]
  | succ d ih =>
    intro k n n' a hk hn hn'
    obtain ⟨n, rfl⟩ : ∃ m, n = m + 1 := ⟨n - 1, by omega⟩
    obtain ⟨n', rfl⟩ : ∃ m, n' = m + 1 := ⟨n' - 1, by omega⟩
    show ∃ r, fX4_opposed_L19_b g (nI i) nh na ns nc nl (fX4_opposed_L19 g (nI i) nh na ns nc nl n) a (nI k) = some r ∧ fX5_opposed_L18_b g (nI i) (rw1 t) (fX5_opposed_L18 g (nI i) (rw1 t) n') a (nI k) = some r
    have va : fX3_isAboard g (nI k) na = some (if t (14 + 5 * k) = 1 then 1 else 0) := by rw [R.2.2.1]; exact vAboard w (by omega)
    have vb : fX3_isAboard g (nI i) na = some (if t (14 + 5 * i) = 1 then 1 else 0) := by rw [R.2.2.1]; exact vAboard w hi
    obtain ⟨q, q1, q2⟩ := vOpp (g := g) w R hi (show k < t 1 by omega)
    unfold fX4_opposed_L19_b fX5_opposed_L18_b
    rw [if_neg (show ¬ nh ≤ nI k by rw [R.2.1]; exact nI_ge (by omega) (by omega)), if_neg (show ¬ rw1 t 1 ≤ nI k from nI_ge (by omega) (by omega)), va, vb, q1, bd1_s, bd1_s, bd1_s, mAboard w hi, bd1_s, mAboard w (by omega), bd1_s, mRows w hi, bd1_s, mRows w (by omega), bd1_s, mCols w hi, bd1_s, mCols w (by omega), bd1_s, nI_1, Int32.add_zero]
    by_cases e1 : t (14 + 5 * i) = 1
    · by_cases e2 : t (14 + 5 * k) = 1
      · simp only [e1, e2, if_true, z10, if_false]
        rcases q2 with ⟨rfl, ho⟩ | ⟨rfl, ho⟩
        · simp only [z10, if_false]
          rcases ho with ho | ho
          · simp only [if_pos ho]
            exact ih (k + 1) n n' _ (by omega) (by omega) (by omega)
          · simp only [if_neg (Int32.not_le.mpr ho), ite_self]
            exact ih (k + 1) n n' _ (by omega) (by omega) (by omega)
        · have h1 : ¬ roT t i * roT t k < 0 := fun h => ho (Or.inl h)
          have h2 : 0 ≤ coT t i * coT t k := Int32.not_lt.mp (fun h => ho (Or.inr h))
          simp only [if_neg h1, if_pos h2, if_true]
          exact ih (k + 1) n n' _ (by omega) (by omega) (by omega)
      · simp only [e1, e2, if_true, z10, if_false]
        exact ih (k + 1) n n' _ (by omega) (by omega) (by omega)
    · simp only [e1, if_true, if_false]
      exact ih (k + 1) n n' _ (by omega) (by omega) (by omega)
theorem opp_L2 (w : WF t) (hg : big g) (R : RV t np nh na ns nd nc nk nf nl nse) : ∀ (d k n n' : Nat) (a : Int32), k + d = t 1 → d < n → d < n' → ∃ r, fX4_opposed_L4 g nh na ns nc nl n a (nI k) = some r ∧ fX5_opposed_L4 g (rw1 t) n' a (nI k) = some r := by
  have h7 := w.2.1
  have hg' : 100000000000000000000 ≤ g := hg
  intro d
  induction d with
  | zero =>
    intro k n n' a hk hn hn'
    obtain ⟨n, rfl⟩ : ∃ m, n = m + 1 := ⟨n - 1, by omega⟩
    obtain ⟨n', rfl⟩ : ∃ m, n' = m + 1 := ⟨n' - 1, by omega⟩
    refine ⟨a, ?_, ?_⟩
    · show fX4_opposed_L4_b g nh na ns nc nl _ a (nI k) = _
      unfold fX4_opposed_L4_b
      rw [R.2.1, if_pos (nI_le (by omega) (by omega))]
    · show fX5_opposed_L4_b g (rw1 t) _ a (nI k) = _
      unfold fX5_opposed_L4_b
      rw [if_pos (show rw1 t 1 ≤ nI k from nI_le (by omega) (by omega))]
  | succ d ih =>
    intro k n n' a hk hn hn'
    obtain ⟨n, rfl⟩ : ∃ m, n = m + 1 := ⟨n - 1, by omega⟩
    obtain ⟨n', rfl⟩ : ∃ m, n' = m + 1 := ⟨n' - 1, by omega⟩
    show ∃ r, fX4_opposed_L4_b g nh na ns nc nl (fX4_opposed_L4 g nh na ns nc nl n) a (nI k) = some r ∧ fX5_opposed_L4_b g (rw1 t) (fX5_opposed_L4 g (rw1 t) n') a (nI k) = some r
    obtain ⟨q, q1, q2⟩ := opp_L (g := g) w R (i := k) (by omega) d (k + 1) g g a (by omega) (by omega) (by omega)
    unfold fX4_opposed_L4_b fX5_opposed_L4_b
    rw [if_neg (show ¬ nh ≤ nI k by rw [R.2.1]; exact nI_ge (by omega) (by omega)), if_neg (show ¬ rw1 t 1 ≤ nI k from nI_ge (by omega) (by omega)), nI_1, q1, bd1_s, q2, bd1_s]
    exact ih (k + 1) n n' q (by omega) (by omega) (by omega)
theorem oOpposed (w : WF t) (hg : big g) (R : RV t np nh na ns nd nc nk nf nl nse) : ∃ r, fX4_opposed g nh na ns nc nl = some r ∧ fX5_opposed g (rw1 t) = some r := by
  have h7 := w.2.1
  have hg' : 100000000000000000000 ≤ g := hg
  obtain ⟨r, h1, h2⟩ := opp_L2 (g := g) w hg R (t 1) 0 g g 0 (by omega) (by omega) (by omega)
  refine ⟨r, ?_, ?_⟩
  · unfold fX4_opposed
    show bd1 (fX4_opposed_L4 g nh na ns nc nl g 0 (nI 0)) _ = _
    rw [h1, bd1_s]
  · unfold fX5_opposed
    show bd1 (fX5_opposed_L4 g (rw1 t) g 0 (nI 0)) _ = _
    rw [h2, bd1_s]
end PC5
