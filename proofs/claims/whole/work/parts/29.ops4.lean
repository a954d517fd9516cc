/-! ===== pure level: the calls, class beside model (4): the best of several ===== -/
theorem st64 : ∀ a, a < 64 → ∀ b, b < 64 → ¬ (64 : Int32) ≤ stT (nI a) (nI b) := by decide +kernel
theorem lnA : ∀ s, s < 100 → ¬ fa (2 * (nI s / 5 + 1)) ≤ -1 ∧ ¬ fa (nI s / 5 + 1) ≤ -1 ∧ ¬ fa (4 * (nI s / 5 + 1)) ≤ -1 ∧ ∀ f, f < 10 → ¬ fa (nI s / 5 + 1 + nI f / 3) ≤ -1 ∧ ¬ fa (-(nI s / 5 + 1 + nI f / 3)) ≤ -1 := by decide +kernel
theorem rowmul : ∀ a, a < 8 → ∀ b, b < 8 → ∀ s, s < 8 → ((nI a - nI s) * (nI b - nI s) < 0 ↔ sg (nI a - nI s) * sg (nI b - nI s) < 0) := by decide +kernel
section PC4
variable {g : Nat} {t : Nat → Nat} {np nh na ns nd : Int32} {nc nk nf nl nse : Nat → Int32}
theorem ln_fa (w : WF t) {h : Nat} (hh : h < t 1) : ¬ fa (lnT t h) ≤ -1 := by
  have q := w.2.2.2.2.1 h hh
  have z := lnA _ q.2.2.2.1
  unfold lnT xT fT
  (repeat' split)
  · exact z.1
  · decide
  · exact (z.2.2.2 _ q.2.1).1
  · exact (z.2.2.2 _ q.2.1).2
  · exact z.2.2.1
  · exact z.2.1
  · exact z.2.1
theorem near_L (w : WF t) (R : RV t np nh na ns nd nc nk nf nl nse) : ∀ (d k n n' : Nat) (a b : Int32), k + d = t 0 → d < n → d < n' → (a = -9 ∧ b = 64) ∨ (∃ j, j < k ∧ a = nI j ∧ b = stT (nI (t 3)) (nI (t (4 + j)))) → ∃ r, fX4_nearest_L8 g np ns nc n a b (nI k) = some r ∧ fX5_nearest_L5 g (rw1 t) n' a (nI k) = some r := by
  have h6 := w.1
  intro d
  induction d with
  | zero =>
    intro k n n' a b hk hn hn' hi
    obtain ⟨n, rfl⟩ : ∃ m, n = m + 1 := ⟨n - 1, by omega⟩
    obtain ⟨n', rfl⟩ : ∃ m, n' = m + 1 := ⟨n' - 1, by omega⟩
    refine ⟨a, ?_, ?_⟩
    · show fX4_nearest_L8_b g np ns nc _ a b (nI k) = _
      unfold fX4_nearest_L8_b
      rw [R.1, if_pos (nI_le (by omega) (by omega))]
    · show fX5_nearest_L5_b g (rw1 t) _ a (nI k) = _
      unfold fX5_nearest_L5_b
      rw [if_pos (show rw1 t 0 ≤ nI k from nI_le (by omega) (by omega))]
  | succ d ih =>
    intro k n n' a b hk hn hn' hi
    obtain ⟨n, rfl⟩ : ∃ m, n = m + 1 := ⟨n - 1, by omega⟩
    obtain ⟨n', rfl⟩ : ∃ m, n' = m + 1 := ⟨n' - 1, by omega⟩
    show ∃ r, fX4_nearest_L8_b g np ns nc (fX4_nearest_L8 g np ns nc n) a b (nI k) = some r ∧ fX5_nearest_L5_b g (rw1 t) (fX5_nearest_L5 g (rw1 t) n') a (nI k) = some r
    unfold fX4_nearest_L8_b fX5_nearest_L5_b
    rw [if_neg (show ¬ np ≤ nI k by rw [R.1]; exact nI_ge (by omega) (by omega)), if_neg (show ¬ rw1 t 0 ≤ nI k from nI_ge (by omega) (by omega)), vStepsTo w R (by omega), bd1_s, nI_1]
    rcases hi with ⟨rfl, rfl⟩ | ⟨j, hj, rfl, rfl⟩
    · rw [if_neg (st64 _ w.2.2.1 _ (w.2.2.2.1 k (by omega))), if_pos (show (-9 : Int32) < 0 by decide)]
      exact ih (k + 1) n n' _ _ (by omega) (by omega) (by omega) (Or.inr ⟨k, by omega, rfl, rfl⟩)
    · rw [if_neg (nI_pos (by omega)), show (4 : Int32) + nI k = nI (4 + k) from nI_add 4 k, show (4 : Int32) + nI j = nI (4 + j) from nI_add 4 j]
      simp only [gdn (show 4 + k < 45 by omega) (show 45 < 2 ^ 31 by decide), gdn (show 4 + j < 45 by omega) (show 45 < 2 ^ 31 by decide), nI_clamp (show 4 + k < 2 ^ 31 by omega), nI_clamp (show 4 + j < 2 ^ 31 by omega), mSteps, bd1_s]
      by_cases e : stT (nI (t 3)) (nI (t (4 + j))) ≤ stT (nI (t 3)) (nI (t (4 + k)))
      · simp only [if_pos e]
        exact ih (k + 1) n n' _ _ (by omega) (by omega) (by omega) (Or.inr ⟨j, by omega, rfl, rfl⟩)
      · simp only [if_neg e]
        exact ih (k + 1) n n' _ _ (by omega) (by omega) (by omega) (Or.inr ⟨k, by omega, rfl, rfl⟩)
theorem oNearest (w : WF t) (hg : big g) (R : RV t np nh na ns nd nc nk nf nl nse) : ∃ r, fX4_nearest g np ns nc = some r ∧ fX5_nearest g (rw1 t) = some r := by
  have h6 := w.1
  have hg' : 100000000000000000000 ≤ g := hg
  obtain ⟨r, h1, h2⟩ := near_L (g := g) w R (t 0) 0 g g (-9) 64 (by omega) (by omega) (by omega) (Or.inl ⟨rfl, rfl⟩)
  refine ⟨r, ?_, ?_⟩
  · unfold fX4_nearest
    show bd1 (fX4_nearest_L8 g np ns nc g (-9) 64 (nI 0)) _ = _
    rw [h1, bd1_s]
  · unfold fX5_nearest
    show bd1 (fX5_nearest_L5 g (rw1 t) g (-9) (nI 0)) _ = _
    rw [h2, bd1_s]
theorem strong_L (w : WF t) (R : RV t np nh na ns nd nc nk nf nl nse) : ∀ (d k n n' : Nat) (a b : Int32), k + d = t 1 → d < n → d < n' → (a = -9 ∧ b = -1) ∨ (∃ j, j < k ∧ a = nI j ∧ b = fa (lnT t j)) → ∃ r, fX4_strongest_L7 g nh na ns nc nk nf nl nse n b a (nI k) = some r ∧ fX5_strongest_L5 g (rw1 t) n' a (nI k) = some r := by
  have h7 := w.2.1
  intro d
  induction d with
  | zero =>
    intro k n n' a b hk hn hn' hi
    obtain ⟨n, rfl⟩ : ∃ m, n = m + 1 := ⟨n - 1, by omega⟩
    obtain ⟨n', rfl⟩ : ∃ m, n' = m + 1 := ⟨n' - 1, by omega⟩
    refine ⟨a, ?_, ?_⟩
    · show fX4_strongest_L7_b g nh na ns nc nk nf nl nse _ b a (nI k) = _
      unfold fX4_strongest_L7_b
      rw [R.2.1, if_pos (nI_le (by omega) (by omega))]
    · show fX5_strongest_L5_b g (rw1 t) _ a (nI k) = _
      unfold fX5_strongest_L5_b
      rw [if_pos (show rw1 t 1 ≤ nI k from nI_le (by omega) (by omega))]
  | succ d ih =>
    intro k n n' a b hk hn hn' hi
    obtain ⟨n, rfl⟩ : ∃ m, n = m + 1 := ⟨n - 1, by omega⟩
    obtain ⟨n', rfl⟩ : ∃ m, n' = m + 1 := ⟨n' - 1, by omega⟩
    show ∃ r, fX4_strongest_L7_b g nh na ns nc nk nf nl nse (fX4_strongest_L7 g nh na ns nc nk nf nl nse n) b a (nI k) = some r ∧ fX5_strongest_L5_b g (rw1 t) (fX5_strongest_L5 g (rw1 t) n') a (nI k) = some r
    unfold fX4_strongest_L7_b fX5_strongest_L5_b
    have va : fX3_isAboard g (nI k) na = some (if t (14 + 5 * k) = 1 then 1 else 0) := by rw [R.2.2.1]; exact vAboard w (by omega)
    rw [if_neg (show ¬ nh ≤ nI k by rw [R.2.1]; exact nI_ge (by omega) (by omega)), if_neg (show ¬ rw1 t 1 ≤ nI k from nI_ge (by omega) (by omega)), vLeanNow w R (by omega), bd1_s, va, bd1_s, mAboard w (by omega), bd1_s, nI_1]
    simp only [abs_fa]
    by_cases e : t (14 + 5 * k) = 1
    · simp only [e, if_true, z10, if_false]
      rcases hi with ⟨rfl, rfl⟩ | ⟨j, hj, rfl, rfl⟩
      · rw [if_neg (ln_fa w (by omega)), if_pos (show (-9 : Int32) < 0 by decide)]
        exact ih (k + 1) n n' _ _ (by omega) (by omega) (by omega) (Or.inr ⟨k, by omega, rfl, rfl⟩)
      · rw [if_neg (nI_pos (show j < 2 ^ 31 by omega)), mLean w (by omega), bd1_s, mFar, bd1_s, mLean w (by omega), bd1_s, mFar, bd1_s]
        by_cases e2 : fa (lnT t k) ≤ fa (lnT t j)
        · simp only [if_pos e2]
          exact ih (k + 1) n n' _ _ (by omega) (by omega) (by omega) (Or.inr ⟨j, by omega, rfl, rfl⟩)
        · simp only [if_neg e2]
          exact ih (k + 1) n n' _ _ (by omega) (by omega) (by omega) (Or.inr ⟨k, by omega, rfl, rfl⟩)
    · simp only [e, if_true, if_false]
      exact ih (k + 1) n n' _ _ (by omega) (by omega) (by omega) (hi.imp id (fun ⟨j, h1, h2, h3⟩ => ⟨j, by omega, h2, h3⟩))
theorem oStrongest (w : WF t) (hg : big g) (R : RV t np nh na ns nd nc nk nf nl nse) : ∃ r, fX4_strongest g nh na ns nc nk nf nl nse = some r ∧ fX5_strongest g (rw1 t) = some r := by
  have h7 := w.2.1
  have hg' : 100000000000000000000 ≤ g := hg
  obtain ⟨r, h1, h2⟩ := strong_L (g := g) w R (t 1) 0 g g (-9) (-1) (by omega) (by omega) (by omega) (Or.inl ⟨rfl, rfl⟩)
  refine ⟨r, ?_, ?_⟩
  · unfold fX4_strongest
    show bd1 (fX4_strongest_L7 g nh na ns nc nk nf nl nse g (-1) (-9) (nI 0)) _ = _
    rw [h1, bd1_s]
  · unfold fX5_strongest
    show bd1 (fX5_strongest_L5 g (rw1 t) g (-9) (nI 0)) _ = _
    rw [h2, bd1_s]
def mbS (t : Nat → Nat) (p k : Nat) (a : Int32) : Int32 := if t (14 + 5 * k) = 1 then (if t (12 + 5 * k) = p then a + lnT t k else a) else a
def mbT (t : Nat → Nat) (p : Nat) : Int32 := it (mbS t p) (t 1) 0 0
theorem vMb (w : WF t) (hg : big g) (R : RV t np nh na ns nd nc nk nf nl nse) {p : Nat} (hp : p < 2 ^ 31) : fX3_leansTogether g (nI p) nh na ns nc nk nf nl nse = some (mbT t p) ∧ fX5_missedBy g (nI p) (rw1 t) = some (mbT t p) := by
  have h7 := w.2.1
  have hg' : 100000000000000000000 ≤ g := hg
  have L : ∀ (d k n n' : Nat) (a : Int32), k + d = t 1 → d < n → d < n' → fX3_leansTogether_L4 g (nI p) nh na ns nc nk nf nl nse n a (nI k) = some (it (mbS t p) d k a) ∧ fX5_missedBy_L4 g (nI p) (rw1 t) n' a (nI k) = some (it (mbS t p) d k a) := by
    intro d
    induction d with
    | zero =>
      intro k n n' a hk hn hn'
      obtain ⟨n, rfl⟩ : ∃ m, n = m + 1 := ⟨n - 1, by omega⟩
      obtain ⟨n', rfl⟩ : ∃ m, n' = m + 1 := ⟨n' - 1, by omega⟩
      refine ⟨?_, ?_⟩
      · show fX3_leansTogether_L4_b g (nI p) nh na ns nc nk nf nl nse _ a (nI k) = _
        unfold fX3_leansTogether_L4_b
        rw [R.2.1, if_pos (nI_le (by omega) (by omega))]
        rfl
      · show fX5_missedBy_L4_b g (nI p) (rw1 t) _ a (nI k) = _
        unfold fX5_missedBy_L4_b
        rw [if_pos (show rw1 t 1 ≤ nI k from nI_le (by omega) (by omega))]
        rfl
    | succ d ih =>
      intro k n n' a hk hn hn'
      obtain ⟨n, rfl⟩ : ∃ m, n = m + 1 := ⟨n - 1, by omega⟩
      obtain ⟨n', rfl⟩ : ∃ m, n' = m + 1 := ⟨n' - 1, by omega⟩
      have q := (w.2.2.2.2.1 k (by omega)).2.2.1
      have h6 := w.1
      have va : fX3_isAboard g (nI k) na = some (if t (14 + 5 * k) = 1 then 1 else 0) := by rw [R.2.2.1]; exact vAboard w (by omega)
      have hl := (R.2.2.2.2.2.2 k (by omega)).2.2.1
      have n12 : (nI (t (12 + 5 * k)) = nI p) = (t (12 + 5 * k) = p) := n1 p (by omega) hp
      refine ⟨?_, ?_⟩
      · show fX3_leansTogether_L4_b g (nI p) nh na ns nc nk nf nl nse (fX3_leansTogether_L4 g (nI p) nh na ns nc nk nf nl nse n) a (nI k) = some (it (mbS t p) d (k + 1) (mbS t p k a))
        rw [← (ih (k + 1) n n' (mbS t p k a) (by omega) (by omega) (by omega)).1]
        unfold fX3_leansTogether_L4_b mbS
        rw [if_neg (show ¬ nh ≤ nI k by rw [R.2.1]; exact nI_ge (by omega) (by omega)), va, bd1_s, gdn (by omega) (by decide), vLeanNow w R (by omega), bd1_s, nI_1]
        simp only [nI_clamp (show k < 2 ^ 31 by omega), hl, n12]
        by_cases e : t (14 + 5 * k) = 1
        · simp only [e, if_true, z10, if_false]
          split <;> rfl
        · simp only [e, if_true, if_false]
      · show fX5_missedBy_L4_b g (nI p) (rw1 t) (fX5_missedBy_L4 g (nI p) (rw1 t) n') a (nI k) = some (it (mbS t p) d (k + 1) (mbS t p k a))
        rw [← (ih (k + 1) n n' (mbS t p k a) (by omega) (by omega) (by omega)).2]
        unfold fX5_missedBy_L4_b mbS
        rw [if_neg (show ¬ rw1 t 1 ≤ nI k from nI_ge (by omega) (by omega)), mAboard w (by omega), bd1_s, of2, bd1_s, gdn (by omega) (by decide), mLean w (by omega), bd1_s, nI_1, Int32.add_zero]
        simp only [nI_clamp (show 12 + 5 * k < 2 ^ 31 by omega), n12]
        by_cases e : t (14 + 5 * k) = 1
        · simp only [e, if_true, z10, if_false]
          split <;> rfl
        · simp only [e, if_true, if_false]
  have z := L (t 1) 0 g g 0 (by omega) (by omega) (by omega)
  refine ⟨?_, ?_⟩
  · unfold fX3_leansTogether
    show bd1 (fX3_leansTogether_L4 g (nI p) nh na ns nc nk nf nl nse g 0 (nI 0)) _ = _
    rw [z.1, bd1_s]
    rfl
  · unfold fX5_missedBy
    show bd1 (fX5_missedBy_L4 g (nI p) (rw1 t) g 0 (nI 0)) _ = _
    rw [z.2, bd1_s]
    rfl
end PC4
