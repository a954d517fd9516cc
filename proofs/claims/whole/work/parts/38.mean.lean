/-! ===== pure level: the calls, class beside model (13): fractions, mean ===== -/
theorem lc_p {x : Nat} (h : x < 2 ^ 31) : (lg_cmp (lN x) 0 = 0) = (x = 0) := by
  refine propext ((lg_cmp_eq (lN x) 0).trans ?_)
  show lN x = lN 0 ↔ _
  exact lN_eq h (by decide)
theorem ln0 {x : Nat} (h : x < 2 ^ 31) (h0 : ¬ x = 0) : ¬ lN x = 0 := fun e => h0 ((lN_eq (b := 0) h (by decide)).mp e)
theorem gc_0 (g k n n' x : Nat) (hk : k < 200) (h1 : 0 < n) (h2 : 0 < n') : fX4_commonDivisor_L9 g n (lN x) (lN 0) (nI k) = some (lN x) ∧ fX5_gcd_L6 g n' (lN x) (lN 0) = some (lN x) := by
  obtain ⟨n, rfl⟩ : ∃ m, n = m + 1 := ⟨n - 1, by omega⟩
  obtain ⟨n', rfl⟩ : ∃ m, n' = m + 1 := ⟨n' - 1, by omega⟩
  have e : lg_cmp (lN 0) 0 = 0 := (lg_cmp_eq (lN 0) 0).mpr rfl
  refine ⟨?_, ?_⟩
  · show fX4_commonDivisor_L9_b g _ (lN x) (lN 0) (nI k) = _
    unfold fX4_commonDivisor_L9_b
    rw [if_neg (show ¬ (200 : Int32) ≤ nI k from nI_ge (b := 200) (by omega) (by omega)), if_pos e]
  · show fX5_gcd_L6_b g (fX5_gcd_L6 g n') (lN x) (lN 0) = _
    unfold fX5_gcd_L6_b
    rw [if_pos e]
theorem gc_s (g k n n' x y : Nat) (hk : k < 200) (hx : x < 2 ^ 31) (hy : y < 2 ^ 31) (h0 : ¬ y = 0) (h1 : 0 < n) (h2 : 0 < n') : fX4_commonDivisor_L9 g n (lN x) (lN y) (nI k) = fX4_commonDivisor_L9 g (n - 1) (lN y) (lN (x % y)) (nI (k + 1)) ∧ fX5_gcd_L6 g n' (lN x) (lN y) = fX5_gcd_L6 g (n' - 1) (lN y) (lN (x % y)) := by
  obtain ⟨n, rfl⟩ : ∃ m, n = m + 1 := ⟨n - 1, by omega⟩
  obtain ⟨n', rfl⟩ : ∃ m, n' = m + 1 := ⟨n' - 1, by omega⟩
  have e : ¬ lg_cmp (lN y) 0 = 0 := by rw [lc_p hy]; exact h0
  refine ⟨?_, ?_⟩
  · show fX4_commonDivisor_L9_b g (fX4_commonDivisor_L9 g n) (lN x) (lN y) (nI k) = _
    unfold fX4_commonDivisor_L9_b
    rw [if_neg (show ¬ (200 : Int32) ≤ nI k from nI_ge (b := 200) (by omega) (by omega)), if_neg e, gd_p (ln0 hy h0), pk_lRem (by omega) (by omega) (by omega), nI_1]
    rfl
  · show fX5_gcd_L6_b g (fX5_gcd_L6 g n') (lN x) (lN y) = _
    unfold fX5_gcd_L6_b
    rw [if_neg e, gd_p (ln0 hy h0), pk_lRem (by omega) (by omega) (by omega)]
    rfl
theorem mod_half {x y : Nat} (h : y ≤ x) (h0 : 0 < y) : 2 * (x % y) ≤ x := by
  have h1 := Nat.mod_lt x h0
  have h2 := Nat.div_add_mod x y
  have h3 : y ≤ y * (x / y) := Nat.le_mul_of_pos_right y (Nat.div_pos h h0)
  omega
theorem gc_L (g : Nat) : ∀ (d k n n' x y : Nat), y ≤ x → 0 < x → x < 2 ^ 31 → x * y < 2 ^ d → k + d < 199 → d < n → d < n' → ∃ r, 0 < r ∧ r < 2 ^ 31 ∧ fX4_commonDivisor_L9 g n (lN x) (lN y) (nI k) = some (lN r) ∧ fX5_gcd_L6 g n' (lN x) (lN y) = some (lN r) := by
  intro d
  induction d with
  | zero =>
    intro k n n' x y hyx h0 hx hxy hk hn hn'
    have hy : y = 0 := by
      rcases Nat.eq_zero_or_pos y with e | e
      · exact e
      · have := Nat.mul_pos h0 e
        rw [Nat.pow_zero] at hxy
        omega
    subst hy
    obtain ⟨a, b⟩ := gc_0 g k n n' x (by omega) hn hn'
    exact ⟨x, h0, hx, a, b⟩
  | succ d ih =>
    intro k n n' x y hyx h0 hx hxy hk hn hn'
    by_cases hy : y = 0
    · subst hy
      obtain ⟨a, b⟩ := gc_0 g k n n' x (by omega) (by omega) (by omega)
      exact ⟨x, h0, hx, a, b⟩
    · obtain ⟨a, b⟩ := gc_s g k n n' x y (by omega) hx (by omega) hy (by omega) (by omega)
      have h1 := Nat.mod_lt x (show 0 < y by omega)
      have h2 := mod_half hyx (by omega)
      have h3 : 2 * (y * (x % y)) ≤ x * y := by
        have : y * (2 * (x % y)) ≤ y * x := Nat.mul_le_mul_left y h2
        rw [Nat.mul_left_comm] at this
        rw [Nat.mul_comm x y]
        exact this
      rw [a, b]
      exact ih (k + 1) (n - 1) (n' - 1) y (x % y) (by omega) (by omega) (by omega) (by rw [Nat.pow_succ] at hxy; omega) (by omega) (by omega) (by omega)
section PC13
variable {g : Nat} {t : Nat → Nat} {np nh na ns nd : Int32} {nc nk nf nl nse : Nat → Int32}
theorem gcB (hg : big g) {a b : Nat} (ha : 0 < a) (hb : 0 < b) (ha2 : a < 2 ^ 31) (hb2 : b < 2 ^ 31) : ∃ r, 0 < r ∧ r < 2 ^ 31 ∧ fX4_commonDivisor g (lN a) (lN b) = some (lN r) ∧ fX5_gcd g (lN a) (lN b) = some (lN r) := by
  have hg' : 100000000000000000000 ≤ g := hg
  have hm : ∀ x y : Nat, x < 2 ^ 31 → y < 2 ^ 31 → x * y < 2 ^ 62 := by
    intro x y h1 h2
    have := Nat.mul_lt_mul'' h1 h2
    exact Nat.lt_of_lt_of_le this (by decide)
  have fin : ∃ r, 0 < r ∧ r < 2 ^ 31 ∧ fX4_commonDivisor_L9 g g (lN a) (lN b) (nI 0) = some (lN r) ∧ fX5_gcd_L6 g g (lN a) (lN b) = some (lN r) := by
    by_cases h : b ≤ a
    · exact gc_L g 62 0 g g a b h ha ha2 (hm a b ha2 hb2) (by omega) (by omega) (by omega)
    · obtain ⟨p, q⟩ := gc_s g 0 g g a b (by omega) ha2 hb2 (by omega) (by omega) (by omega)
      rw [p, q, Nat.mod_eq_of_lt (by omega)]
      exact gc_L g 62 1 (g - 1) (g - 1) b a (by omega) hb hb2 (hm b a hb2 ha2) (by omega) (by omega) (by omega)
  obtain ⟨r, h1, h2, h3, h4⟩ := fin
  refine ⟨r, h1, h2, ?_, ?_⟩
  · unfold fX4_commonDivisor
    show bd1 (fX4_commonDivisor_L9 g g (lN a) (lN b) (nI 0)) _ = _
    rw [h3, bd1_s]
  · unfold fX5_gcd
    rw [h4, bd1_s]
theorem ptB (hg : big g) {a b q : Nat} (hab : ¬ a = 0 → ¬ b = 0) (ha : a < 2 ^ 31) (hb : b < 2 ^ 31) (hq : q < 2) : ∃ r, fX4_partOf g (lN a) (lN b) (nI q) = some r ∧ fX5_partOf g (lN a) (lN b) (nI q) = some r := by
  unfold fX4_partOf fX5_partOf
  by_cases e : a = 0
  · have e1 : lg_cmp (lN a) 0 = 0 := by rw [lc_p ha]; exact e
    rw [if_pos e1, if_pos e1]
    exact ⟨_, rfl, rfl⟩
  · have e1 : ¬ lg_cmp (lN a) 0 = 0 := by rw [lc_p ha]; exact e
    have e2 : ¬ lg_cmp (lN b) 0 = 0 := by rw [lc_p hb]; exact hab e
    obtain ⟨r, h1, h2, h3, h4⟩ := gcB (g := g) hg (a := a) (b := b) (by omega) (by have := hab e; omega) ha hb
    have e3 : ¬ lg_cmp (lN r) 0 = 0 := by rw [lc_p h2]; omega
    have e4 : ¬ lN r = 0 := ln0 h2 (by omega)
    rw [if_neg e1, if_neg e1, if_neg e2, h3, h4, bd1_s, if_neg e3]
    rcases (show q = 0 ∨ q = 1 by omega) with rfl | rfl
    · rw [if_pos (show nI 0 = 0 from rfl), if_pos (show nI 0 = 0 from rfl), bd1_s]
      exact ⟨_, gd_p e4, gd_p e4⟩
    · rw [if_neg (show ¬ nI 1 = 0 by decide), if_neg (show ¬ nI 1 = 0 by decide), bd1_s]
      exact ⟨_, gd_p e4, gd_p e4⟩
def mnS (t : Nat → Nat) (k s : Nat) : Nat := if t (14 + 5 * k) = 1 then s + t (13 + 5 * k) else s
def mnM (t : Nat → Nat) (k c : Nat) : Nat := if t (14 + 5 * k) = 1 then c + 1 else c
theorem mnS_le (w : WF t) : ∀ (d k s : Nat), k + d ≤ t 1 → it (mnS t) d k s ≤ s + 99 * d
  | 0, _, s, _ => by show s ≤ _; omega
  | d + 1, k, s, h => by
    have h1 := mnS_le w d (k + 1) (mnS t k s) (by omega)
    have h2 : mnS t k s ≤ s + 99 := by
      have := (w.2.2.2.2.1 k (by omega)).2.2.2.1
      unfold mnS
      split <;> omega
    show it (mnS t) d (k + 1) (mnS t k s) ≤ _
    omega
theorem mnM_le : ∀ (d k c : Nat), it (mnM t) d k c ≤ c + d
  | 0, _, c => by show c ≤ _; omega
  | d + 1, k, c => by
    have h1 := mnM_le d (k + 1) (mnM t k c)
    have h2 : mnM t k c ≤ c + 1 := by unfold mnM; split <;> omega
    show it (mnM t) d (k + 1) (mnM t k c) ≤ _
    omega
theorem mn_0 : ∀ (d k s c : Nat), it (mnM t) d k c = 0 → it (mnS t) d k s = s ∧ c = 0
  | 0, _, _, _, h => ⟨rfl, h⟩
  | d + 1, k, s, c, h => by
    obtain ⟨h1, h2⟩ := mn_0 d (k + 1) (mnS t k s) (mnM t k c) h
    unfold mnM at h2
    split at h2
    · omega
    · rename_i e
      refine ⟨?_, h2⟩
      show it (mnS t) d (k + 1) (mnS t k s) = s
      rw [h1]
      unfold mnS
      rw [if_neg e]
theorem pc_st : ∀ k, k < 7 → ∀ a, a < 2 ^ k → ∀ b, b < 2 → pcN (a + b * 2 ^ k) = pcN a + b := by decide +kernel
theorem pc_ab (w : WF t) : ∀ n, n ≤ t 1 → pcN (abN t n) = it (mnM t) n 0 0
  | 0, _ => by show pcN 0 = 0; decide
  | n + 1, h => by
    have h7 := w.2.1
    have hb := (w.2.2.2.2.1 n (by omega)).2.2.2.2
    rw [abN_s, pc_st n (by omega) _ (abN_lt n (fun h hh => (w.2.2.2.2.1 h (by omega)).2.2.2.2)) _ hb, it_snoc, pc_ab w n (by omega), Nat.zero_add]
    unfold mnM
    split <;> omega
theorem cMean_L (w : WF t) (R : RV t np nh na ns nd nc nk nf nl nse) : ∀ (d k n s c : Nat), k + d = t 1 → d < n → fX4_mean_L24 g nh na nse n (lN s) (lN c) (nI k) = some (lN (it (mnS t) d k s), lN (it (mnM t) d k c)) := by
  have h7 := w.2.1
  intro d
  induction d with
  | zero =>
    intro k n s c hk hn
    obtain ⟨n, rfl⟩ : ∃ m, n = m + 1 := ⟨n - 1, by omega⟩
    show fX4_mean_L24_b g nh na nse _ (lN s) (lN c) (nI k) = _
    unfold fX4_mean_L24_b
    rw [R.2.1, if_pos (nI_le (by omega) (by omega))]
    rfl
  | succ d ih =>
    intro k n s c hk hn
    obtain ⟨n, rfl⟩ : ∃ m, n = m + 1 := ⟨n - 1, by omega⟩
    have hx := (w.2.2.2.2.1 k (by omega)).2.2.2.1
    show fX4_mean_L24_b g nh na nse (fX4_mean_L24 g nh na nse n) (lN s) (lN c) (nI k) = some (lN (it (mnS t) d (k + 1) (mnS t k s)), lN (it (mnM t) d (k + 1) (mnM t k c)))
    rw [← ih (k + 1) n _ _ (by omega) (by omega)]
    unfold fX4_mean_L24_b
    rw [if_neg (show ¬ nh ≤ nI k by rw [R.2.1]; exact nI_ge (by omega) (by omega)), R.2.2.1, vAboard w (by omega), bd1_s, nI_1]
    unfold mnS mnM
    by_cases e : t (14 + 5 * k) = 1
    · simp only [if_pos e]
      rw [if_neg z10, gdn (by omega) (by decide), nI_clamp (by omega), (R.2.2.2.2.2.2 k (by omega)).2.2.2, nI_l (by omega), lN_add, lN_1]
    · simp only [if_neg e]
      rw [if_pos trivial]
theorem mMean_L (w : WF t) : ∀ (d k n s : Nat), k + d = t 1 → d < n → fX5_seaAll_L4 g 1 (rw1 t) n (nI s) (nI k) = some (nI (it (mnS t) d k s)) := by
  have h7 := w.2.1
  intro d
  induction d with
  | zero =>
    intro k n s hk hn
    obtain ⟨n, rfl⟩ : ∃ m, n = m + 1 := ⟨n - 1, by omega⟩
    show fX5_seaAll_L4_b g 1 (rw1 t) _ (nI s) (nI k) = _
    unfold fX5_seaAll_L4_b
    rw [if_pos (show rw1 t 1 ≤ nI k from nI_le (by omega) (by omega))]
    rfl
  | succ d ih =>
    intro k n s hk hn
    obtain ⟨n, rfl⟩ : ∃ m, n = m + 1 := ⟨n - 1, by omega⟩
    show fX5_seaAll_L4_b g 1 (rw1 t) (fX5_seaAll_L4 g 1 (rw1 t) n) (nI s) (nI k) = some (nI (it (mnS t) d (k + 1) (mnS t k s)))
    rw [← ih (k + 1) n _ (by omega) (by omega)]
    unfold fX5_seaAll_L4_b
    rw [if_neg (show ¬ rw1 t 1 ≤ nI k from nI_ge (by omega) (by omega)), if_neg z10, mAboard w (by omega), bd1_s, nI_1]
    unfold mnS
    by_cases e : t (14 + 5 * k) = 1
    · simp only [if_pos e]
      rw [if_neg z10, of3, bd1_s, gdn (by omega) (by decide), nI_clamp (by omega)]
      show fX5_seaAll_L4 g 1 (rw1 t) n (nI s + nI (t (13 + 5 * k))) (nI (k + 1)) = _
      rw [nI_add]
    · simp only [if_neg e]
      rw [if_pos trivial, Int32.add_zero]
theorem oMean (w : WF t) (hg : big g) (R : RV t np nh na ns nd nc nk nf nl nse) (rf : Nat → Int32) (p0 : Int32) : ∃ r rf', fX4_mean g p0 nh na nse rf = some (r, rf') ∧ fX5_mean g p0 (rw1 t) rf = some (r, rf') := by
  have h7 := w.2.1
  have hg' : 100000000000000000000 ≤ g := hg
  unfold fX4_mean fX5_mean
  rw [cNoWhat, bd1_s]
  rcases tri_or p0 (n := 2) (by omega) with h | ⟨q, hq, rfl⟩
  · refine ⟨4000000000000000000 - (-2 : Int32).toInt64, rfz (-2) rf, ?_, ?_⟩
    · rw [show nvF p0 2 = -2 from nw_bad (n := 2) (by omega) h, if_neg zm2, rL4 ok2, bd2_s]
    · rw [show fX5_isIn g p0 0 1 = some 0 from mIsIn_bad (n := 2) (by omega) h, bd1_s, if_pos z00, rL5 ok2, bd2_s]
  · have hS := mnS_le w (t 1) 0 0 (by omega)
    have hM := mnM_le (t := t) (t 1) 0 0
    obtain ⟨r, r1, r2⟩ := ptB (g := g) hg (a := it (mnS t) (t 1) 0 0) (b := it (mnM t) (t 1) 0 0) (q := q) (fun h e => h ((mn_0 (t := t) (t 1) 0 0 0 e).1)) (by omega) (by omega) hq
    refine ⟨r, rf, ?_, ?_⟩
    · rw [show nvF (nI q) 2 = 0 from nw_ok (n := 2) hq (by omega), if_pos z00]
      show bd2 (fX4_mean_L24 g nh na nse g (lN 0) (lN 0) (nI 0)) _ = _
      rw [cMean_L w R (t 1) 0 g 0 0 (by omega) (by omega), bd2_s, r1, bd1_s]
    · have e1 : fX5_seaAll g 1 (rw1 t) = some (nI (it (mnS t) (t 1) 0 0)) := by
        unfold fX5_seaAll
        show bd1 (fX5_seaAll_L4 g 1 (rw1 t) g (nI 0) (nI 0)) _ = _
        rw [mMean_L w (t 1) 0 g 0 (by omega) (by omega), bd1_s]
      rw [show fX5_isIn g (nI q) 0 1 = some 1 from mIsIn_ok (n := 2) hq (by omega), bd1_s, if_neg z10, e1, bd1_s, mAb w hg, bd1_s, mBits hg w.ab_lt, bd1_s, nI_l (by omega)]
      have e2 : pcN (abT t) = it (mnM t) (t 1) 0 0 := pc_ab w (t 1) (by omega)
      rw [e2, nI_l (by omega), r2, bd1_s]
end PC13
