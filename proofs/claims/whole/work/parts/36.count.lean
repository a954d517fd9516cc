/-! ===== pure level: the calls, class beside model (11): count ===== -/
theorem ab_st : ∀ k, k < 7 → ∀ a, a < 2 ^ k → ∀ b, b < 2 → (nI a ||| (nI b <<< (nI k &&& 31))) = nI (a + b * 2 ^ k) := by decide +kernel
def ssS (t : Nat → Nat) (k : Nat) (a : Int32) : Int32 := a + nI (t (13 + 5 * k))
section PC11
variable {g : Nat} {t : Nat → Nat} {np nh na ns nd : Int32} {nc nk nf nl nse : Nat → Int32}
theorem mAb_L (w : WF t) : ∀ (d k n : Nat), k + d = t 1 → d < n → fX5_aboardIn_L4 g (rw1 t) n (nI (abN t k)) (nI k) = some (nI (abN t (t 1))) := by
  have h7 := w.2.1
  intro d
  induction d with
  | zero =>
    intro k n hk hn
    obtain ⟨n, rfl⟩ : ∃ m, n = m + 1 := ⟨n - 1, by omega⟩
    show fX5_aboardIn_L4_b g (rw1 t) _ (nI (abN t k)) (nI k) = _
    unfold fX5_aboardIn_L4_b
    rw [if_pos (show rw1 t 1 ≤ nI k from nI_le (by omega) (by omega)), show t 1 = k by omega]
  | succ d ih =>
    intro k n hk hn
    obtain ⟨n, rfl⟩ : ∃ m, n = m + 1 := ⟨n - 1, by omega⟩
    show fX5_aboardIn_L4_b g (rw1 t) (fX5_aboardIn_L4 g (rw1 t) n) (nI (abN t k)) (nI k) = _
    unfold fX5_aboardIn_L4_b
    rw [if_neg (show ¬ rw1 t 1 ≤ nI k from nI_ge (by omega) (by omega)), of4, bd1_s, gdn (by omega) (by decide), nI_clamp (by omega), ab_st k (by omega) _ (abN_lt k (fun h hh => (w.2.2.2.2.1 h (by omega)).2.2.2.2)) _ (w.2.2.2.2.1 k (by omega)).2.2.2.2, ← abN_s, nI_1]
    exact ih (k + 1) n (by omega) (by omega)
theorem mAb (w : WF t) (hg : big g) : fX5_aboardIn g (rw1 t) = some (nI (abT t)) := by
  have h7 := w.2.1
  have hg' : 100000000000000000000 ≤ g := hg
  unfold fX5_aboardIn
  show bd1 (fX5_aboardIn_L4 g (rw1 t) g (nI (abN t 0)) (nI 0)) _ = _
  rw [mAb_L w (t 1) 0 g (by omega) (by omega), bd1_s]
  rfl
theorem vSum (w : WF t) (hg : big g) (R : RV t np nh na ns nd nc nk nf nl nse) : fX3_seaOfAll g nh nse = some (it (ssS t) (t 1) 0 0) ∧ fX5_seaAll g 0 (rw1 t) = some (it (ssS t) (t 1) 0 0) := by
  have h7 := w.2.1
  have hg' : 100000000000000000000 ≤ g := hg
  have L : ∀ (d k n n' : Nat) (a : Int32), k + d = t 1 → d < n → d < n' → fX3_seaOfAll_L4 g nh nse n a (nI k) = some (it (ssS t) d k a) ∧ fX5_seaAll_L4 g 0 (rw1 t) n' a (nI k) = some (it (ssS t) d k a) := by
    intro d
    induction d with
    | zero =>
      intro k n n' a hk hn hn'
      obtain ⟨n, rfl⟩ : ∃ m, n = m + 1 := ⟨n - 1, by omega⟩
      obtain ⟨n', rfl⟩ : ∃ m, n' = m + 1 := ⟨n' - 1, by omega⟩
      refine ⟨?_, ?_⟩
      · show fX3_seaOfAll_L4_b g nh nse _ a (nI k) = _
        unfold fX3_seaOfAll_L4_b
        rw [R.2.1, if_pos (nI_le (by omega) (by omega))]
        rfl
      · show fX5_seaAll_L4_b g 0 (rw1 t) _ a (nI k) = _
        unfold fX5_seaAll_L4_b
        rw [if_pos (show rw1 t 1 ≤ nI k from nI_le (by omega) (by omega))]
        rfl
    | succ d ih =>
      intro k n n' a hk hn hn'
      obtain ⟨n, rfl⟩ : ∃ m, n = m + 1 := ⟨n - 1, by omega⟩
      obtain ⟨n', rfl⟩ : ∃ m, n' = m + 1 := ⟨n' - 1, by omega⟩
      refine ⟨?_, ?_⟩
      · show fX3_seaOfAll_L4_b g nh nse (fX3_seaOfAll_L4 g nh nse n) a (nI k) = _
        unfold fX3_seaOfAll_L4_b
        rw [if_neg (show ¬ nh ≤ nI k by rw [R.2.1]; exact nI_ge (by omega) (by omega)), gdn (by omega) (by decide), nI_clamp (by omega), (R.2.2.2.2.2.2 k (by omega)).2.2.2, nI_1]
        exact (ih (k + 1) n n' _ (by omega) (by omega) (by omega)).1
      · show fX5_seaAll_L4_b g 0 (rw1 t) (fX5_seaAll_L4 g 0 (rw1 t) n') a (nI k) = _
        unfold fX5_seaAll_L4_b
        rw [if_neg (show ¬ rw1 t 1 ≤ nI k from nI_ge (by omega) (by omega)), if_pos z00, of3, bd1_s, gdn (by omega) (by decide), nI_clamp (by omega), nI_1]
        exact (ih (k + 1) n n' _ (by omega) (by omega) (by omega)).2
  have z := L (t 1) 0 g g 0 (by omega) (by omega) (by omega)
  refine ⟨?_, ?_⟩
  · unfold fX3_seaOfAll
    show bd1 (fX3_seaOfAll_L4 g nh nse g 0 (nI 0)) _ = _
    rw [z.1, bd1_s]
  · unfold fX5_seaAll
    show bd1 (fX5_seaAll_L4 g 0 (rw1 t) g 0 (nI 0)) _ = _
    rw [z.2, bd1_s]
/-- what the two switches of count answer, alike -/
theorem cnt_sw (w : WF t) (hg : big g) (R : RV t np nh na ns nd nc nk nf nl nse) (nK nL p0 : Int32) : ∃ r, (if p0 = 0 then some np else if p0 = 1 then some nh else if p0 = 2 then some nd else if p0 = 3 then some ns else if p0 = 4 then some na else if p0 = 5 then bd1 (fX3_seaOfAll g nh nse) (fun r33 => some r33) else if p0 = 6 then some nK else if p0 = 7 then some nL else some (-9)) = some r ∧ (if p0 = 0 then gd (inB p0 45) (some (rw1 t p0.toNatClampNeg)) else if p0 = 1 then gd (inB p0 45) (some (rw1 t p0.toNatClampNeg)) else if p0 = 2 then gd (inB p0 45) (some (rw1 t p0.toNatClampNeg)) else if p0 = 3 then gd (inB p0 45) (some (rw1 t p0.toNatClampNeg)) else if p0 = 4 then bd1 (fX5_aboardIn g (rw1 t)) (fun r34 => some r34) else if p0 = 5 then bd1 (fX5_seaAll g 0 (rw1 t)) (fun r32 => some r32) else if p0 = 6 then some nK else if p0 = 7 then some nL else some (-9)) = some r := by
  obtain ⟨r1, r2, r3, r4, r5, -, -⟩ := id R
  simp only [(vSum w hg R).1, (vSum w hg R).2, mAb w hg, bd1_s]
  rw [r1, r2, r3, r4, r5]
  by_cases h0 : p0 = 0
  · simp only [if_pos h0]; subst h0; exact ⟨nI (t 0), rfl, gd_p (by decide)⟩
  simp only [if_neg h0]
  by_cases h1 : p0 = 1
  · simp only [if_pos h1]; subst h1; exact ⟨nI (t 1), rfl, gd_p (by decide)⟩
  simp only [if_neg h1]
  by_cases h2 : p0 = 2
  · simp only [if_pos h2]; subst h2; exact ⟨nI (t 2), rfl, gd_p (by decide)⟩
  simp only [if_neg h2]
  by_cases h3 : p0 = 3
  · simp only [if_pos h3]; subst h3; exact ⟨nI (t 3), rfl, gd_p (by decide)⟩
  simp only [if_neg h3]
  by_cases h4 : p0 = 4
  · simp only [if_pos h4]; exact ⟨_, rfl, rfl⟩
  simp only [if_neg h4]
  by_cases h5 : p0 = 5
  · simp only [if_pos h5]; exact ⟨_, rfl, rfl⟩
  simp only [if_neg h5]
  by_cases h6 : p0 = 6
  · simp only [if_pos h6]; exact ⟨_, rfl, rfl⟩
  simp only [if_neg h6]
  by_cases h7 : p0 = 7
  · simp only [if_pos h7]; exact ⟨_, rfl, rfl⟩
  simp only [if_neg h7]
  exact ⟨_, rfl, rfl⟩
theorem oCount (w : WF t) (hg : big g) (R : RV t np nh na ns nd nc nk nf nl nse) (nK nL : Int32) (rf : Nat → Int32) (p0 : Int32) : ∃ r, fX4_count g p0 nK np nh na ns nd nse nL rf = some r ∧ fX5_count g p0 nL nK (rw1 t) rf = some r := by
  have sw := cnt_sw (g := g) w hg R nK nL p0
  unfold fX4_count fX5_count fX5_isIn
  by_cases h1 : p0 < 11
  · rw [if_pos h1, if_pos h1, bd1_s, if_pos z00]
    exact sw
  · simp only [if_neg h1]
    have h0 : ¬ p0 < 0 := fun h => h1 (Int32.lt_of_lt_of_le h (by decide))
    obtain ⟨j, hj, rfl⟩ := nI_of h0
    have h11 : 11 ≤ j := by
      rcases Nat.lt_or_ge j 11 with q | q
      · exact absurd (show nI j < 11 from nI_lt (b := 11) q (by omega)) h1
      · exact q
    have e1 : nI j - 11 + 1 = nI (j - 10) := by
      rw [show (11 : Int32) = nI 11 from rfl, pk_sub h11, nI_1, show j - 11 + 1 = j - 10 by omega]
    have e2 : nI j - 10 = nI (j - 10) := by
      rw [show (10 : Int32) = nI 10 from rfl, pk_sub (by omega)]
    rw [e1, e2]
    by_cases h2 : 16 < nI j
    · have h17 : 16 < j := by
        rcases Nat.lt_or_ge 16 j with q | q
        · exact q
        · exact absurd h2 (nI_nlt (a := 16) q (by omega))
      rw [if_pos (show (7 : Int32) ≤ nI (j - 10) from nI_le (a := 7) (by omega) (by omega)), if_pos h2, bd1_s, if_pos z00]
      exact sw
    · have h17 : j ≤ 16 := by
        rcases Nat.lt_or_ge 16 j with q | q
        · exact absurd (show 16 < nI j from nI_lt (a := 16) q (by omega)) h2
        · exact q
      rw [if_neg (show ¬ (7 : Int32) ≤ nI (j - 10) from nI_ge (b := 7) (by omega) (by omega)), if_neg h2, bd1_s, if_neg z10, gdn (by omega) (by decide)]
      exact ⟨_, rfl, rfl⟩
end PC11
