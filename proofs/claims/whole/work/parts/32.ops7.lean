/-! ===== pure level: the calls, class beside model (7): sets of hands; laid by mkops7.py ===== -/
def pcN (q : Nat) : Nat := q % 2 + q / 2 % 2 + q / 4 % 2 + q / 8 % 2 + q / 16 % 2 + q / 32 % 2 + q / 64 % 2
theorem bc7 : ∀ q, q < 128 → fJ6_bitCount_0f7a4 0 (nI q) = some (nI (pcN q)) := by decide +kernel
theorem vBits {g q : Nat} (hq : q < 128) : fJ6_bitCount_0f7a4 g (nI q) = some (nI (pcN q)) := bc7 q hq
def btS (q k : Nat) (a : Int32) : Int32 := a + ((nI q >>> (nI k &&& 31)) &&& 1)
theorem bt7 : ∀ q, q < 128 → it (btS q) 7 0 0 = nI (pcN q) := by decide +kernel
theorem pc_le : ∀ H, H ≤ 7 → ∀ q, q < 2 ^ H → pcN q ≤ H := by decide +kernel
theorem sh7 : ∀ H, H ≤ 7 → ((1 : Int32) <<< (nI H &&& 31)) = nI (2 ^ H) := by decide +kernel
/-- the set that is best: fewest, of several the least -/
def Best (P : Nat → Prop) (M : Nat) (r : Int32) : Prop := (r = -9 ∧ ∀ q, q < M → ¬ P q) ∨ ∃ F, F < M ∧ r = nI F ∧ P F ∧ ∀ q, q < M → P q → pcN F < pcN q ∨ (pcN F = pcN q ∧ F ≤ q)
theorem Best.uniq {P : Nat → Prop} {M : Nat} {r r' : Int32} (h : Best P M r) (h' : Best P M r') : r = r' := by
  rcases h with ⟨rfl, h⟩ | ⟨F, hF, rfl, pF, h⟩
  · rcases h' with ⟨rfl, _⟩ | ⟨F, hF, rfl, pF, _⟩
    · rfl
    · exact absurd pF (h F hF)
  · rcases h' with ⟨rfl, h'⟩ | ⟨F', hF', rfl, pF', h'⟩
    · exact absurd pF (h' F hF)
    · have a := h F' hF' pF'
      have b := h' F hF pF
      rw [show F = F' by omega]
def crS (q : Nat) (h : Nat) (m : Nat → Nat) : Nat → Nat := updN m (14 + 5 * h) (q / 2 ^ h % 2)
def crT (q : Nat) (t : Nat → Nat) : Nat → Nat := it (crS q) (t 1) 0 t
def ltS (q : Nat) (h : Nat) (m : Nat → Nat) : Nat → Nat := if q / 2 ^ h % 2 = 1 then drT h m else m
def ltT (q : Nat) (t : Nat → Nat) : Nat → Nat := it (ltS q) (t 1) 0 t
theorem crS_at (q : Nat) : ∀ (d k : Nat) (m : Nat → Nat) (j : Nat), it (crS q) d k m j = if 14 ≤ j ∧ (j - 14) % 5 = 0 ∧ k ≤ (j - 14) / 5 ∧ (j - 14) / 5 < k + d then q / 2 ^ ((j - 14) / 5) % 2 else m j
  | 0, k, m, j => by rw [if_neg (by omega)]; rfl
  | d + 1, k, m, j => by
    show it (crS q) d (k + 1) (crS q k m) j = _
    rw [crS_at q d (k + 1) (crS q k m) j]
    unfold crS updN
    by_cases e : j = 14 + 5 * k
    · subst e
      rw [if_neg (by omega), if_pos rfl, if_pos (by omega), show (14 + 5 * k - 14) / 5 = k by omega]
    · rw [if_neg e]
      by_cases h : 14 ≤ j ∧ (j - 14) % 5 = 0 ∧ k + 1 ≤ (j - 14) / 5 ∧ (j - 14) / 5 < k + 1 + d
      · rw [if_pos h, if_pos (by omega)]
      · rw [if_neg h, if_neg (by omega)]
theorem crT_ne {q : Nat} {t : Nat → Nat} {j : Nat} (h : j < 14 ∨ (j - 14) % 5 ≠ 0) : crT q t j = t j := by
  unfold crT
  rw [crS_at, if_neg (by omega)]
theorem crT_at {q : Nat} {t : Nat → Nat} {h : Nat} (hh : h < t 1) : crT q t (14 + 5 * h) = q / 2 ^ h % 2 := by
  unfold crT
  rw [crS_at, if_pos (by omega), show (14 + 5 * h - 14) / 5 = h by omega]
section PC7
variable {g : Nat} {t : Nat → Nat} {np nh na ns nd : Int32} {nc nk nf nl nse : Nat → Int32}
theorem mBits_L : ∀ (d k n : Nat) (q : Nat) (a : Int32), k + d = 7 → d < n → fX5_bits_L4 g (nI q) n a (nI k) = some (it (btS q) d k a) := by
  intro d
  induction d with
  | zero =>
    intro k n q a hk hn
    obtain ⟨n, rfl⟩ : ∃ m, n = m + 1 := ⟨n - 1, by omega⟩
    show fX5_bits_L4_b g (nI q) _ a (nI k) = _
    unfold fX5_bits_L4_b
    rw [if_pos (show (7 : Int32) ≤ nI k from nI_le (a := 7) (by omega) (by omega))]
    rfl
  | succ d ih =>
    intro k n q a hk hn
    obtain ⟨n, rfl⟩ : ∃ m, n = m + 1 := ⟨n - 1, by omega⟩
    show fX5_bits_L4_b g (nI q) (fX5_bits_L4 g (nI q) n) a (nI k) = some (it (btS q) d (k + 1) (btS q k a))
    unfold fX5_bits_L4_b
    rw [if_neg (show ¬ (7 : Int32) ≤ nI k from nI_ge (b := 7) (by omega) (by omega)), nI_1]
    exact ih (k + 1) n q _ (by omega) (by omega)
theorem mBits (hg : big g) {q : Nat} (hq : q < 128) : fX5_bits g (nI q) = some (nI (pcN q)) := by
  have hg' : 100000000000000000000 ≤ g := hg
  unfold fX5_bits
  show bd1 (fX5_bits_L4 g (nI q) g 0 (nI 0)) _ = _
  rw [mBits_L 7 0 g q 0 (by omega) (by omega), bd1_s, bt7 q hq]
theorem WF.cr (w : WF t) (q : Nat) : WF (crT q t) := by
  obtain ⟨h0, h1, h3, h4, h5, h6⟩ := w
  refine ⟨by rw [crT_ne (by omega)]; exact h0, by rw [crT_ne (by omega)]; exact h1, by rw [crT_ne (by omega)]; exact h3, ?_, ?_, ?_⟩
  · intro i hi
    rw [crT_ne (by omega)] at hi
    rw [crT_ne (by omega)]; exact h4 i hi
  · intro h hh
    rw [crT_ne (by omega)] at hh
    rw [crT_ne (by omega), crT_ne (by omega), crT_ne (by omega), crT_ne (by omega), crT_ne (by omega), crT_at hh]
    exact ⟨(h5 h hh).1, (h5 h hh).2.1, (h5 h hh).2.2.1, (h5 h hh).2.2.2.1, by omega⟩
  · intro k hk
    unfold crT
    rw [crS_at, if_neg (by omega)]
    exact h6 k hk
theorem cr_ab (w : WF t) {q : Nat} (hq : q < 2 ^ t 1) : q = abT (crT q t) := by
  have e1 : crT q t 1 = t 1 := crT_ne (by omega)
  refine ab_uniq (by rw [e1]; exact hq) (fun h hh => ?_)
  rw [e1] at hh
  rw [crT_at hh]
theorem mCr_L (w : WF t) {q : Nat} (hq : q < 128) : ∀ (d k n : Nat) (m : Nat → Nat), k + d = t 1 → d < n → fX5_crew_L72 g (nI q) (rw1 t) n (nI k) (rw1 m) = some (rw1 (it (crS q) d k m)) := by
  have h7 := w.2.1
  intro d
  induction d with
  | zero =>
    intro k n m hk hn
    obtain ⟨n, rfl⟩ : ∃ m, n = m + 1 := ⟨n - 1, by omega⟩
    show fX5_crew_L72_b g (nI q) (rw1 t) _ (nI k) (rw1 m) = _
    unfold fX5_crew_L72_b
    rw [if_pos (show rw1 t 1 ≤ nI k from nI_le (by omega) (by omega))]
    rfl
  | succ d ih =>
    intro k n m hk hn
    obtain ⟨n, rfl⟩ : ∃ m, n = m + 1 := ⟨n - 1, by omega⟩
    show fX5_crew_L72_b g (nI q) (rw1 t) (fX5_crew_L72 g (nI q) (rw1 t) n) (nI k) (rw1 m) = some (rw1 (it (crS q) d (k + 1) (crS q k m)))
    unfold fX5_crew_L72_b
    rw [if_neg (show ¬ rw1 t 1 ≤ nI k from nI_ge (by omega) (by omega)), of4, bd1_s, gdn (by omega) (by decide), nI_clamp (by omega), bit7 q hq k (by omega), upd_rw, nI_1]
    exact ih (k + 1) n _ (by omega) (by omega)
theorem ltS_ne {q h : Nat} {m : Nat → Nat} {j : Nat} (e : j < 13 ∨ (j - 13) % 5 ≠ 0) : ltS q h m j = m j := by
  unfold ltS
  split
  · unfold drT; exact updN_ne (by omega)
  · rfl
theorem ltI_ne {q : Nat} : ∀ (d k : Nat) (m : Nat → Nat) {j : Nat}, (j < 13 ∨ (j - 13) % 5 ≠ 0) → it (ltS q) d k m j = m j
  | 0, _, _, _, _ => rfl
  | d + 1, k, m, j, e => by
    show it (ltS q) d (k + 1) (ltS q k m) j = _
    rw [ltI_ne d (k + 1) _ e, ltS_ne e]
theorem WF.lts1 {m : Nat → Nat} (w : WF m) {q h : Nat} (hh : h < m 1) : WF (ltS q h m) := by
  unfold ltS
  split
  · exact w.drop hh
  · exact w
theorem vLt_L {q : Nat} (hq : q < 128) : ∀ (d k n : Nat) (m : Nat → Nat) (se : Nat → Int32), WF m → RV m np nh na ns nd nc nk nf nl se → k + d = m 1 → d < n → ∃ se', fX3_dropLetters_L2 g (nI q) nh n (nI k) se = some se' ∧ WF (it (ltS q) d k m) ∧ RV (it (ltS q) d k m) np nh na ns nd nc nk nf nl se' := by
  intro d
  induction d with
  | zero =>
    intro k n m se w R hk hn
    obtain ⟨n, rfl⟩ : ∃ m, n = m + 1 := ⟨n - 1, by omega⟩
    have h7 := w.2.1
    refine ⟨se, ?_, w, R⟩
    show fX3_dropLetters_L2_b g (nI q) nh _ (nI k) se = _
    unfold fX3_dropLetters_L2_b
    rw [R.2.1, if_pos (nI_le (by omega) (by omega))]
  | succ d ih =>
    intro k n m se w R hk hn
    obtain ⟨n, rfl⟩ : ∃ m, n = m + 1 := ⟨n - 1, by omega⟩
    have h7 := w.2.1
    have e1 : ltS q k m 1 = m 1 := ltS_ne (by omega)
    have eb : ((nI q >>> (nI k &&& 31)) &&& 1 = (1 : Int32)) = (q / 2 ^ k % 2 = 1) := by rw [bit7 q hq k (by omega)]; exact n1 1 (by omega) (by decide)
    show ∃ se', fX3_dropLetters_L2_b g (nI q) nh (fX3_dropLetters_L2 g (nI q) nh n) (nI k) se = some se' ∧ WF (it (ltS q) d (k + 1) (ltS q k m)) ∧ RV (it (ltS q) d (k + 1) (ltS q k m)) np nh na ns nd nc nk nf nl se'
    have hw := WF.lts1 (q := q) w (h := k) (by omega)
    unfold fX3_dropLetters_L2_b
    rw [if_neg (show ¬ nh ≤ nI k by rw [R.2.1]; exact nI_ge (by omega) (by omega)), vDrop w R (by omega), bd1_s, nI_1]
    simp only [eb]
    by_cases e : q / 2 ^ k % 2 = 1
    · simp only [if_pos e]
      refine ih (k + 1) n _ _ hw ?_ (by rw [e1]; omega) (by omega)
      unfold ltS
      rw [if_pos e]
      exact R.sea w (by omega)
    · simp only [if_neg e]
      refine ih (k + 1) n _ _ hw ?_ (by rw [e1]; omega) (by omega)
      unfold ltS
      rw [if_neg e]
      exact R
theorem mLt_L (w : WF t) {q : Nat} (hq : q < 128) : ∀ (d k n : Nat) (m : Nat → Nat), WF m → m 1 = t 1 → k + d = t 1 → d < n → fX5_letters_L72 g (nI q) (rw1 t) n (nI k) (rw1 m) = some (rw1 (it (ltS q) d k m)) := by
  have h7 := w.2.1
  intro d
  induction d with
  | zero =>
    intro k n m wm hm hk hn
    obtain ⟨n, rfl⟩ : ∃ m, n = m + 1 := ⟨n - 1, by omega⟩
    show fX5_letters_L72_b g (nI q) (rw1 t) _ (nI k) (rw1 m) = _
    unfold fX5_letters_L72_b
    rw [if_pos (show rw1 t 1 ≤ nI k from nI_le (by omega) (by omega))]
    rfl
  | succ d ih =>
    intro k n m wm hm hk hn
    obtain ⟨n, rfl⟩ : ∃ m, n = m + 1 := ⟨n - 1, by omega⟩
    have e1 : ltS q k m 1 = m 1 := ltS_ne (by omega)
    have eb : ((nI q >>> (nI k &&& 31)) &&& 1 = (1 : Int32)) = (q / 2 ^ k % 2 = 1) := by rw [bit7 q hq k (by omega)]; exact n1 1 (by omega) (by decide)
    have hw := WF.lts1 (q := q) wm (h := k) (by omega)
    show fX5_letters_L72_b g (nI q) (rw1 t) (fX5_letters_L72 g (nI q) (rw1 t) n) (nI k) (rw1 m) = some (rw1 (it (ltS q) d (k + 1) (ltS q k m)))
    rw [← ih (k + 1) n (ltS q k m) hw (by rw [e1]; exact hm) (by omega) (by omega)]
    unfold fX5_letters_L72_b fX5_has
    rw [if_neg (show ¬ rw1 t 1 ≤ nI k from nI_ge (by omega) (by omega)), mDrop wm (by omega), bd1_s, nI_1]
    simp only [eb]
    unfold ltS
    by_cases e : q / 2 ^ k % 2 = 1
    · simp only [if_pos e, bd1_s, if_neg z10]
    · simp only [if_neg e, bd1_s, if_true]

end PC7
