/-! ===== pure level: searching through the days ===== -/
def fdT (p : (Nat → Nat) → Bool) : Nat → Nat → (Nat → Nat) → Option (Nat × (Nat → Nat))
  | 0, _, _ => none
  | d + 1, k, t => if p t = true then some (k, t) else fdT p d (k + 1) (dyT t)
def cmT (c W : Nat) (t : Nat → Nat) : Int32 := match fdT (fun t => t 3 == c) (W + 1) 0 t with
  | some q => nI q.1
  | none => -9
def fpT (t : Nat → Nat) : Nat → Nat → Option Nat
  | 0, _ => none
  | d + 1, k => if t (4 + k) = t 3 then some k else fpT t d (k + 1)
def plcT (t : Nat → Nat) : Int32 := match fpT t (t 0) 0 with
  | some k => nI k
  | none => -9
theorem dyT_ne {t : Nat → Nat} {j : Nat} (h2 : j ≠ 2) (h3 : j ≠ 3) (h : j < 13 ∨ (j - 13) % 5 ≠ 0) : dyT t j = t j := by
  unfold dyT
  rw [pdT_ne h, updN_ne h3, updN_ne h2]
theorem fpT_lt {t : Nat → Nat} : ∀ (d k : Nat) {j : Nat}, fpT t d k = some j → j < k + d
  | 0, _, _, h => by cases h
  | d + 1, k, j, h => by
    unfold fpT at h
    split at h
    · cases h; omega
    · have := fpT_lt d (k + 1) h; omega
theorem plcT_lt {t : Nat → Nat} (w : WF t) : (plcT t = -9 ∧ fpT t (t 0) 0 = none) ∨ ∃ j, j < t 0 ∧ plcT t = nI j := by
  unfold plcT
  cases h : fpT t (t 0) 0 with
  | none => exact Or.inl ⟨rfl, rfl⟩
  | some j => exact Or.inr ⟨j, by have := fpT_lt _ _ h; omega, rfl⟩
section PS
variable {g : Nat} {t : Nat → Nat} {places hands aboard ship day : Int32} {cells kinds figures longings seas : Nat → Int32}
theorem n9 {j : Nat} (h : j < 2 ^ 31) : ¬ nI j = -9 := by
  intro e
  have := nI_pos h
  rw [e] at this
  exact this (by decide)
theorem mComes_L (hg : big g) {c W : Nat} (hc : c < 2 ^ 31) (hW : W + 1 < 2 ^ 31) : ∀ (d k n : Nat) (t : Nat → Nat), WF t → k + d = W + 1 → d < n → ∃ z, fX5_comesIn_L2 g (nI c) (nI W) n (nI k) (rw1 t) = some z ∧ (match fdT (fun t => t 3 == c) d k t with
    | some q => z = .inr (nI q.1, rw1 q.2) ∧ WF q.2
    | none => ∃ u, z = .inl (rw1 u) ∧ WF u) := by
  intro d
  induction d with
  | zero =>
    intro k n t w hk hn
    obtain ⟨n, rfl⟩ : ∃ m, n = m + 1 := ⟨n - 1, by omega⟩
    refine ⟨.inl (rw1 t), ?_, t, rfl, w⟩
    show fX5_comesIn_L2_b g (nI c) (nI W) _ (nI k) (rw1 t) = _
    unfold fX5_comesIn_L2_b
    rw [if_pos (nI_lt (by omega) (by omega))]
  | succ d ih =>
    intro k n t w hk hn
    obtain ⟨n, rfl⟩ : ∃ m, n = m + 1 := ⟨n - 1, by omega⟩
    show ∃ z, fX5_comesIn_L2_b g (nI c) (nI W) (fX5_comesIn_L2 g (nI c) (nI W) n) (nI k) (rw1 t) = some z ∧ _
    unfold fX5_comesIn_L2_b fdT
    have h3 : t 3 < 2 ^ 31 := by have := w.2.2.1; omega
    rw [if_neg (nI_nlt (by omega) (by omega))]
    by_cases e : t 3 = c
    · rw [if_pos (show rw1 t 3 = nI c from congrArg nI e), if_pos (show (t 3 == c) = true by simp [e])]
      exact ⟨_, rfl, rfl, w⟩
    · rw [if_neg (show ¬ rw1 t 3 = nI c from fun h => e ((nI_eq h3 hc).mp h)), if_neg (show ¬ (t 3 == c) = true by simp [e]), mDay w hg, bd1_s, nI_1]
      exact ih (k + 1) n (dyT t) w.day (by omega) (by omega)
theorem mComes (hg : big g) (w : WF t) {c W : Nat} (hc : c < 2 ^ 31) (hW : W < 1000) : ∃ u, fX5_comesIn g (nI c) (nI W) (rw1 t) = some (cmT c W t, rw1 u) ∧ WF u := by
  have hg' : 100000000000000000000 ≤ g := hg
  obtain ⟨z, h1, h2⟩ := mComes_L (g := g) hg hc (W := W) (by omega) (W + 1) 0 g t w (by omega) (by omega)
  unfold fX5_comesIn
  show ∃ u, bs1 (fX5_comesIn_L2 g (nI c) (nI W) g (nI 0) (rw1 t)) _ _ = _ ∧ _
  rw [h1]
  unfold cmT
  cases hq : fdT (fun t => t 3 == c) (W + 1) 0 t with
  | none =>
    rw [hq] at h2
    obtain ⟨u, rfl, hu⟩ := h2
    exact ⟨u, rfl, hu⟩
  | some q =>
    rw [hq] at h2
    obtain ⟨rfl, hu⟩ := h2
    exact ⟨q.2, rfl, hu⟩
theorem mPlace_L (w : WF t) : ∀ (d k n : Nat), k + d = t 0 → d < n → fX5_placeAt_L2 g (rw1 t) n (nI k) = some (match fpT t d k with
    | some j => .inr (nI j)
    | none => .inl ()) := by
  have h6 := w.1
  intro d
  induction d with
  | zero =>
    intro k n hk hn
    obtain ⟨n, rfl⟩ : ∃ m, n = m + 1 := ⟨n - 1, by omega⟩
    show fX5_placeAt_L2_b g (rw1 t) _ (nI k) = _
    unfold fX5_placeAt_L2_b fpT
    rw [if_pos (show rw1 t 0 ≤ nI k from nI_le (by omega) (by omega))]
  | succ d ih =>
    intro k n hk hn
    obtain ⟨n, rfl⟩ : ∃ m, n = m + 1 := ⟨n - 1, by omega⟩
    show fX5_placeAt_L2_b g (rw1 t) (fX5_placeAt_L2 g (rw1 t) n) (nI k) = _
    unfold fX5_placeAt_L2_b fpT
    have h3 : t 3 < 2 ^ 31 := by have := w.2.2.1; omega
    have h4 : t (4 + k) < 2 ^ 31 := by have := w.2.2.2.1 k (by omega); omega
    have e4 : (4 : Int32) + nI k = nI (4 + k) := nI_add 4 k
    rw [if_neg (show ¬ rw1 t 0 ≤ nI k from nI_ge (by omega) (by omega)), e4, gdn (by omega) (by decide)]
    simp only [nI_clamp (show 4 + k < 2 ^ 31 by omega)]
    rw [nI_1, ih (k + 1) n (by omega) (by omega)]
    by_cases e : t (4 + k) = t 3
    · rw [if_pos (show rw1 t (4 + k) = rw1 t 3 from congrArg nI e), if_pos e]
    · rw [if_neg (show ¬ rw1 t (4 + k) = rw1 t 3 from fun h => e ((nI_eq h4 h3).mp h)), if_neg e]
theorem mPlace (w : WF t) (hg : big g) : fX5_placeAt g (rw1 t) = some (plcT t) := by
  have h6 := w.1
  have hg' : 100000000000000000000 ≤ g := hg
  unfold fX5_placeAt plcT
  show bs0 (fX5_placeAt_L2 g (rw1 t) g (nI 0)) _ _ = _
  rw [mPlace_L w (t 0) 0 g (by omega) (by omega)]
  cases fpT t (t 0) 0 <;> rfl
theorem vPlace_L (w : WF t) (R : RV t places hands aboard ship day cells kinds figures longings seas) : ∀ (d k n : Nat), k + d = t 0 → d < n → fX3_placeHere_L2 g places ship cells n (nI k) = some (match fpT t d k with
    | some j => .inr (nI j)
    | none => .inl ()) := by
  have h6 := w.1
  obtain ⟨rfl, -, -, rfl, -, hc, -⟩ := R
  intro d
  induction d with
  | zero =>
    intro k n hk hn
    obtain ⟨n, rfl⟩ : ∃ m, n = m + 1 := ⟨n - 1, by omega⟩
    show fX3_placeHere_L2_b g _ _ cells _ (nI k) = _
    unfold fX3_placeHere_L2_b fpT
    rw [if_pos (nI_le (by omega) (by omega))]
  | succ d ih =>
    intro k n hk hn
    obtain ⟨n, rfl⟩ : ∃ m, n = m + 1 := ⟨n - 1, by omega⟩
    show fX3_placeHere_L2_b g _ _ cells (fX3_placeHere_L2 g _ _ cells n) (nI k) = _
    unfold fX3_placeHere_L2_b fpT
    have h3 : t 3 < 2 ^ 31 := by have := w.2.2.1; omega
    have h4 : t (4 + k) < 2 ^ 31 := by have := w.2.2.2.1 k (by omega); omega
    rw [if_neg (nI_ge (by omega) (by omega)), gdn (by omega) (by decide)]
    simp only [nI_clamp (show k < 2 ^ 31 by omega), hc k (by omega), n1 (t 3) h4 h3]
    rw [nI_1, ih (k + 1) n (by omega) (by omega)]
    by_cases e : t (4 + k) = t 3
    · rw [if_pos e, if_pos e]
    · rw [if_neg e, if_neg e]
theorem vPlace (w : WF t) (hg : big g) (R : RV t places hands aboard ship day cells kinds figures longings seas) : fX3_placeHere g places ship cells = some (plcT t) := by
  have h6 := w.1
  have hg' : 100000000000000000000 ≤ g := hg
  unfold fX3_placeHere plcT
  show bs0 (fX3_placeHere_L2 g places ship cells g (nI 0)) _ _ = _
  rw [vPlace_L w R (t 0) 0 g (by omega) (by omega)]
  cases fpT t (t 0) 0 <;> rfl
/-- the class's voyage comes to a place -/
theorem vReach_L (hg : big g) {p W : Nat} (hW : W + 1 < 2 ^ 31) : ∀ (d k n : Nat) (t : Nat → Nat) (ship day x y : Int32) (seas : Nat → Int32), WF t → RV t places hands aboard ship day cells kinds figures longings seas → p < t 0 → k + d = W + 1 → d < n → ∃ z, fX3_reaches_L2 g (nI p) (nI W) hands aboard cells kinds figures longings n (nI k) ship day x y seas = some z ∧ (match fdT (fun u => u 3 == t (4 + p)) d k t with
    | some q => ∃ a b c e f, z = .inr (nI q.1, a, b, c, e, f)
    | none => ∃ a b c e f, z = .inl (a, b, c, e, f)) := by
  intro d
  induction d with
  | zero =>
    intro k n t ship day x y seas w R hp hk hn
    obtain ⟨n, rfl⟩ : ∃ m, n = m + 1 := ⟨n - 1, by omega⟩
    refine ⟨.inl (ship, day, x, y, seas), ?_, ship, day, x, y, seas, rfl⟩
    show fX3_reaches_L2_b g (nI p) (nI W) hands aboard cells kinds figures longings _ (nI k) ship day x y seas = _
    unfold fX3_reaches_L2_b
    rw [if_pos (nI_lt (by omega) (by omega))]
  | succ d ih =>
    intro k n t ship day x y seas w R hp hk hn
    obtain ⟨n, rfl⟩ : ∃ m, n = m + 1 := ⟨n - 1, by omega⟩
    have h6 := w.1
    show ∃ z, fX3_reaches_L2_b g (nI p) (nI W) hands aboard cells kinds figures longings (fX3_reaches_L2 g (nI p) (nI W) hands aboard cells kinds figures longings n) (nI k) ship day x y seas = some z ∧ _
    unfold fX3_reaches_L2_b fdT
    have h3 : t 3 < 2 ^ 31 := by have := w.2.2.1; omega
    have h4 : t (4 + p) < 2 ^ 31 := by have := w.2.2.2.1 p (by omega); omega
    obtain ⟨x', y', se, g1, g2⟩ := vGoDay (g := g) w hg R
    have e4 : t (4 + p) = dyT t (4 + p) := (dyT_ne (by omega) (by omega) (by omega)).symm
    rw [if_neg (nI_nlt (by omega) (by omega)), gdn (by omega) (by decide), nI_clamp (by omega), R.2.2.2.2.2.1 p hp, g1, bd6_s, R.2.2.2.1, nI_1]
    simp only [n1 (t (4 + p)) h3 h4]
    by_cases e : t 3 = t (4 + p)
    · rw [if_pos e, if_pos (show (t 3 == t (4 + p)) = true by simp [e])]
      exact ⟨_, rfl, _, _, _, _, _, rfl⟩
    · rw [if_neg e, if_neg (show ¬ (t 3 == t (4 + p)) = true by simp [e]), e4]
      exact ih (k + 1) n (dyT t) _ _ _ _ _ w.day g2 (by rw [dyT_ne (by omega) (by omega) (by omega)]; exact hp) (by omega) (by omega)
theorem vReach (hg : big g) (w : WF t) (R : RV t places hands aboard ship day cells kinds figures longings seas) {p W : Nat} (hp : p < t 0) (hW : W < 1000) (x y : Int32) : ∃ a b c e f, fX3_reaches g (nI p) (nI W) hands aboard ship day x y cells kinds figures longings seas = some (cmT (t (4 + p)) W t, a, b, c, e, f) := by
  have hg' : 100000000000000000000 ≤ g := hg
  obtain ⟨z, h1, h2⟩ := vReach_L (g := g) hg (p := p) (W := W) (by omega) (W + 1) 0 g t ship day x y seas w R hp (by omega) (by omega)
  unfold fX3_reaches
  show ∃ a b c e f, bs5 (fX3_reaches_L2 g (nI p) (nI W) hands aboard cells kinds figures longings g (nI 0) ship day x y seas) _ _ = _
  rw [h1]
  unfold cmT
  cases hq : fdT (fun u => u 3 == t (4 + p)) (W + 1) 0 t with
  | none =>
    rw [hq] at h2
    obtain ⟨a, b, c, e, f, rfl⟩ := h2
    exact ⟨a, b, c, e, f, rfl⟩
  | some q =>
    rw [hq] at h2
    obtain ⟨a, b, c, e, f, rfl⟩ := h2
    exact ⟨a, b, c, e, f, rfl⟩
end PS
