/-! ===== pure level: the class's voyage holds the row t ===== -/
def abS (t : Nat → Nat) (k acc : Nat) : Nat := acc + t (14 + 5 * k) * 2 ^ k
def abN (t : Nat → Nat) (n : Nat) : Nat := it (abS t) n 0 0
def abT (t : Nat → Nat) : Nat := abN t (t 1)
theorem abN_s (t : Nat → Nat) (n : Nat) : abN t (n + 1) = abN t n + t (14 + 5 * n) * 2 ^ n := by
  unfold abN
  rw [it_snoc]
  show abS t (0 + n) _ = _
  rw [Nat.zero_add]
  rfl
theorem ab_mod {t : Nat → Nat} {a : Nat} : ∀ n, (∀ h, h < n → a / 2 ^ h % 2 = t (14 + 5 * h)) → a % 2 ^ n = abN t n
  | 0, _ => by rw [Nat.pow_zero, Nat.mod_one]; rfl
  | n + 1, h => by
    rw [abN_s, ← ab_mod n (fun j hj => h j (by omega)), Nat.mod_pow_succ, h n (by omega), Nat.mul_comm]
theorem abN_lt {t : Nat → Nat} : ∀ n, (∀ h, h < n → t (14 + 5 * h) < 2) → abN t n < 2 ^ n
  | 0, _ => by show 0 < 1; omega
  | n + 1, h => by
    have h1 := abN_lt n (fun j hj => h j (by omega))
    have h2 := h n (by omega)
    rw [abN_s, Nat.pow_succ]
    have : t (14 + 5 * n) * 2 ^ n ≤ 1 * 2 ^ n := Nat.mul_le_mul_right _ (by omega)
    omega
theorem abN_bit {t : Nat → Nat} : ∀ n, (∀ h, h < n → t (14 + 5 * h) < 2) → ∀ h, h < n → abN t n / 2 ^ h % 2 = t (14 + 5 * h)
  | 0, _, h, hh => by omega
  | n + 1, hb, h, hh => by
    rw [abN_s]
    by_cases e : h = n
    · subst e
      have h1 := abN_lt h (fun j hj => hb j (by omega))
      have h2 := hb h (by omega)
      rw [Nat.add_mul_div_right _ _ (Nat.two_pow_pos h), Nat.div_eq_of_lt h1]
      omega
    · have h1 := abN_bit n (fun j hj => hb j (by omega)) h (by omega)
      obtain ⟨d, rfl⟩ : ∃ d, n = h + 1 + d := ⟨n - (h + 1), by omega⟩
      have e2 : t (14 + 5 * (h + 1 + d)) * 2 ^ (h + 1 + d) = (2 * (t (14 + 5 * (h + 1 + d)) * 2 ^ d)) * 2 ^ h := by
        rw [Nat.pow_add, Nat.pow_succ]
        simp only [Nat.mul_comm, Nat.mul_left_comm, Nat.mul_assoc]
      rw [e2, Nat.add_mul_div_right _ _ (Nat.two_pow_pos h)]
      omega
theorem ab_uniq {t : Nat → Nat} {a : Nat} (ha : a < 2 ^ t 1) (h : ∀ h, h < t 1 → a / 2 ^ h % 2 = t (14 + 5 * h)) : a = abT t := by
  rw [abT, ← ab_mod (t 1) h, Nat.mod_eq_of_lt ha]
theorem p7 {n : Nat} (h : n ≤ 7) : 2 ^ n ≤ 128 := Nat.pow_le_pow_right (by decide) h
def RV (t : Nat → Nat) (places hands aboard ship day : Int32) (cells kinds figures longings seas : Nat → Int32) : Prop :=
  places = nI (t 0) ∧ hands = nI (t 1) ∧ aboard = nI (abT t) ∧ ship = nI (t 3) ∧ day = nI (t 2) ∧ (∀ i, i < t 0 → cells i = nI (t (4 + i))) ∧
  (∀ h, h < t 1 → kinds h = nI (t (10 + 5 * h)) ∧ figures h = nI (t (11 + 5 * h)) ∧ longings h = nI (t (12 + 5 * h)) ∧ seas h = nI (t (13 + 5 * h)))
theorem stT_comm : ∀ a, a < 64 → ∀ b, b < 64 → stT (nI a) (nI b) = stT (nI b) (nI a) := by decide +kernel
section PV
variable {g : Nat} {t : Nat → Nat} {places hands aboard ship day : Int32} {cells kinds figures longings seas : Nat → Int32}
theorem WF.ab_lt (w : WF t) : abT t < 128 := Nat.lt_of_lt_of_le (abN_lt (t 1) (fun h hh => (w.2.2.2.2.1 h hh).2.2.2.2)) (p7 w.2.1)
theorem WF.ab_bit (w : WF t) {h : Nat} (hh : h < t 1) : abT t / 2 ^ h % 2 = t (14 + 5 * h) := abN_bit (t 1) (fun h hh => (w.2.2.2.2.1 h hh).2.2.2.2) h hh
theorem bit7 : ∀ a, a < 128 → ∀ h, h < 7 → ((nI a >>> (nI h &&& 31)) &&& 1) = nI (a / 2 ^ h % 2) := by decide +kernel
theorem vAboard (w : WF t) {h : Nat} (hh : h < t 1) : fX3_isAboard g (nI h) (nI (abT t)) = some (if t (14 + 5 * h) = 1 then 1 else 0) := by
  have h7 := w.2.1
  have hb := (w.2.2.2.2.1 h hh).2.2.2.2
  unfold fX3_isAboard
  rw [bit7 _ w.ab_lt h (by omega), w.ab_bit hh]
  show (if nI (t (14 + 5 * h)) = nI 1 then _ else _) = _
  have hb2 : t (14 + 5 * h) < 2 ^ 31 := by omega
  simp only [n1 1 hb2 (by decide)]
  split <;> rfl
theorem z_sub (x : Int32) : (0 : Int32) - x = -x := Int32.zero_sub x
theorem abs_fa (x : Int32) : (if 0 ≤ x then x else 0 - x) = fa x := by rw [z_sub]; rfl
theorem vCmp (x : Int32) : fJ6_compare_7cf53 g x 0 = some (sg x) := by
  unfold fJ6_compare_7cf53 sg
  by_cases h : 0 ≤ x
  · rw [if_pos h, if_pos h]
    by_cases e : x = 0
    · subst e; rfl
    · rw [if_neg e, if_neg (fun h2 => e (Int32.le_antisymm h2 h))]
  · rw [if_neg h, if_neg h]
theorem vRowsTo (w : WF t) (R : RV t places hands aboard ship day cells kinds figures longings seas) {h : Nat} (hh : h < t 1) : fX3_rowsTo g (nI h) ship cells longings = some (nI (cT t h) / 8 - nI (t 3) / 8) := by
  have h7 := w.2.1
  obtain ⟨-, -, -, rfl, -, hc, hr⟩ := R
  have hq := (w.2.2.2.2.1 h hh).2.2.1
  have h6 := w.1
  unfold fX3_rowsTo
  rw [gdn (by omega) (by decide), nI_clamp (by omega), (hr h hh).2.2.1, gdn (by omega) (by decide), nI_clamp (by omega), hc _ hq]
  rfl
theorem vColsTo (w : WF t) (R : RV t places hands aboard ship day cells kinds figures longings seas) {h : Nat} (hh : h < t 1) : fX3_columnsTo g (nI h) ship cells longings = some (md8 (nI (cT t h)) - md8 (nI (t 3))) := by
  have h7 := w.2.1
  obtain ⟨-, -, -, rfl, -, hc, hr⟩ := R
  have hq := (w.2.2.2.2.1 h hh).2.2.1
  have h6 := w.1
  unfold fX3_columnsTo
  rw [gdn (by omega) (by decide), nI_clamp (by omega), (hr h hh).2.2.1, gdn (by omega) (by decide), nI_clamp (by omega), hc _ hq]
  rfl
theorem vLeanOf (w : WF t) (R : RV t places hands aboard ship day cells kinds figures longings seas) {h : Nat} (hh : h < t 1) : fX3_leanOf g (nI h) (stT (nI (t 3)) (nI (cT t h))) kinds figures seas = some (lnT t h) := by
  have h7 := w.2.1
  obtain ⟨-, -, -, rfl, -, hc, hr⟩ := R
  have hk := (w.2.2.2.2.1 h hh).1
  unfold fX3_leanOf
  simp only [gdn (show h < 7 by omega) (show 7 < 2 ^ 31 by decide)]
  simp only [nI_clamp (show h < 2 ^ 31 by omega), (hr h hh).1, (hr h hh).2.1, (hr h hh).2.2.2]
  show (if nI (t (10 + 5 * h)) = nI 0 then _ else if nI (t (10 + 5 * h)) = nI 1 then _ else if nI (t (10 + 5 * h)) = nI 2 then _ else if nI (t (10 + 5 * h)) = nI 3 then _ else if nI (t (10 + 5 * h)) = nI 4 then _ else if nI (t (10 + 5 * h)) = nI 5 then _ else _) = _
  have hb2 : t (10 + 5 * h) < 2 ^ 31 := by omega
  simp only [n1 0 hb2 (by decide), n1 1 hb2 (by decide), n1 2 hb2 (by decide), n1 3 hb2 (by decide), n1 4 hb2 (by decide), n1 5 hb2 (by decide)]
  unfold lnT xT fT
  rcases (show t (10 + 5 * h) = 0 ∨ t (10 + 5 * h) = 1 ∨ t (10 + 5 * h) = 2 ∨ t (10 + 5 * h) = 3 ∨ t (10 + 5 * h) = 4 ∨ t (10 + 5 * h) = 5 by omega) with e | e | e | e | e | e <;> rw [e] <;> simp
  split <;> rfl
theorem vWeigh_L (w : WF t) (R : RV t places hands aboard ship day cells kinds figures longings seas) : ∀ (d k n : Nat) (a b : Int32), k + d = t 1 → d < n → fX3_weigh_L12 g hands aboard ship cells kinds figures longings seas n (nI k) a b = some (it (plS t 0 (-9)) d k a, it (plS t 1 (-9)) d k b) := by
  have h7 := w.2.1
  intro d
  induction d with
  | zero =>
    intro k n a b hk hn
    obtain ⟨n, rfl⟩ : ∃ m, n = m + 1 := ⟨n - 1, by omega⟩
    show fX3_weigh_L12_b g hands aboard ship cells kinds figures longings seas _ (nI k) a b = _
    unfold fX3_weigh_L12_b
    rw [R.2.1, if_pos (nI_le (by omega) (by omega))]
    rfl
  | succ d ih =>
    intro k n a b hk hn
    obtain ⟨n, rfl⟩ : ∃ m, n = m + 1 := ⟨n - 1, by omega⟩
    show fX3_weigh_L12_b g hands aboard ship cells kinds figures longings seas (fX3_weigh_L12 g hands aboard ship cells kinds figures longings seas n) (nI k) a b = some (it (plS t 0 (-9)) d (k + 1) (plS t 0 (-9) k a), it (plS t 1 (-9)) d (k + 1) (plS t 1 (-9) k b))
    rw [← ih (k + 1) n _ _ (by omega) (by omega)]
    have hne : ¬ nI k = -9 := by
      intro e
      have := nI_pos (n := k) (by omega)
      rw [e] at this
      exact this (by decide)
    unfold fX3_weigh_L12_b
    rw [if_neg (show ¬ hands ≤ nI k by rw [R.2.1]; exact nI_ge (by omega) (by omega)), vRowsTo w R (by omega), bd1_s, vColsTo w R (by omega), bd1_s, abs_fa, abs_fa]
    rw [show fa (nI (cT t k) / 8 - nI (t 3) / 8) + fa (md8 (nI (cT t k)) - md8 (nI (t 3))) = stT (nI (cT t k)) (nI (t 3)) from rfl]
    rw [stT_comm _ (w.cT_lt (by omega)) _ w.2.2.1, vLeanOf w R (by omega), bd1_s, vCmp, bd1_s, vCmp, bd1_s, nI_1, R.2.2.1, vAboard w (by omega), bd1_s]
    have e10 : ¬ (1 : Int32) = 0 := by decide
    unfold plS
    by_cases e : t (14 + 5 * k) = 1
    · simp only [hne, e, e10, if_true, if_false]
      rfl
    · simp only [hne, e, if_true, if_false]
theorem vWeigh (w : WF t) (hg : big g) (R : RV t places hands aboard ship day cells kinds figures longings seas) : fX3_weigh g hands aboard ship cells kinds figures longings seas = some (plT t 0 (-9), plT t 1 (-9)) := by
  have h7 := w.2.1
  have hg' : 100000000000000000000 ≤ g := hg
  unfold fX3_weigh
  show bd2 (fX3_weigh_L12 g hands aboard ship cells kinds figures longings seas g (nI 0) 0 0) _ = _
  rw [vWeigh_L w R (t 1) 0 g 0 0 (by omega) (by omega), bd2_s]
  rfl
theorem vCourse (X Y : Int32) : fX3_course g X Y = some (crs X Y) := by
  unfold fX3_course crs
  rw [abs_fa, abs_fa]
  by_cases h : fa X ≤ fa Y
  · rw [if_pos h, if_pos h]
    by_cases e : Y = 0
    · subst e; rfl
    · rw [if_neg e]
      by_cases h2 : Y ≤ 0
      · rw [if_pos h2, if_pos h2, if_neg (fun h3 => e (Int32.le_antisymm h2 h3))]
      · rw [if_neg h2, if_neg h2]
  · rw [if_neg h, if_neg h]
    split <;> rfl
theorem vPoints (w : WF t) (hg : big g) (R : RV t places hands aboard ship day cells kinds figures longings seas) : fX3_points g hands aboard ship cells kinds figures longings seas = some (ndT t (-9), plT t 0 (-9), plT t 1 (-9)) := by
  unfold fX3_points
  rw [vWeigh w hg R, bd2_s, vCourse, bd1_s]
  rfl
theorem con_0 : ∀ c, c < 64 → (if nI c / 8 ≤ 0 then nI c else nI c - 8) = wyT (nI c) 0 := by decide +kernel
theorem con_1 : ∀ c, c < 64 → (if 7 ≤ nI c - nI c / 8 * 8 then nI c else nI c + 1) = wyT (nI c) 1 := by decide +kernel
theorem con_2 : ∀ c, c < 64 → (if 7 ≤ nI c / 8 then nI c else nI c + 8) = wyT (nI c) 2 := by decide +kernel
theorem con_3 : ∀ c, c < 64 → (if nI c - nI c / 8 * 8 ≤ 0 then nI c else nI c - 1) = wyT (nI c) 3 := by decide +kernel
theorem vCellOn {c : Nat} (hc : c < 64) (x : Int32) : fX3_cellOn g x (nI c) = some (wyT (nI c) x) := by
  unfold fX3_cellOn fX4_rowOf fX4_columnOf
  simp only [bd1_s]
  by_cases h0 : x = 0
  · subst h0; rw [if_pos rfl, ← con_0 c hc]; split <;> rfl
  rw [if_neg h0]
  by_cases h1 : x = 1
  · subst h1; rw [if_pos rfl, ← con_1 c hc]; split <;> rfl
  rw [if_neg h1]
  by_cases h2 : x = 2
  · subst h2; rw [if_pos rfl, ← con_2 c hc]; split <;> rfl
  rw [if_neg h2]
  by_cases h3 : x = 3
  · subst h3; rw [if_pos rfl, ← con_3 c hc]; split <;> rfl
  rw [if_neg h3]
  unfold wyT
  rw [if_neg h0, if_neg h1, if_neg h2, if_neg h3]
theorem cs_up : ∀ x, x < 100 → (if nI x + 1 < 99 then nI x + 1 else 99) = nI (seT 1 x) := by decide +kernel
theorem cs_dn : ∀ x, x < 100 → (if 0 < nI x - 1 then nI x - 1 else 0) = nI (seT 0 x) := by decide +kernel
theorem vPass_L (w : WF t) : ∀ (d k n : Nat) (se : Nat → Int32), (∀ h, k ≤ h → h < t 1 → se h = nI (t (13 + 5 * h))) → k + d = t 1 → d < n → fX3_passDay_L12 g (nI (t 1)) (nI (abT t)) n (nI k) se = some (fun h => if k ≤ h ∧ h < t 1 then nI (seT (t (14 + 5 * h)) (t (13 + 5 * h))) else se h) := by
  have h7 := w.2.1
  intro d
  induction d with
  | zero =>
    intro k n se hse hk hn
    obtain ⟨n, rfl⟩ : ∃ m, n = m + 1 := ⟨n - 1, by omega⟩
    show fX3_passDay_L12_b g _ _ _ (nI k) se = _
    unfold fX3_passDay_L12_b
    rw [if_pos (nI_le (by omega) (by omega))]
    congr 1
    funext h
    rw [if_neg (by omega)]
  | succ d ih =>
    intro k n se hse hk hn
    obtain ⟨n, rfl⟩ : ∃ m, n = m + 1 := ⟨n - 1, by omega⟩
    have hx := (w.2.2.2.2.1 k (by omega)).2.2.2.1
    show fX3_passDay_L12_b g _ _ (fX3_passDay_L12 g _ _ n) (nI k) se = _
    unfold fX3_passDay_L12_b
    rw [if_neg (nI_ge (by omega) (by omega)), vAboard w (by omega), bd1_s, nI_1]
    simp only [gdn (show k < 7 by omega) (show 7 < 2 ^ 31 by decide), nI_clamp (show k < 2 ^ 31 by omega), hse k (by omega) (by omega)]
    have fin : fX3_passDay_L12 g (nI (t 1)) (nI (abT t)) n (nI (k + 1)) (upd se k (nI (seT (t (14 + 5 * k)) (t (13 + 5 * k))))) = some (fun h => if k ≤ h ∧ h < t 1 then nI (seT (t (14 + 5 * h)) (t (13 + 5 * h))) else se h) := by
      rw [ih (k + 1) n _ (fun h h1 h2 => by unfold upd; rw [if_neg (by omega)]; exact hse h (by omega) h2) (by omega) (by omega)]
      congr 1
      funext h
      unfold upd
      by_cases e : h = k
      · subst e
        rw [if_neg (by omega), if_pos rfl, if_pos (by omega)]
      · by_cases h2 : k + 1 ≤ h ∧ h < t 1
        · rw [if_pos h2, if_pos (by omega)]
        · rw [if_neg h2, if_neg e, if_neg (by omega)]
    by_cases e : t (14 + 5 * k) = 1
    · rw [if_pos e, if_neg (by decide), cs_up _ hx]
      rw [e] at fin
      exact fin
    · rw [if_neg e, if_pos rfl, cs_dn _ hx]
      rw [seT_n1 e] at fin
      exact fin
/-- the row behind the hands' day, place by place -/
theorem itS_at : ∀ (d k : Nat) (t : Nat → Nat) (j : Nat), it dyS d k t j = if 13 ≤ j ∧ (j - 13) % 5 = 0 ∧ k ≤ (j - 13) / 5 ∧ (j - 13) / 5 < k + d then seT (t (j + 1)) (t j) else t j
  | 0, k, t, j => by rw [if_neg (by omega)]; rfl
  | d + 1, k, t, j => by
    show it dyS d (k + 1) (dyS k t) j = _
    rw [itS_at d (k + 1) (dyS k t) j]
    unfold dyS updN
    by_cases e : j = 13 + 5 * k
    · subst e
      rw [if_neg (by omega), if_pos rfl, if_pos (by omega), show 13 + 5 * k + 1 = 14 + 5 * k by omega]
    · rw [if_neg e]
      by_cases h : 13 ≤ j ∧ (j - 13) % 5 = 0 ∧ k + 1 ≤ (j - 13) / 5 ∧ (j - 13) / 5 < k + 1 + d
      · rw [if_pos h, if_neg (by omega), if_pos (by omega)]
      · rw [if_neg h, if_neg (by omega)]
theorem pdT_sea {t : Nat → Nat} {h : Nat} (hh : h < t 1) : pdT t (13 + 5 * h) = seT (t (14 + 5 * h)) (t (13 + 5 * h)) := by
  unfold pdT
  rw [itS_at, if_pos (by omega), show 13 + 5 * h + 1 = 14 + 5 * h by omega]
theorem pdT_ne {t : Nat → Nat} {j : Nat} (h : j < 13 ∨ (j - 13) % 5 ≠ 0) : pdT t j = t j := by
  unfold pdT
  rw [itS_at, if_neg (by omega)]
theorem vPass (w : WF t) (hg : big g) (R : RV t places hands aboard ship day cells kinds figures longings seas) : ∃ se, fX3_passDay g hands aboard day seas = some (nI (t 2 + 1), se) ∧ ∀ h, h < t 1 → se h = nI (seT (t (14 + 5 * h)) (t (13 + 5 * h))) := by
  have h7 := w.2.1
  have hg' : 100000000000000000000 ≤ g := hg
  unfold fX3_passDay
  rw [R.2.1, R.2.2.1]
  show ∃ se, bd1 (fX3_passDay_L12 g (nI (t 1)) (nI (abT t)) g (nI 0) seas) _ = _ ∧ _
  rw [vPass_L w (t 1) 0 g seas (fun h _ h2 => (R.2.2.2.2.2.2 h h2).2.2.2) (by omega) (by omega), bd1_s, R.2.2.2.2.1, nI_1]
  exact ⟨_, rfl, fun h hh => if_pos ⟨by omega, hh⟩⟩
theorem abN_cg {t t' : Nat → Nat} : ∀ n, (∀ h, h < n → t (14 + 5 * h) = t' (14 + 5 * h)) → abN t n = abN t' n
  | 0, _ => rfl
  | n + 1, h => by rw [abN_s, abN_s, abN_cg n (fun j hj => h j (by omega)), h n (by omega)]
theorem abT_cg {t t' : Nat → Nat} (h1 : t 1 = t' 1) (h : ∀ h, h < t 1 → t (14 + 5 * h) = t' (14 + 5 * h)) : abT t = abT t' := by
  unfold abT
  rw [← h1]
  exact abN_cg _ h
/-- the relation behind a day: ship and day told, seas gone on -/
theorem RV.pass (w : WF t) (R : RV t places hands aboard ship day cells kinds figures longings seas) {v : Nat} {se : Nat → Int32} (hse : ∀ h, h < t 1 → se h = nI (seT (t (14 + 5 * h)) (t (13 + 5 * h)))) : RV (pdT (updN (updN t 2 (t 2 + 1)) 3 v)) places hands aboard (nI v) (nI (t 2 + 1)) cells kinds figures longings se := by
  obtain ⟨r1, r2, r3, r4, r5, r6, r7⟩ := R
  have e : ∀ j, j ≠ 2 → j ≠ 3 → updN (updN t 2 (t 2 + 1)) 3 v j = t j := fun j h2 h3 => by rw [updN_ne h3, updN_ne h2]
  refine ⟨?_, ?_, ?_, ?_, ?_, ?_, ?_⟩
  · rw [pdT_ne (by omega), e 0 (by omega) (by omega)]; exact r1
  · rw [pdT_ne (by omega), e 1 (by omega) (by omega)]; exact r2
  · rw [r3]
    refine congrArg nI (abT_cg ?_ ?_)
    · rw [pdT_ne (by omega), e 1 (by omega) (by omega)]
    · intro h hh
      rw [pdT_ne (by omega), e _ (by omega) (by omega)]
  · rw [pdT_ne (by omega), updN_eq]
  · rw [pdT_ne (by omega), updN_ne (by omega), updN_eq]
  · intro i hi
    rw [pdT_ne (by omega), e 0 (by omega) (by omega)] at hi
    have h6 := w.1
    rw [pdT_ne (by omega), e _ (by omega) (by omega)]
    exact r6 i hi
  · intro h hh
    rw [pdT_ne (by omega), e 1 (by omega) (by omega)] at hh
    have q := r7 h hh
    rw [pdT_ne (by omega), pdT_ne (by omega), pdT_ne (by omega), e _ (by omega) (by omega), e _ (by omega) (by omega), e _ (by omega) (by omega), pdT_sea (by rw [e 1 (by omega) (by omega)]; exact hh), e _ (by omega) (by omega), e _ (by omega) (by omega)]
    exact ⟨q.1, q.2.1, q.2.2.1, hse h hh⟩
def goN (t : Nat → Nat) : Int32 := if wyN (t 3) (ndT t (-9)) = t 3 then 0 else 1
theorem vGoDay (w : WF t) (hg : big g) (R : RV t places hands aboard ship day cells kinds figures longings seas) : ∃ x y se, fX3_goDay g hands aboard ship day cells kinds figures longings seas = some (goN t, nI (dyT t 3), nI (dyT t 2), x, y, se) ∧ RV (dyT t) places hands aboard (nI (dyT t 3)) (nI (dyT t 2)) cells kinds figures longings se := by
  have hy := wy_ok w.2.2.1 (ndT t (-9))
  obtain ⟨se, h1, h2⟩ := vPass (g := g) w hg R
  have e3 : dyT t 3 = wyN (t 3) (ndT t (-9)) := by unfold dyT; rw [pdT_ne (by omega), updN_eq]
  have e2 : dyT t 2 = t 2 + 1 := by unfold dyT; rw [pdT_ne (by omega), updN_ne (by omega), updN_eq]
  refine ⟨plT t 0 (-9), plT t 1 (-9), se, ?_, ?_⟩
  · unfold fX3_goDay goN
    rw [vWeigh w hg R, bd2_s, vCourse, bd1_s, h1]
    simp only [bd2_s]
    rw [R.2.2.2.1, vCellOn w.2.2.1, bd1_s, e3, e2]
    show (if wyT (nI (t 3)) (ndT t (-9)) = nI (t 3) then some (0, wyT (nI (t 3)) (ndT t (-9)), _) else some (1, wyT (nI (t 3)) (ndT t (-9)), _)) = _
    have hb2 : wyN (t 3) (ndT t (-9)) < 2 ^ 31 := by omega
    have hb3 : t 3 < 2 ^ 31 := by have := w.2.2.1; omega
    rw [hy.1]
    simp only [n1 (t 3) hb2 hb3]
    split <;> rfl
  · rw [e3, e2]
    exact R.pass w h2
end PV
