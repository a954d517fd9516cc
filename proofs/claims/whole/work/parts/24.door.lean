/-! ===== pure level: days on, doors, ways ===== -/
def waS (q : Int32 × (Nat → Nat)) : Int32 × (Nat → Nat) := (if goN q.2 = 0 then q.1 else q.1 + 1, dyT q.2)
theorem wa_2 : ∀ (d k : Nat) (a : Int32) (t : Nat → Nat), (it (fun _ => waS) d k (a, t)).2 = it (fun _ => dyT) d k t
  | 0, _, _, _ => rfl
  | d + 1, k, a, t => wa_2 d (k + 1) _ (dyT t)
def waT (N : Nat) (t : Nat → Nat) : Int32 := (it (fun _ => waS) N 0 ((0 : Int32), t)).1
def pPl (u : Nat → Nat) : Bool := (fpT u (u 0) 0).isSome
def pSp (u : Nat → Nat) : Bool := decide (ndT u (-9) = -9)
def pRe (u : Nat → Nat) : Bool := decide (goN u = 0)
def dr0 (W : Nat) (t : Nat → Nat) : Int32 := match fdT pPl (W + 1) 0 t with
  | some q => plcT q.2
  | none => -9
def dr1 (W : Nat) (t : Nat → Nat) : Int32 := match fdT pSp (W + 1) 0 t with
  | some q => nI q.1
  | none => -9
def dr2 (W : Nat) (t : Nat → Nat) : Int32 := match fdT pRe (W + 1) 0 t with
  | some q => nI q.1
  | none => -9
theorem crs_neg (R C : Int32) : crs R C < 0 ↔ crs R C = -9 := by
  unfold crs
  (repeat' split) <;> decide
theorem nd_neg (t : Nat → Nat) (b : Int32) : ndT t b < 0 ↔ ndT t b = -9 := crs_neg _ _
theorem pl_neg {t : Nat → Nat} (w : WF t) : (plcT t < 0 ↔ pPl t = false) ∧ (plcT t = -9 ↔ pPl t = false) := by
  have h6 := w.1
  unfold pPl plcT
  cases h : fpT t (t 0) 0 with
  | none => exact ⟨⟨fun _ => rfl, fun _ => by decide⟩, ⟨fun _ => rfl, fun _ => rfl⟩⟩
  | some j =>
    have := fpT_lt _ _ h
    refine ⟨⟨fun e => absurd e (nI_pos (by omega)), fun e => by cases e⟩, ⟨fun e => absurd e (n9 (by omega)), fun e => by cases e⟩⟩
/-- what is found, or not, without looking at the search -/
def mt {α : Type} (o : Option α) (P : α → Prop) (N : Prop) : Prop := (∀ q, o = some q → P q) ∧ (o = none → N)
theorem mt_s {α : Type} {q : α} {P : α → Prop} {N : Prop} (h : P q) : mt (some q) P N := ⟨fun _ e => (by cases e; exact h), fun e => (by cases e)⟩
theorem mt_n {α : Type} {P : α → Prop} {N : Prop} (h : N) : mt (none : Option α) P N := ⟨fun _ e => (by cases e), fun _ => h⟩
section PO
variable {g : Nat} {t : Nat → Nat} {places hands aboard ship day : Int32} {cells kinds figures longings seas : Nat → Int32}
theorem vDays_L (hg : big g) {N : Nat} (hN : N < 2 ^ 31) : ∀ (d k n : Nat) (a : Int32) (t : Nat → Nat) (ship day x y : Int32) (seas : Nat → Int32), WF t → RV t places hands aboard ship day cells kinds figures longings seas → k + d = N → d < n → ∃ x' y' se, fX3_goDays_L4 g (nI N) hands aboard cells kinds figures longings n a (nI k) ship day x y seas = some ((it (fun _ => waS) d k (a, t)).1, nI (it (fun _ => dyT) d k t 3), nI (it (fun _ => dyT) d k t 2), x', y', se) ∧ RV (it (fun _ => dyT) d k t) places hands aboard (nI (it (fun _ => dyT) d k t 3)) (nI (it (fun _ => dyT) d k t 2)) cells kinds figures longings se := by
  intro d
  induction d with
  | zero =>
    intro k n a t ship day x y seas w R hk hn
    obtain ⟨n, rfl⟩ : ∃ m, n = m + 1 := ⟨n - 1, by omega⟩
    refine ⟨x, y, seas, ?_, ?_⟩
    · show fX3_goDays_L4_b g (nI N) hands aboard cells kinds figures longings _ a (nI k) ship day x y seas = _
      unfold fX3_goDays_L4_b
      rw [if_pos (nI_le (by omega) (by omega)), R.2.2.2.1, R.2.2.2.2.1]
      rfl
    · show RV t places hands aboard (nI (t 3)) (nI (t 2)) cells kinds figures longings seas
      rw [← R.2.2.2.1, ← R.2.2.2.2.1]
      exact R
  | succ d ih =>
    intro k n a t ship day x y seas w R hk hn
    obtain ⟨n, rfl⟩ : ∃ m, n = m + 1 := ⟨n - 1, by omega⟩
    obtain ⟨x', y', se, g1, g2⟩ := vGoDay (g := g) w hg R
    show ∃ x' y' se, fX3_goDays_L4_b g (nI N) hands aboard cells kinds figures longings (fX3_goDays_L4 g (nI N) hands aboard cells kinds figures longings n) a (nI k) ship day x y seas = some ((it (fun _ => waS) d (k + 1) (waS (a, t))).1, _, _, x', y', se) ∧ _
    unfold fX3_goDays_L4_b
    rw [if_neg (nI_ge (by omega) (by omega)), g1, bd6_s, nI_1]
    unfold waS
    by_cases e : goN t = 0
    · rw [if_pos e]
      simp only [if_pos e]
      exact ih (k + 1) n a (dyT t) _ _ _ _ _ w.day g2 (by omega) (by omega)
    · rw [if_neg e]
      simp only [if_neg e]
      exact ih (k + 1) n (a + 1) (dyT t) _ _ _ _ _ w.day g2 (by omega) (by omega)
theorem vDays (hg : big g) (w : WF t) (R : RV t places hands aboard ship day cells kinds figures longings seas) {N : Nat} (hN : N < 1000) (x y : Int32) : ∃ x' y' se, fX3_goDays g (nI N) hands aboard ship day x y cells kinds figures longings seas = some (waT N t, nI (daysT N t 3), nI (daysT N t 2), x', y', se) ∧ RV (daysT N t) places hands aboard (nI (daysT N t 3)) (nI (daysT N t 2)) cells kinds figures longings se := by
  have hg' : 100000000000000000000 ≤ g := hg
  obtain ⟨x', y', se, h1, h2⟩ := vDays_L (g := g) hg (N := N) (by omega) N 0 g 0 t ship day x y seas w R (by omega) (by omega)
  refine ⟨x', y', se, ?_, h2⟩
  unfold fX3_goDays
  show bd6 (fX3_goDays_L4 g (nI N) hands aboard cells kinds figures longings g 0 (nI 0) ship day x y seas) _ = _
  rw [h1, bd6_s]
  rfl
theorem vFP_L (hg : big g) {W : Nat} (hW : W + 1 < 2 ^ 31) : ∀ (d k n : Nat) (t : Nat → Nat) (ship day x y : Int32) (seas : Nat → Int32), WF t → RV t places hands aboard ship day cells kinds figures longings seas → k + d = W + 1 → d < n → ∃ z, fX3_firstPlace_L2 g (nI W) places hands aboard cells kinds figures longings n (nI k) ship day x y seas = some z ∧ (match fdT pPl d k t with
    | some q => ∃ o1 o2 o3 o4 o5, z = .inr (plcT q.2, o1, o2, o3, o4, o5)
    | none => ∃ o1 o2 o3 o4 o5, z = .inl (o1, o2, o3, o4, o5)) := by
  intro d
  induction d with
  | zero =>
    intro k n t ship day x y seas w R hk hn
    obtain ⟨n, rfl⟩ : ∃ m, n = m + 1 := ⟨n - 1, by omega⟩
    refine ⟨.inl (ship, day, x, y, seas), ?_, ship, day, x, y, seas, rfl⟩
    show fX3_firstPlace_L2_b g (nI W) places hands aboard cells kinds figures longings _ (nI k) ship day x y seas = _
    unfold fX3_firstPlace_L2_b
    rw [if_pos (nI_lt (by omega) (by omega))]
  | succ d ih =>
    intro k n t ship day x y seas w R hk hn
    obtain ⟨n, rfl⟩ : ∃ m, n = m + 1 := ⟨n - 1, by omega⟩
    show ∃ z, fX3_firstPlace_L2_b g (nI W) places hands aboard cells kinds figures longings (fX3_firstPlace_L2 g (nI W) places hands aboard cells kinds figures longings n) (nI k) ship day x y seas = some z ∧ _
    unfold fX3_firstPlace_L2_b fdT
    obtain ⟨x', y', se, g1, g2⟩ := vGoDay (g := g) w hg R
    have hp := pl_neg w
    rw [if_neg (nI_nlt (by omega) (by omega)), vPlace w hg R, bd1_s, g1, bd6_s, nI_1]
    by_cases e : pPl t = true
    · rw [if_neg (show ¬ plcT t = -9 from fun h => by rw [hp.2.mp h] at e; cases e), if_pos e]
      exact ⟨_, rfl, _, _, _, _, _, rfl⟩
    · rw [if_pos (hp.2.mpr (by simpa using e)), if_neg e]
      exact ih (k + 1) n (dyT t) _ _ _ _ _ w.day g2 (by omega) (by omega)
theorem vFP (hg : big g) (w : WF t) (R : RV t places hands aboard ship day cells kinds figures longings seas) {W : Nat} (hW : W < 1000) (x y : Int32) : ∃ o1 o2 o3 o4 o5, fX3_firstPlace g (nI W) places hands aboard ship day x y cells kinds figures longings seas = some (dr0 W t, o1, o2, o3, o4, o5) := by
  have hg' : 100000000000000000000 ≤ g := hg
  obtain ⟨z, h1, h2⟩ := vFP_L (g := g) hg (W := W) (by omega) (W + 1) 0 g t ship day x y seas w R (by omega) (by omega)
  unfold fX3_firstPlace
  show ∃ o1 o2 o3 o4 o5, bs5 (fX3_firstPlace_L2 g (nI W) places hands aboard cells kinds figures longings g (nI 0) ship day x y seas) _ _ = _
  rw [h1]
  unfold dr0
  cases hq : fdT pPl (W + 1) 0 t with
  | none =>
    rw [hq] at h2
    obtain ⟨o1, o2, o3, o4, o5, rfl⟩ := h2
    exact ⟨o1, o2, o3, o4, o5, rfl⟩
  | some q =>
    rw [hq] at h2
    obtain ⟨o1, o2, o3, o4, o5, rfl⟩ := h2
    exact ⟨o1, o2, o3, o4, o5, rfl⟩
theorem vFS_L (hg : big g) {W : Nat} (hW : W + 1 < 2 ^ 31) : ∀ (d k n : Nat) (t : Nat → Nat) (ship day x y : Int32) (seas : Nat → Int32), WF t → RV t places hands aboard ship day cells kinds figures longings seas → k + d = W + 1 → d < n → ∃ z, fX3_firstSpin_L2 g (nI W) hands aboard cells kinds figures longings n (nI k) ship day x y seas = some z ∧ (match fdT pSp d k t with
    | some q => ∃ o1 o2 o3 o4 o5, z = .inr (nI q.1, o1, o2, o3, o4, o5)
    | none => ∃ o1 o2 o3 o4 o5, z = .inl (o1, o2, o3, o4, o5)) := by
  intro d
  induction d with
  | zero =>
    intro k n t ship day x y seas w R hk hn
    obtain ⟨n, rfl⟩ : ∃ m, n = m + 1 := ⟨n - 1, by omega⟩
    refine ⟨.inl (ship, day, x, y, seas), ?_, ship, day, x, y, seas, rfl⟩
    show fX3_firstSpin_L2_b g (nI W) hands aboard cells kinds figures longings _ (nI k) ship day x y seas = _
    unfold fX3_firstSpin_L2_b
    rw [if_pos (nI_lt (by omega) (by omega))]
  | succ d ih =>
    intro k n t ship day x y seas w R hk hn
    obtain ⟨n, rfl⟩ : ∃ m, n = m + 1 := ⟨n - 1, by omega⟩
    show ∃ z, fX3_firstSpin_L2_b g (nI W) hands aboard cells kinds figures longings (fX3_firstSpin_L2 g (nI W) hands aboard cells kinds figures longings n) (nI k) ship day x y seas = some z ∧ _
    unfold fX3_firstSpin_L2_b fdT
    obtain ⟨x', y', se, g1, g2⟩ := vGoDay (g := g) w hg R
    rw [if_neg (nI_nlt (by omega) (by omega)), vPoints w hg R, bd3_s, g1, bd6_s, nI_1]
    by_cases e : ndT t (-9) = -9
    · rw [if_pos e, if_pos (show pSp t = true by simp [pSp, e])]
      exact ⟨_, rfl, _, _, _, _, _, rfl⟩
    · rw [if_neg e, if_neg (show ¬ pSp t = true by simp [pSp, e])]
      exact ih (k + 1) n (dyT t) _ _ _ _ _ w.day g2 (by omega) (by omega)
theorem vFS (hg : big g) (w : WF t) (R : RV t places hands aboard ship day cells kinds figures longings seas) {W : Nat} (hW : W < 1000) (x y : Int32) : ∃ o1 o2 o3 o4 o5, fX3_firstSpin g (nI W) hands aboard ship day x y cells kinds figures longings seas = some (dr1 W t, o1, o2, o3, o4, o5) := by
  have hg' : 100000000000000000000 ≤ g := hg
  obtain ⟨z, h1, h2⟩ := vFS_L (g := g) hg (W := W) (by omega) (W + 1) 0 g t ship day x y seas w R (by omega) (by omega)
  unfold fX3_firstSpin
  show ∃ o1 o2 o3 o4 o5, bs5 (fX3_firstSpin_L2 g (nI W) hands aboard cells kinds figures longings g (nI 0) ship day x y seas) _ _ = _
  rw [h1]
  unfold dr1
  cases hq : fdT pSp (W + 1) 0 t with
  | none =>
    rw [hq] at h2
    obtain ⟨o1, o2, o3, o4, o5, rfl⟩ := h2
    exact ⟨o1, o2, o3, o4, o5, rfl⟩
  | some q =>
    rw [hq] at h2
    obtain ⟨o1, o2, o3, o4, o5, rfl⟩ := h2
    exact ⟨o1, o2, o3, o4, o5, rfl⟩
theorem vFR_L (hg : big g) {W : Nat} (hW : W + 1 < 2 ^ 31) : ∀ (d k n : Nat) (t : Nat → Nat) (ship day x y : Int32) (seas : Nat → Int32), WF t → RV t places hands aboard ship day cells kinds figures longings seas → k + d = W + 1 → d < n → ∃ z, fX3_firstRest_L2 g (nI W) hands aboard cells kinds figures longings n (nI k) ship day x y seas = some z ∧ mt (fdT pRe d k t) (fun q => ∃ o1 o2 o3 o4 o5, z = .inr (nI q.1, o1, o2, o3, o4, o5)) (∃ o1 o2 o3 o4 o5, z = .inl (o1, o2, o3, o4, o5)) := by
  intro d
  induction d with
  | zero =>
    intro k n t ship day x y seas w R hk hn
    obtain ⟨n, rfl⟩ : ∃ m, n = m + 1 := ⟨n - 1, by omega⟩
    refine ⟨.inl (ship, day, x, y, seas), ?_, mt_n ⟨ship, day, x, y, seas, rfl⟩⟩
    show fX3_firstRest_L2_b g (nI W) hands aboard cells kinds figures longings _ (nI k) ship day x y seas = _
    unfold fX3_firstRest_L2_b
    rw [if_pos (nI_lt (by omega) (by omega))]
  | succ d ih =>
    intro k n t ship day x y seas w R hk hn
    obtain ⟨n, rfl⟩ : ∃ m, n = m + 1 := ⟨n - 1, by omega⟩
    show ∃ z, fX3_firstRest_L2_b g (nI W) hands aboard cells kinds figures longings (fX3_firstRest_L2 g (nI W) hands aboard cells kinds figures longings n) (nI k) ship day x y seas = some z ∧ _
    unfold fX3_firstRest_L2_b fdT
    obtain ⟨x', y', se, g1, g2⟩ := vGoDay (g := g) w hg R
    rw [if_neg (nI_nlt (by omega) (by omega)), g1, bd6_s, nI_1]
    by_cases e : goN t = 0
    · rw [if_pos e, if_pos (show pRe t = true by simp [pRe, e])]
      exact ⟨_, rfl, mt_s ⟨_, _, _, _, _, rfl⟩⟩
    · rw [if_neg e, if_neg (show ¬ pRe t = true by simp [pRe, e])]
      exact ih (k + 1) n (dyT t) _ _ _ _ _ w.day g2 (by omega) (by omega)
theorem vFR (hg : big g) (w : WF t) (R : RV t places hands aboard ship day cells kinds figures longings seas) {W : Nat} (hW : W < 1000) (x y : Int32) : ∃ o1 o2 o3 o4 o5, fX3_firstRest g (nI W) hands aboard ship day x y cells kinds figures longings seas = some (dr2 W t, o1, o2, o3, o4, o5) := by
  have hg' : 100000000000000000000 ≤ g := hg
  obtain ⟨z, h1, h2⟩ := vFR_L (g := g) hg (W := W) (by omega) (W + 1) 0 g t ship day x y seas w R (by omega) (by omega)
  unfold fX3_firstRest
  show ∃ o1 o2 o3 o4 o5, bs5 (fX3_firstRest_L2 g (nI W) hands aboard cells kinds figures longings g (nI 0) ship day x y seas) _ _ = _
  rw [h1]
  unfold dr2
  cases hq : fdT pRe (W + 1) 0 t with
  | none =>
    obtain ⟨o1, o2, o3, o4, o5, rfl⟩ := h2.2 hq
    exact ⟨o1, o2, o3, o4, o5, rfl⟩
  | some q =>
    obtain ⟨o1, o2, o3, o4, o5, rfl⟩ := h2.1 q hq
    exact ⟨o1, o2, o3, o4, o5, rfl⟩
theorem mDoor0_L (hg : big g) (rf : Nat → Int32) {W : Nat} (hW : W = 60) : ∀ (d k n : Nat) (t : Nat → Nat), WF t → k + d = W + 1 → d < n → ∃ z, fX5_door_L29 g 0 rf n (nI k) (rw1 t) = some z ∧ (match fdT pPl d k t with
    | some q => z = .inr (plcT q.2, rw1 q.2, rf) ∧ WF q.2
    | none => ∃ u, z = .inl (rw1 u) ∧ WF u) := by
  intro d
  induction d with
  | zero =>
    intro k n t w hk hn
    obtain ⟨n, rfl⟩ : ∃ m, n = m + 1 := ⟨n - 1, by omega⟩
    refine ⟨.inl (rw1 t), ?_, t, rfl, w⟩
    show fX5_door_L29_b g 0 rf _ (nI k) (rw1 t) = _
    unfold fX5_door_L29_b
    rw [if_pos (show (60 : Int32) < nI k from nI_lt (a := 60) (by omega) (by omega))]
  | succ d ih =>
    intro k n t w hk hn
    obtain ⟨n, rfl⟩ : ∃ m, n = m + 1 := ⟨n - 1, by omega⟩
    show ∃ z, fX5_door_L29_b g 0 rf (fX5_door_L29 g 0 rf n) (nI k) (rw1 t) = some z ∧ _
    unfold fX5_door_L29_b fdT
    have e01 : ¬ (0 : Int32) = 1 := by decide
    have e02 : ¬ (0 : Int32) = 2 := by decide
    have e10 : ¬ (1 : Int32) = 0 := by decide
    have e12 : ¬ (1 : Int32) = 2 := by decide
    have e20 : ¬ (2 : Int32) = 0 := by decide
    have e21 : ¬ (2 : Int32) = 1 := by decide
    rw [if_neg (show ¬ (60 : Int32) < nI k from nI_nlt (a := 60) (by omega) (by omega))]
    have hp := pl_neg w
    simp only [e01, e02, if_true, if_false, mNeedle w hg, mPlace w hg, mDay w hg, bd1_s, nI_1]
    by_cases e : pPl t = true
    · simp only [show ¬ plcT t < 0 from fun h => by (rw [hp.1.mp h] at e; cases e), e, if_true, if_false]
      exact ⟨_, rfl, rfl, w⟩
    · simp only [show plcT t < 0 from hp.1.mpr (by simpa using e), e, if_true, if_false]
      exact ih (k + 1) n (dyT t) w.day (by omega) (by omega)
theorem mDoor0 (hg : big g) (w : WF t) (rf : Nat → Int32) {W : Nat} (hW : W = 60) : ∃ u, bs1 (fX5_door_L29 g 0 rf g 0 (rw1 t)) (fun q => some q) (fun t60 => some ((-9 : Int32), t60, rf)) = some (dr0 W t, rw1 u, rf) ∧ WF u := by
  have hg' : 100000000000000000000 ≤ g := hg
  obtain ⟨z, h1, h2⟩ := mDoor0_L (g := g) hg rf hW (W + 1) 0 g t w (by omega) (by omega)
  show ∃ u, bs1 (fX5_door_L29 g 0 rf g (nI 0) (rw1 t)) _ _ = _ ∧ _
  rw [h1]
  unfold dr0
  cases hq : fdT pPl (W + 1) 0 t with
  | none =>
    rw [hq] at h2
    obtain ⟨u, rfl, hu⟩ := h2
    exact ⟨u, rfl, hu⟩
  | some q =>
    rw [hq] at h2
    obtain ⟨rfl, hu⟩ := h2
    exact ⟨q.2, rfl, hu⟩
theorem mDoor1_L (hg : big g) (rf : Nat → Int32) {W : Nat} (hW : W = 60) : ∀ (d k n : Nat) (t : Nat → Nat), WF t → k + d = W + 1 → d < n → ∃ z, fX5_door_L29 g 1 rf n (nI k) (rw1 t) = some z ∧ (match fdT pSp d k t with
    | some q => z = .inr (nI q.1, rw1 q.2, rf) ∧ WF q.2
    | none => ∃ u, z = .inl (rw1 u) ∧ WF u) := by
  intro d
  induction d with
  | zero =>
    intro k n t w hk hn
    obtain ⟨n, rfl⟩ : ∃ m, n = m + 1 := ⟨n - 1, by omega⟩
    refine ⟨.inl (rw1 t), ?_, t, rfl, w⟩
    show fX5_door_L29_b g 1 rf _ (nI k) (rw1 t) = _
    unfold fX5_door_L29_b
    rw [if_pos (show (60 : Int32) < nI k from nI_lt (a := 60) (by omega) (by omega))]
  | succ d ih =>
    intro k n t w hk hn
    obtain ⟨n, rfl⟩ : ∃ m, n = m + 1 := ⟨n - 1, by omega⟩
    show ∃ z, fX5_door_L29_b g 1 rf (fX5_door_L29 g 1 rf n) (nI k) (rw1 t) = some z ∧ _
    unfold fX5_door_L29_b fdT
    have e01 : ¬ (0 : Int32) = 1 := by decide
    have e02 : ¬ (0 : Int32) = 2 := by decide
    have e10 : ¬ (1 : Int32) = 0 := by decide
    have e12 : ¬ (1 : Int32) = 2 := by decide
    have e20 : ¬ (2 : Int32) = 0 := by decide
    have e21 : ¬ (2 : Int32) = 1 := by decide
    rw [if_neg (show ¬ (60 : Int32) < nI k from nI_nlt (a := 60) (by omega) (by omega))]
    simp only [e10, e12, if_true, if_false, mNeedle w hg, mDay w hg, bd1_s, nI_1]
    by_cases e : ndT t (-9) = -9
    · simp only [(nd_neg t (-9)).mpr e, show pSp t = true by simp [pSp, e], if_true, if_false]
      exact ⟨_, rfl, rfl, w⟩
    · simp only [show ¬ ndT t (-9) < 0 from fun h => e ((nd_neg t _).mp h), show ¬ pSp t = true by simp [pSp, e], if_true, if_false]
      exact ih (k + 1) n (dyT t) w.day (by omega) (by omega)
theorem mDoor1 (hg : big g) (w : WF t) (rf : Nat → Int32) {W : Nat} (hW : W = 60) : ∃ u, bs1 (fX5_door_L29 g 1 rf g 0 (rw1 t)) (fun q => some q) (fun t60 => some ((-9 : Int32), t60, rf)) = some (dr1 W t, rw1 u, rf) ∧ WF u := by
  have hg' : 100000000000000000000 ≤ g := hg
  obtain ⟨z, h1, h2⟩ := mDoor1_L (g := g) hg rf hW (W + 1) 0 g t w (by omega) (by omega)
  show ∃ u, bs1 (fX5_door_L29 g 1 rf g (nI 0) (rw1 t)) _ _ = _ ∧ _
  rw [h1]
  unfold dr1
  cases hq : fdT pSp (W + 1) 0 t with
  | none =>
    rw [hq] at h2
    obtain ⟨u, rfl, hu⟩ := h2
    exact ⟨u, rfl, hu⟩
  | some q =>
    rw [hq] at h2
    obtain ⟨rfl, hu⟩ := h2
    exact ⟨q.2, rfl, hu⟩
theorem mDoor2_L (hg : big g) (rf : Nat → Int32) {W : Nat} (hW : W = 60) : ∀ (d k n : Nat) (t : Nat → Nat), WF t → k + d = W + 1 → d < n → ∃ z, fX5_door_L29 g 2 rf n (nI k) (rw1 t) = some z ∧ mt (fdT pRe d k t) (fun q => z = .inr (nI q.1, rw1 q.2, rf) ∧ WF q.2) (∃ u, z = .inl (rw1 u) ∧ WF u) := by
  intro d
  induction d with
  | zero =>
    intro k n t w hk hn
    obtain ⟨n, rfl⟩ : ∃ m, n = m + 1 := ⟨n - 1, by omega⟩
    refine ⟨.inl (rw1 t), ?_, mt_n ⟨t, rfl, w⟩⟩
    show fX5_door_L29_b g 2 rf _ (nI k) (rw1 t) = _
    unfold fX5_door_L29_b
    rw [if_pos (show (60 : Int32) < nI k from nI_lt (a := 60) (by omega) (by omega))]
  | succ d ih =>
    intro k n t w hk hn
    obtain ⟨n, rfl⟩ : ∃ m, n = m + 1 := ⟨n - 1, by omega⟩
    show ∃ z, fX5_door_L29_b g 2 rf (fX5_door_L29 g 2 rf n) (nI k) (rw1 t) = some z ∧ _
    unfold fX5_door_L29_b fdT
    have e01 : ¬ (0 : Int32) = 1 := by decide
    have e02 : ¬ (0 : Int32) = 2 := by decide
    have e10 : ¬ (1 : Int32) = 0 := by decide
    have e12 : ¬ (1 : Int32) = 2 := by decide
    have e20 : ¬ (2 : Int32) = 0 := by decide
    have e21 : ¬ (2 : Int32) = 1 := by decide
    rw [if_neg (show ¬ (60 : Int32) < nI k from nI_nlt (a := 60) (by omega) (by omega))]
    have hy := wy_ok w.2.2.1 (ndT t (-9))
    have h3 : t 3 < 2 ^ 31 := by have := w.2.2.1; omega
    simp only [e20, e21, if_true, if_false, mNeedle w hg, mWay, mDay w hg, bd1_s, nI_1]
    by_cases e : wyN (t 3) (ndT t (-9)) = t 3
    · simp only [show wyT (nI (t 3)) (ndT t (-9)) = nI (t 3) from hy.1.trans (congrArg nI e), show pRe t = true by simp [pRe, goN, e], if_true, if_false]
      exact ⟨_, rfl, mt_s ⟨rfl, w⟩⟩
    · simp only [show ¬ wyT (nI (t 3)) (ndT t (-9)) = nI (t 3) from fun h => e ((nI_eq (by omega) h3).mp (hy.1.symm.trans h)), show ¬ pRe t = true by simp [pRe, goN, e], if_true, if_false]
      exact ih (k + 1) n (dyT t) w.day (by omega) (by omega)
theorem mDoor2 (hg : big g) (w : WF t) (rf : Nat → Int32) {W : Nat} (hW : W = 60) : ∃ u, bs1 (fX5_door_L29 g 2 rf g 0 (rw1 t)) (fun q => some q) (fun t60 => some ((-9 : Int32), t60, rf)) = some (dr2 W t, rw1 u, rf) ∧ WF u := by
  have hg' : 100000000000000000000 ≤ g := hg
  obtain ⟨z, h1, h2⟩ := mDoor2_L (g := g) hg rf hW (W + 1) 0 g t w (by omega) (by omega)
  show ∃ u, bs1 (fX5_door_L29 g 2 rf g (nI 0) (rw1 t)) _ _ = _ ∧ _
  rw [h1]
  unfold dr2
  cases hq : fdT pRe (W + 1) 0 t with
  | none =>
    obtain ⟨u, rfl, hu⟩ := h2.2 hq
    exact ⟨u, rfl, hu⟩
  | some q =>
    obtain ⟨rfl, hu⟩ := h2.1 q hq
    exact ⟨q.2, rfl, hu⟩
end PO
