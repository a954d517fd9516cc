/-! ===== pure level: a day of the model ===== -/
theorem updN_ne {t : Nat → Nat} {k v j : Nat} (h : j ≠ k) : updN t k v j = t j := if_neg h
theorem updN_eq {t : Nat → Nat} {k v : Nat} : updN t k v k = v := if_pos rfl
theorem mWay (g : Nat) (c w : Int32) : fX5_wayFrom g c w = some (wyT c w) := by
  unfold fX5_wayFrom wyT md8
  (repeat' split) <;> rfl
theorem wy_0 : ∀ c, c < 64 → wyT (nI c) 0 = nI (wyN c 0) ∧ wyN c 0 < 64 := by decide +kernel
theorem wy_1 : ∀ c, c < 64 → wyT (nI c) 1 = nI (wyN c 1) ∧ wyN c 1 < 64 := by decide +kernel
theorem wy_2 : ∀ c, c < 64 → wyT (nI c) 2 = nI (wyN c 2) ∧ wyN c 2 < 64 := by decide +kernel
theorem wy_3 : ∀ c, c < 64 → wyT (nI c) 3 = nI (wyN c 3) ∧ wyN c 3 < 64 := by decide +kernel
theorem wy_ok {c : Nat} (hc : c < 64) (w : Int32) : wyT (nI c) w = nI (wyN c w) ∧ wyN c w < 64 := by
  by_cases h0 : w = 0
  · subst h0; exact wy_0 c hc
  by_cases h1 : w = 1
  · subst h1; exact wy_1 c hc
  by_cases h2 : w = 2
  · subst h2; exact wy_2 c hc
  by_cases h3 : w = 3
  · subst h3; exact wy_3 c hc
  have e : wyT (nI c) w = nI c := by unfold wyT; rw [if_neg h0, if_neg h1, if_neg h2, if_neg h3]
  have e2 : wyN c w = c := by unfold wyN; rw [e, nI_clamp (by omega)]
  rw [e, e2]
  exact ⟨rfl, hc⟩
section PD
variable {g : Nat} {t : Nat → Nat}
theorem WF.upd2 (w : WF t) (v : Nat) : WF (updN t 2 v) := by
  obtain ⟨h0, h1, h3, h4, h5, h6⟩ := w
  refine ⟨?_, ?_, ?_, ?_, ?_, ?_⟩
  · rw [updN_ne (by omega)]; exact h0
  · rw [updN_ne (by omega)]; exact h1
  · rw [updN_ne (by omega)]; exact h3
  · intro i hi
    rw [updN_ne (by omega)] at hi
    rw [updN_ne (by omega)]; exact h4 i hi
  · intro h hh
    rw [updN_ne (by omega)] at hh
    rw [updN_ne (by omega), updN_ne (by omega), updN_ne (by omega), updN_ne (by omega), updN_ne (by omega), updN_ne (by omega)]; exact h5 h hh
  · intro k hk
    rw [updN_ne (by omega)]; exact h6 k hk
theorem WF.upd3 (w : WF t) {v : Nat} (hv : v < 64) : WF (updN t 3 v) := by
  obtain ⟨h0, h1, h3, h4, h5, h6⟩ := w
  refine ⟨?_, ?_, ?_, ?_, ?_, ?_⟩
  · rw [updN_ne (by omega)]; exact h0
  · rw [updN_ne (by omega)]; exact h1
  · rw [updN_eq]; exact hv
  · intro i hi
    rw [updN_ne (by omega)] at hi
    rw [updN_ne (by omega)]; exact h4 i hi
  · intro h hh
    rw [updN_ne (by omega)] at hh
    rw [updN_ne (by omega), updN_ne (by omega), updN_ne (by omega), updN_ne (by omega), updN_ne (by omega), updN_ne (by omega)]; exact h5 h hh
  · intro k hk
    rw [updN_ne (by omega)]; exact h6 k hk
/-- a hand's own cell, changed within its range -/
theorem WF.updH (w : WF t) {k j v : Nat} (hk : k < t 1) (hj : j < 5) (hv : (j = 0 → v < 6) ∧ (j = 1 → v < 10) ∧ (j = 2 → v < t 0) ∧ (j = 3 → v < 100) ∧ (j = 4 → v < 2)) : WF (updN t (10 + j + 5 * k) v) := by
  obtain ⟨h0, h1, h3, h4, h5, h6⟩ := w
  have h7 : k < 7 := Nat.lt_of_lt_of_le hk h1
  refine ⟨?_, ?_, ?_, ?_, ?_, ?_⟩
  · rw [updN_ne (by omega)]; exact h0
  · rw [updN_ne (by omega)]; exact h1
  · rw [updN_ne (by omega)]; exact h3
  · intro i hi
    rw [updN_ne (by omega)] at hi
    rw [updN_ne (by omega)]; exact h4 i hi
  · intro h hh
    rw [updN_ne (by omega)] at hh
    have q := h5 h hh
    have e0 : updN t (10 + j + 5 * k) v 0 = t 0 := updN_ne (by omega)
    rw [e0]
    have key : ∀ i, i < 5 → updN t (10 + j + 5 * k) v (10 + i + 5 * h) = if i = j ∧ h = k then v else t (10 + i + 5 * h) := by
      intro i hi
      unfold updN
      by_cases e : i = j ∧ h = k
      · rw [if_pos e, if_pos (by obtain ⟨e1, e2⟩ := e; omega)]
      · rw [if_neg e, if_neg (by intro e2; exact e ⟨by omega, by omega⟩)]
    rw [show 10 + 5 * h = 10 + 0 + 5 * h by omega, show 11 + 5 * h = 10 + 1 + 5 * h by omega, show 12 + 5 * h = 10 + 2 + 5 * h by omega, show 13 + 5 * h = 10 + 3 + 5 * h by omega, show 14 + 5 * h = 10 + 4 + 5 * h by omega]
    rw [show 10 + 5 * h = 10 + 0 + 5 * h by omega, show 11 + 5 * h = 10 + 1 + 5 * h by omega, show 12 + 5 * h = 10 + 2 + 5 * h by omega, show 13 + 5 * h = 10 + 3 + 5 * h by omega, show 14 + 5 * h = 10 + 4 + 5 * h by omega] at q
    rw [key 0 (by omega), key 1 (by omega), key 2 (by omega), key 3 (by omega), key 4 (by omega)]
    refine ⟨?_, ?_, ?_, ?_, ?_⟩
    · split
      · exact hv.1 (by omega)
      · exact q.1
    · split
      · exact hv.2.1 (by omega)
      · exact q.2.1
    · split
      · exact hv.2.2.1 (by omega)
      · exact q.2.2.1
    · split
      · exact hv.2.2.2.1 (by omega)
      · exact q.2.2.2.1
    · split
      · exact hv.2.2.2.2 (by omega)
      · exact q.2.2.2.2
  · intro k2 hk2
    rw [updN_ne (by omega)]; exact h6 k2 hk2
theorem seT_lt {b x : Nat} (hx : x < 100) : seT b x < 100 := by unfold seT; (repeat' split) <;> omega
theorem WF.sday (w : WF t) {k : Nat} (hk : k < t 1) : WF (dyS k t) := by
  have h := (w.2.2.2.2.1 k hk).2.2.2.1
  have := w.updH (j := 3) (v := seT (t (14 + 5 * k)) (t (13 + 5 * k))) hk (by omega) ⟨by omega, by omega, by omega, fun _ => seT_lt h, by omega⟩
  exact this
theorem dyS_1 (k : Nat) (t : Nat → Nat) : dyS k t 1 = t 1 := updN_ne (by omega)
theorem WF.itS : ∀ (d k : Nat) (t : Nat → Nat), WF t → k + d ≤ t 1 → WF (it dyS d k t)
  | 0, _, _, w, _ => w
  | d + 1, k, t, w, h => WF.itS d (k + 1) _ (w.sday (by omega)) (by rw [dyS_1]; omega)
theorem sea_dn : ∀ x, x < 100 → (if 0 ≤ nI x + (-1) then (if nI x + (-1) ≤ 99 then nI x + (-1) else 99) else (0 : Int32)) = nI (seT 0 x) := by decide +kernel
theorem sea_up : ∀ x, x < 100 → (if 0 ≤ nI x + 1 then (if nI x + 1 ≤ 99 then nI x + 1 else 99) else (0 : Int32)) = nI (seT 1 x) := by decide +kernel
theorem seT_n1 {b x : Nat} (h : ¬ b = 1) : seT b x = seT 0 x := by unfold seT; rw [if_neg h]; rfl
theorem mDay_L : ∀ (d k n : Nat) (t : Nat → Nat), WF t → k + d = t 1 → d < n → fX5_day_L28 g n (nI k) (rw1 t) = some (rw1 (it dyS d k t)) := by
  intro d
  induction d with
  | zero =>
    intro k n t w hk hn
    obtain ⟨n, rfl⟩ : ∃ m, n = m + 1 := ⟨n - 1, by omega⟩
    show fX5_day_L28_b g _ (nI k) (rw1 t) = _
    unfold fX5_day_L28_b
    rw [if_pos (show rw1 t 1 ≤ nI k by show nI (t 1) ≤ nI k; exact nI_le (by omega) (by have := w.2.1; omega))]
    rfl
  | succ d ih =>
    intro k n t w hk hn
    obtain ⟨n, rfl⟩ : ∃ m, n = m + 1 := ⟨n - 1, by omega⟩
    have h7 := w.2.1
    have hw := w.2.2.2.2.1 k (by omega)
    show fX5_day_L28_b g (fX5_day_L28 g n) (nI k) (rw1 t) = some (rw1 (it dyS d (k + 1) (dyS k t)))
    rw [← ih (k + 1) n (dyS k t) (w.sday (by omega)) (by rw [dyS_1]; omega) (by omega)]
    unfold fX5_day_L28_b
    rw [if_neg (show ¬ rw1 t 1 ≤ nI k from nI_ge (by omega) (by omega)), of3, bd1_s, bd1_s, bd1_s, gdn (by omega) (by decide), mAboard w (by omega), bd1_s, nI_1]
    simp only [gdn (show 13 + 5 * k < 45 by omega) (show 45 < 2 ^ 31 by decide), nI_clamp (show 13 + 5 * k < 2 ^ 31 by omega)]
    by_cases e : t (14 + 5 * k) = 1
    · rw [if_pos e, if_neg (by decide)]
      have q : upd (rw1 t) (13 + 5 * k) (nI (seT 1 (t (13 + 5 * k)))) = rw1 (dyS k t) := by rw [upd_rw]; unfold dyS; rw [e]
      rw [← q, ← sea_up _ hw.2.2.2.1]
      (repeat' split) <;> rfl
    · rw [if_neg e, if_pos rfl]
      have q : upd (rw1 t) (13 + 5 * k) (nI (seT 0 (t (13 + 5 * k)))) = rw1 (dyS k t) := by rw [upd_rw]; unfold dyS; rw [seT_n1 e]
      rw [← q, ← sea_dn _ hw.2.2.2.1]
      (repeat' split) <;> rfl
theorem lnT_cg {t t' : Nat → Nat} (e : ∀ k, k ≠ 2 → t k = t' k) (h : Nat) : lnT t h = lnT t' h := by
  unfold lnT xT fT cT
  rw [e (10 + 5 * h) (by omega), e (13 + 5 * h) (by omega), e (11 + 5 * h) (by omega), e (12 + 5 * h) (by omega), e (4 + t' (12 + 5 * h)) (by omega), e 3 (by omega)]
theorem plT_cg {t t' : Nat → Nat} (e : ∀ k, k ≠ 2 → t k = t' k) (w but : Int32) : plT t w but = plT t' w but := by
  unfold plT
  rw [e 1 (by omega)]
  refine it_congr _ _ _ (fun j _ _ b => ?_)
  unfold plS roT coT cT
  rw [lnT_cg e j, e (14 + 5 * j) (by omega), e (12 + 5 * j) (by omega), e (4 + t' (12 + 5 * j)) (by omega), e 3 (by omega)]
theorem ndT_cg {t t' : Nat → Nat} (e : ∀ k, k ≠ 2 → t k = t' k) (but : Int32) : ndT t but = ndT t' but := by
  unfold ndT
  rw [plT_cg e, plT_cg e]
theorem ndT_2 (t : Nat → Nat) (v : Nat) (but : Int32) : ndT (updN t 2 v) but = ndT t but := ndT_cg (fun k hk => updN_ne hk) but
theorem mDay (w : WF t) (hg : big g) : fX5_day g 0 (rw1 t) = some (rw1 (dyT t)) := by
  have h7 := w.2.1
  have hg' : 100000000000000000000 ≤ g := hg
  have e2 : upd (rw1 t) 2 (rw1 t 2 + 1) = rw1 (updN t 2 (t 2 + 1)) := by
    show upd (rw1 t) 2 (nI (t 2) + 1) = _
    rw [nI_1, upd_rw]
  unfold fX5_day
  rw [if_pos rfl, e2, mNeedle (w.upd2 _) hg, bd1_s, mWay, bd1_s, ndT_2]
  show bd1 (fX5_day_L28 g g 0 (upd (rw1 (updN t 2 (t 2 + 1))) 3 (wyT (nI (updN t 2 (t 2 + 1) 3)) (ndT t (-9))))) _ = _
  rw [updN_ne (by omega), (wy_ok w.2.2.1 (ndT t (-9))).1, upd_rw]
  show bd1 (fX5_day_L28 g g (nI 0) _) _ = _
  have hw := (w.upd2 (t 2 + 1)).upd3 (wy_ok w.2.2.1 (ndT t (-9))).2
  have h1 : updN (updN t 2 (t 2 + 1)) 3 (wyN (t 3) (ndT t (-9))) 1 = t 1 := by rw [updN_ne (by omega), updN_ne (by omega)]
  rw [mDay_L (t 1) 0 g _ hw (by rw [h1]; omega) (by omega), bd1_s]
  unfold dyT pdT
  rw [h1]
theorem mStorm (w : WF t) (hg : big g) : fX5_day g 1 (rw1 t) = some (rw1 (sdT t)) := by
  have h7 := w.2.1
  have hg' : 100000000000000000000 ≤ g := hg
  have e2 : upd (rw1 t) 2 (rw1 t 2 + 1) = rw1 (updN t 2 (t 2 + 1)) := by
    show upd (rw1 t) 2 (nI (t 2) + 1) = _
    rw [nI_1, upd_rw]
  unfold fX5_day
  rw [if_neg (by decide), e2]
  have h1 : updN t 2 (t 2 + 1) 1 = t 1 := by rw [updN_ne (by omega)]
  show bd1 (fX5_day_L28 g g (nI 0) _) _ = _
  rw [mDay_L (t 1) 0 g _ (w.upd2 _) (by rw [h1]; omega) (by omega), bd1_s]
  unfold sdT pdT
  rw [h1]
theorem WF.pd (w : WF t) : WF (pdT t) := WF.itS (t 1) 0 t w (by omega)
theorem WF.day (w : WF t) : WF (dyT t) := ((w.upd2 _).upd3 (wy_ok w.2.2.1 _).2).pd
theorem WF.sday2 (w : WF t) : WF (sdT t) := (w.upd2 _).pd
theorem WF.days : ∀ (d k : Nat) (t : Nat → Nat), WF t → WF (it (fun _ => dyT) d k t)
  | 0, _, _, w => w
  | d + 1, k, t, w => WF.days d (k + 1) _ w.day
theorem mDays_L (hg : big g) {N : Nat} (hN : N < 2 ^ 31) : ∀ (d k n : Nat) (t : Nat → Nat), WF t → k + d = N → d < n → fX5_daysOn_L2 g (nI N) n (nI k) (rw1 t) = some (rw1 (it (fun _ => dyT) d k t)) := by
  intro d
  induction d with
  | zero =>
    intro k n t w hk hn
    obtain ⟨n, rfl⟩ : ∃ m, n = m + 1 := ⟨n - 1, by omega⟩
    show fX5_daysOn_L2_b g (nI N) _ (nI k) (rw1 t) = _
    unfold fX5_daysOn_L2_b
    rw [if_pos (nI_le (by omega) (by omega))]
    rfl
  | succ d ih =>
    intro k n t w hk hn
    obtain ⟨n, rfl⟩ : ∃ m, n = m + 1 := ⟨n - 1, by omega⟩
    show fX5_daysOn_L2_b g (nI N) (fX5_daysOn_L2 g (nI N) n) (nI k) (rw1 t) = _
    unfold fX5_daysOn_L2_b
    rw [if_neg (nI_ge (by omega) (by omega)), mDay w hg, bd1_s, nI_1, ih (k + 1) n _ w.day (by omega) (by omega)]
    rfl
theorem mDays (w : WF t) (hg : big g) {N : Nat} (hN : N < 2 ^ 31) : fX5_daysOn g (nI N) (rw1 t) = some (rw1 (daysT N t)) := by
  have hg' : 100000000000000000000 ≤ g := hg
  unfold fX5_daysOn
  show bd1 (fX5_daysOn_L2 g (nI N) g (nI 0) _) _ = _
  rw [mDays_L hg hN N 0 g t w (by omega) (by omega), bd1_s]
  rfl
theorem mCopies_L (s : Nat → Int32) : ∀ (d k n : Nat) (m : Nat → Int32), k + d = 45 → d < n → fX5_copies_L2 g s n (nI k) m = some (fun j => if k ≤ j ∧ j < 45 then s j else m j) := by
  intro d
  induction d with
  | zero =>
    intro k n m hk hn
    obtain ⟨n, rfl⟩ : ∃ m, n = m + 1 := ⟨n - 1, by omega⟩
    show fX5_copies_L2_b g s _ (nI k) m = _
    unfold fX5_copies_L2_b
    rw [if_pos (show (45 : Int32) ≤ nI k from nI_le (a := 45) (by omega) (by omega))]
    congr 1
    funext j
    rw [if_neg (by omega)]
  | succ d ih =>
    intro k n m hk hn
    obtain ⟨n, rfl⟩ : ∃ m, n = m + 1 := ⟨n - 1, by omega⟩
    show fX5_copies_L2_b g s (fX5_copies_L2 g s n) (nI k) m = _
    unfold fX5_copies_L2_b
    rw [if_neg (show ¬ (45 : Int32) ≤ nI k from nI_ge (b := 45) (by omega) (by omega)), gdn (by omega) (by decide), gdn (by omega) (by decide), nI_1, nI_clamp (by omega), ih (k + 1) n _ (by omega) (by omega)]
    congr 1
    funext j
    unfold upd
    by_cases h1 : j = k
    · subst h1
      rw [if_neg (by omega), if_pos rfl, if_pos (by omega)]
    · by_cases h2 : k + 1 ≤ j ∧ j < 45
      · rw [if_pos h2, if_pos (by omega)]
      · rw [if_neg h2, if_neg h1, if_neg (by omega)]
theorem mCopies (hg : big g) {u : Nat → Nat} (h1 : ∀ k, 45 ≤ k → t k = 0) (h2 : ∀ k, 45 ≤ k → u k = 0) : fX5_copies g (rw1 t) (rw1 u) = some (rw1 t) := by
  have hg' : 100000000000000000000 ≤ g := hg
  unfold fX5_copies
  show bd1 (fX5_copies_L2 g (rw1 t) g (nI 0) _) _ = _
  rw [mCopies_L (rw1 t) 45 0 g _ (by omega) (by omega), bd1_s]
  congr 1
  funext j
  by_cases h : j < 45
  · rw [if_pos (by omega)]
  · rw [if_neg (by omega)]
    show nI (u j) = nI (t j)
    rw [h1 j (by omega), h2 j (by omega)]
end PD
