/-! ===== pure level: the calls, class beside model (2) ===== -/
theorem xor7 : ∀ a, a < 128 → ∀ h, h < 7 → (nI a ^^^ ((1 : Int32) <<< (nI h &&& 31))) = nI (a ^^^ 2 ^ h) ∧ ∀ j, j < 7 → (a ^^^ 2 ^ h) / 2 ^ j % 2 = if j = h then 1 - a / 2 ^ h % 2 else a / 2 ^ j % 2 := by decide +kernel
theorem b01 : ∀ b, b < 2 → nI b ^^^ 1 = nI (1 - b) := by decide +kernel
def boT (j : Nat) (t : Nat → Nat) : Nat → Nat := updN t (14 + 5 * j) (1 - t (14 + 5 * j))
theorem days_2 : ∀ (d k : Nat) (t : Nat → Nat), it (fun _ => dyT) d k t 2 = t 2 + d
  | 0, _, _ => rfl
  | d + 1, k, t => by
    show it (fun _ => dyT) d (k + 1) (dyT t) 2 = _
    rw [days_2 d (k + 1) (dyT t)]
    unfold dyT
    rw [pdT_ne (by omega), updN_ne (by omega), updN_eq]
    omega
section PC2
variable {g : Nat} {t : Nat → Nat} {np nh na ns nd : Int32} {nc nk nf nl nse : Nat → Int32}
theorem RV.abd (w : WF t) (R : RV t np nh na ns nd nc nk nf nl nse) {t' : Nat → Nat} (e : ∀ k, (k < 14 ∨ (k - 14) % 5 ≠ 0) → t' k = t k) : RV t' np nh (nI (abT t')) ns nd nc nk nf nl nse := by
  obtain ⟨r1, r2, r3, r4, r5, r6, r7⟩ := R
  have h6 := w.1
  refine ⟨by rw [e 0 (by omega)]; exact r1, by rw [e 1 (by omega)]; exact r2, rfl, by rw [e 3 (by omega)]; exact r4, by rw [e 2 (by omega)]; exact r5, ?_, ?_⟩
  · intro i hi
    rw [e 0 (by omega)] at hi
    rw [e _ (by omega)]; exact r6 i hi
  · intro h hh
    rw [e 1 (by omega)] at hh
    rw [e _ (by omega), e _ (by omega), e _ (by omega), e _ (by omega)]; exact r7 h hh
theorem boT_ne {j k : Nat} (h : k < 14 ∨ (k - 14) % 5 ≠ 0) : boT j t k = t k := updN_ne (by omega)
theorem WF.board (w : WF t) {j : Nat} (hj : j < t 1) : WF (boT j t) := w.updH (j := 4) hj (by omega) ⟨by omega, by omega, by omega, by omega, fun _ => by omega⟩
theorem boT_ab (w : WF t) {j : Nat} (hj : j < t 1) : abT t ^^^ 2 ^ j = abT (boT j t) := by
  have h7 := w.2.1
  have e1 : boT j t 1 = t 1 := boT_ne (by omega)
  refine ab_uniq ?_ ?_
  · rw [e1]
    exact Nat.xor_lt_two_pow (abN_lt (t 1) (fun h hh => (w.2.2.2.2.1 h hh).2.2.2.2)) (Nat.pow_lt_pow_right (by omega) hj)
  · intro h hh
    rw [e1] at hh
    rw [(xor7 _ w.ab_lt j (by omega)).2 h (by omega), w.ab_bit hj, w.ab_bit hh]
    unfold boT updN
    by_cases e : h = j
    · rw [if_pos e, if_pos (by omega)]
    · rw [if_neg e, if_neg (by omega)]
theorem vSide (w : WF t) {j : Nat} (hj : j < t 1) : fX3_changeSide g (nI j) (nI (abT t)) = some (nI (abT (boT j t))) := by
  have h7 := w.2.1
  unfold fX3_changeSide
  rw [(xor7 _ w.ab_lt j (by omega)).1, boT_ab w hj]
theorem oBoards (w : WF t) (R : RV t np nh na ns nd nc nk nf nl nse) (rf : Nat → Int32) (p0 : Int32) : ∃ r t' a rf', fX4_boards g p0 nh na rf = some (r, a, rf') ∧ fX5_boards g p0 (rw1 t) rf = some (r, rw1 t', rf') ∧ WF t' ∧ t' 2 = t 2 ∧ RV t' np nh a ns nd nc nk nf nl nse := by
  have h7 := w.2.1
  unfold fX4_boards fX5_boards
  rw [R.2.1, R.2.2.1, cNoHand, bd1_s]
  rcases tri_or p0 (n := t 1) (by omega) with h | ⟨j, hj, rfl⟩
  · refine ⟨-1, t, nI (abT t), rfz (-1) rf, ?_, ?_, w, rfl, by rw [← R.2.1, ← R.2.2.1]; exact R⟩
    · rw [nh_bad (by omega) h, if_neg zm1, rZ4 ok1, bd2_s]
    · rw [mHd_bad w h, bd1_s, if_pos z00, rZ5 ok1, bd2_s]
  · have hb := (w.2.2.2.2.1 j hj).2.2.2.2
    have e4 : boT j t (14 + 5 * j) = 1 - t (14 + 5 * j) := updN_eq
    have e1 : boT j t 1 = t 1 := boT_ne (by omega)
    refine ⟨nI (1 - t (14 + 5 * j)), boT j t, nI (abT (boT j t)), rf, ?_, ?_, w.board hj, boT_ne (by omega), by rw [← R.2.1]; exact R.abd w (fun k h => boT_ne h)⟩
    · rw [nh_ok hj (by omega), if_pos z00, vSide w hj, bd1_s, vAboard (w.board hj) (by rw [e1]; exact hj), bd1_s, e4]
      rcases (show t (14 + 5 * j) = 0 ∨ t (14 + 5 * j) = 1 by omega) with e | e <;> rw [e] <;> rfl
    · rw [mHd_ok w hj, bd1_s, if_neg z10, of4, bd1_s, bd1_s]
      simp only [gdn (show 14 + 5 * j < 45 by omega) (show 45 < 2 ^ 31 by decide), nI_clamp (show 14 + 5 * j < 2 ^ 31 by omega)]
      rw [b01 _ hb, upd_rw]
      show some (nI (boT j t (14 + 5 * j)), _, _) = _
      rw [e4]
      rfl
theorem mCell_bad {p : Int32} (h : tri p 64) : fX5_isCell g p = some 0 := by
  unfold fX5_isCell
  rw [show (63 : Int32) = nI 64 - 1 from rfl, mIsIn_bad (by omega) h, bd1_s, gd_p (by decide)]
theorem mCell_ok {j : Nat} (h : j < 64) : fX5_isCell g (nI j) = some 1 := by
  unfold fX5_isCell
  rw [show (63 : Int32) = nI 64 - 1 from rfl, mIsIn_ok h (by omega), bd1_s, gd_p (by decide)]
theorem RV.ship3 (w : WF t) (R : RV t np nh na ns nd nc nk nf nl nse) (v : Nat) : RV (updN t 3 v) np nh na (nI v) nd nc nk nf nl nse := by
  obtain ⟨r1, r2, r3, r4, r5, r6, r7⟩ := R
  refine ⟨by rw [updN_ne (by omega)]; exact r1, by rw [updN_ne (by omega)]; exact r2, ?_, by rw [updN_eq], by rw [updN_ne (by omega)]; exact r5, ?_, ?_⟩
  · rw [r3]; exact congrArg nI (abT_cg (by rw [updN_ne (by omega)]) (fun h _ => by rw [updN_ne (by omega)]))
  · intro i hi
    rw [updN_ne (by omega)] at hi
    rw [updN_ne (by omega)]; exact r6 i hi
  · intro h hh
    rw [updN_ne (by omega)] at hh
    rw [updN_ne (by omega), updN_ne (by omega), updN_ne (by omega), updN_ne (by omega)]; exact r7 h hh
theorem oSails (w : WF t) (R : RV t np nh na ns nd nc nk nf nl nse) (rf : Nat → Int32) (p0 : Int32) : ∃ r t' s' rf', fX4_sails g p0 ns rf = some (r, s', rf') ∧ fX5_sails g p0 (rw1 t) rf = some (r, rw1 t', rf') ∧ WF t' ∧ t' 2 = t 2 ∧ RV t' np nh na s' nd nc nk nf nl nse := by
  unfold fX4_sails fX5_sails
  rcases tri_or p0 (n := 64) (by omega) with h | ⟨j, hj, rfl⟩
  · refine ⟨-1, t, ns, rfz (-1) rf, ?_, ?_, w, rfl, R⟩
    · by_cases h0 : p0 < 0
      · rw [if_pos h0, rZ4 ok1, bd2_s]
      · rw [if_neg h0, if_neg (show ¬ p0 < 64 from fun e => tri_n0 (n := 64) (by omega) h ⟨Int32.not_lt.mp h0, e⟩), rZ4 ok1, bd2_s]
    · rw [mCell_bad h, bd1_s, if_pos z00, rZ5 ok1, bd2_s]
  · refine ⟨nI (t 3), updN t 3 j, nI j, rf, ?_, ?_, w.upd3 hj, updN_ne (by omega), R.ship3 w j⟩
    · rw [if_neg (nI_pos (by omega)), if_pos (show nI j < 64 from nI_lt (b := 64) hj (by omega)), R.2.2.2.1]
    · rw [mCell_ok hj, bd1_s, if_neg z10, upd_rw]
theorem oMisses (w : WF t) (R : RV t np nh na ns nd nc nk nf nl nse) (rf : Nat → Int32) (p0 p1 : Int32) : ∃ r t' l' rf', fX4_misses g p0 p1 np nh nl rf = some (r, l', rf') ∧ fX5_misses g p0 p1 (rw1 t) rf = some (r, rw1 t', rf') ∧ WF t' ∧ t' 2 = t 2 ∧ RV t' np nh na ns nd nc nk nf l' nse := by
  have h7 := w.2.1
  have h6 := w.1
  unfold fX4_misses fX5_misses
  rw [cNoHand, bd1_s, cNoPlace, bd1_s, cFirst, bd1_s]
  rcases tri_or p0 (n := t 1) (by omega) with h | ⟨j, hj, rfl⟩
  · refine ⟨-1, t, nl, rfz (-1) rf, ?_, ?_, w, rfl, R⟩
    · rw [R.2.1, nh_bad (by omega) h, fo_n ok1, if_neg zm1, rZ4 ok1, bd2_s]
    · rw [mHd_bad w h, bd1_s, if_pos z00, rZ5 ok1, bd2_s]
  · rcases tri_or p1 (n := t 0) (by omega) with h | ⟨k, hk, rfl⟩
    · refine ⟨-1, t, nl, rfz (-1) rf, ?_, ?_, w, rfl, R⟩
      · rw [R.2.1, nh_ok hj (by omega), fo_0, R.1, nh_bad (by omega) h, if_neg zm1, rZ4 ok1, bd2_s]
      · rw [mHd_ok w hj, bd1_s, if_neg z10, mPl_bad w h, bd1_s, if_pos z00, rZ5 ok1, bd2_s]
    · refine ⟨nI (t (12 + 5 * j)), updN t (12 + 5 * j) k, upd nl j (nI k), rf, ?_, ?_, w.updH (j := 2) hj (by omega) ⟨by omega, by omega, fun _ => hk, by omega, by omega⟩, updN_ne (by omega), R.miss w hj⟩
      · rw [R.2.1, nh_ok hj (by omega), fo_0, R.1, nh_ok hk (by omega), if_pos z00, gdn (by omega) (by decide), gdn (by omega) (by decide), nI_clamp (by omega), (R.2.2.2.2.2.2 j hj).2.2.1]
      · rw [mHd_ok w hj, bd1_s, if_neg z10, mPl_ok w hk, bd1_s, if_neg z10, of2, bd1_s, bd1_s, gdn (by omega) (by decide), gdn (by omega) (by decide), nI_clamp (by omega), upd_rw]
theorem oTurn (w : WF t) (R : RV t np nh na ns nd nc nk nf nl nse) (rf : Nat → Int32) (p0 p1 p2 : Int32) : ∃ r t' k' f' rf', fX4_turn g p0 p1 p2 nh nk nf rf = some (r, k', f', rf') ∧ fX5_turn g p0 p1 p2 (rw1 t) rf = some (r, rw1 t', rf') ∧ WF t' ∧ t' 2 = t 2 ∧ RV t' np nh na ns nd nc k' f' nl nse := by
  have h7 := w.2.1
  unfold fX4_turn fX5_turn
  rw [cNoHand, bd1_s, cNoWhat, bd1_s, cFirst, bd1_s, cOut, bd1_s, cFirst, bd1_s]
  rcases tri_or p0 (n := t 1) (by omega) with h | ⟨j, hj, rfl⟩
  · refine ⟨-1, t, nk, nf, rfz (-1) rf, ?_, ?_, w, rfl, R⟩
    · rw [R.2.1, nh_bad (by omega) h, fo_n ok1, fo_n ok1, if_neg zm1, rZ4 ok1, bd2_s]
    · rw [mHd_bad w h, bd1_s, if_pos z00, if_neg zm1, rZ5 ok1, bd2_s]
  · rcases tri_or p1 (n := 6) (by omega) with h | ⟨k, hk, rfl⟩
    · refine ⟨-2, t, nk, nf, rfz (-2) rf, ?_, ?_, w, rfl, R⟩
      · rw [R.2.1, nh_ok hj (by omega), fo_0, show (6 : Int32) = nI 6 from rfl, nw_bad (by omega) h, fo_n ok2, if_neg zm2, rZ4 ok2, bd2_s]
      · rw [mHd_ok w hj, bd1_s, if_neg z10, show (5 : Int32) = nI 6 - 1 from rfl, mIsIn_bad (by omega) h, bd1_s, if_pos z00, if_neg zm2, rZ5 ok2, bd2_s]
    · have a1 : nvF (nI k) 6 = 0 := nw_ok (n := 6) hk (by omega)
      have a2 : fX5_isIn g (nI k) 0 5 = some 1 := mIsIn_ok (n := 6) hk (by omega)
      rcases ou_or p2 (a := 0) (b := 9) (by omega) (by omega) with h | ⟨v, -, hv, rfl, h0⟩
      · have h : okc (ouF p2 0 9) := h
        refine ⟨ouF p2 0 9, t, nk, nf, rfz (ouF p2 0 9) rf, ?_, ?_, w, rfl, R⟩
        · rw [R.2.1, nh_ok hj (by omega), fo_0, a1, fo_0, if_neg (okc_n h), rZ4 h, bd2_s]
        · rw [mHd_ok w hj, bd1_s, if_neg z10, a2, bd1_s, if_neg z10, mWrong, bd1_s, if_neg (okc_n h), rZ5 h, bd2_s]
      · have h0 : ouF (nI v) 0 9 = 0 := h0
        have q := R.2.2.2.2.2.2 j hj
        have w1 := w.updH (j := 0) (v := k) hj (by omega) ⟨fun _ => hk, by omega, by omega, by omega, by omega⟩
        have e1 : updN t (10 + 0 + 5 * j) k 1 = t 1 := updN_ne (by omega)
        have w2 := w1.updH (j := 1) (v := v) (k := j) (by rw [e1]; exact hj) (by omega) ⟨by omega, fun _ => by omega, by omega, by omega, by omega⟩
        refine ⟨10 * nI (t (10 + 5 * j)) + nI (t (11 + 5 * j)), updN (updN t (10 + 5 * j) k) (11 + 5 * j) v, upd nk j (nI k), upd nf j (nI v), rf, ?_, ?_, w2, by rw [updN_ne (by omega), updN_ne (by omega)], RV.fig w1 (R.kind w hj) (by rw [e1]; exact hj)⟩
        · rw [R.2.1, nh_ok hj (by omega), fo_0, a1, fo_0, h0, if_pos z00]
          simp only [gdn (show j < 7 by omega) (show 7 < 2 ^ 31 by decide), nI_clamp (show j < 2 ^ 31 by omega)]
          rw [q.1, q.2.1]
        · rw [mHd_ok w hj, bd1_s, if_neg z10, a2, bd1_s, if_neg z10, mWrong, bd1_s, h0, if_pos z00]
          simp only [of0, of1, bd1_s, gdn (show 10 + 5 * j < 45 by omega) (show 45 < 2 ^ 31 by decide), gdn (show 11 + 5 * j < 45 by omega) (show 45 < 2 ^ 31 by decide), nI_clamp (show 10 + 5 * j < 2 ^ 31 by omega), nI_clamp (show 11 + 5 * j < 2 ^ 31 by omega), upd_rw]
theorem oNeedle (w : WF t) (hg : big g) (R : RV t np nh na ns nd nc nk nf nl nse) : ∃ r x y, fX4_needle g nh na ns nc nk nf nl nse = some (r, x, y) ∧ fX5_needle g (rw1 t) = some r := by
  refine ⟨ndT t (-9), plT t 0 (-9), plT t 1 (-9), ?_, ?_⟩
  · unfold fX4_needle; rw [vPoints w hg R, bd3_s]
  · unfold fX5_needle; rw [mNeedle w hg, bd1_s]
theorem oPull (w : WF t) (hg : big g) (R : RV t np nh na ns nd nc nk nf nl nse) (rf : Nat → Int32) (p0 x y : Int32) : ∃ r x' y' rf', fX4_pull g p0 nh na ns x y nc nk nf nl nse rf = some (r, x', y', rf') ∧ fX5_pull g p0 (rw1 t) rf = some (r, rf') := by
  unfold fX4_pull fX5_pull
  rw [cNoWhat, bd1_s]
  rcases tri_or p0 (n := 2) (by omega) with h | ⟨j, hj, rfl⟩
  · refine ⟨1000000000 - (-2), x, y, rfz (-2) rf, ?_, ?_⟩
    · rw [show nvF p0 2 = -2 from nw_bad (n := 2) (by omega) h, if_neg zm2, rS4 ok2, bd2_s]
    · rw [show (1 : Int32) = nI 2 - 1 from rfl, mIsIn_bad (by omega) h, bd1_s, if_pos z00, rS5 ok2, bd2_s]
  · refine ⟨plT t (nI j) (-9), plT t 0 (-9), plT t 1 (-9), rf, ?_, ?_⟩
    · rw [show (2 : Int32) = nI 2 from rfl, nw_ok hj (by omega), if_pos z00, vWeigh w hg R, bd2_s]
      rcases (show j = 0 ∨ j = 1 by omega) with rfl | rfl
      · rw [if_pos (show nI 0 = 0 from rfl)]; rfl
      · rw [if_neg (show ¬ nI 1 = 0 by decide)]; rfl
    · rw [show (1 : Int32) = nI 2 - 1 from rfl, mIsIn_ok hj (by omega), bd1_s, if_neg z10, mPull w hg, bd1_s]
theorem oHome (w : WF t) (R : RV t np nh na ns nd nc nk nf nl nse) (rf : Nat → Int32) (p0 : Int32) : ∃ r rf', fX4_home g p0 nh ns nc nl rf = some (r, rf') ∧ fX5_home g p0 (rw1 t) rf = some (r, rf') := by
  have h7 := w.2.1
  unfold fX4_home fX5_home
  rw [R.2.1, cNoHand, bd1_s]
  rcases tri_or p0 (n := t 1) (by omega) with h | ⟨j, hj, rfl⟩
  · refine ⟨-1, rfz (-1) rf, ?_, ?_⟩
    · rw [nh_bad (by omega) h, if_neg zm1, rZ4 ok1, bd2_s]
    · rw [mHd_bad w h, bd1_s, if_pos z00, rZ5 ok1, bd2_s]
  · refine ⟨stT (nI (t 3)) (nI (cT t j)), rf, ?_, ?_⟩
    · rw [nh_ok hj (by omega), if_pos z00, gdn (by omega) (by decide), nI_clamp (by omega), (R.2.2.2.2.2.2 j hj).2.2.1, vStepsTo w R (w.2.2.2.2.1 j hj).2.2.1, bd1_s]
      rfl
    · rw [mHd_ok w hj, bd1_s, if_neg z10, mCellOf w hj, bd1_s, mSteps, bd1_s]
def htF (p d : Int32) : Int32 := if p < 1 then 0 else if 60 < p then 0 else if 999 < d + p then 0 else 1
theorem cTime (p d : Int32) : fX3_hasTimeFor g p d = some (htF p d) := by unfold fX3_hasTimeFor htF; (repeat' split) <;> rfl
theorem ht_ok {d n : Nat} (hd : d ≤ 999) (h1 : 1 ≤ n) (h2 : n ≤ 60) : htF (nI n) (nI d) = if 999 < d + n then 0 else 1 := by
  unfold htF
  rw [if_neg (show ¬ nI n < 1 from nI_nlt (b := 1) h1 (by omega)), if_neg (show ¬ 60 < nI n from nI_nlt (a := 60) h2 (by omega)), nI_add]
  by_cases e : 999 < d + n
  · rw [if_pos e, if_pos (show (999 : Int32) < nI (d + n) from nI_lt (a := 999) e (by omega))]
  · rw [if_neg e, if_neg (show ¬ (999 : Int32) < nI (d + n) from nI_nlt (a := 999) (by omega) (by omega))]
theorem oDays (w : WF t) (hg : big g) (ht : t 2 ≤ 999) (R : RV t np nh na ns nd nc nk nf nl nse) (rf : Nat → Int32) (p0 x y : Int32) : ∃ r t' s' d' x' y' se rf', fX4_days g p0 nh na ns nd x y nc nk nf nl nse rf = some (r, s', d', x', y', se, rf') ∧ fX5_days g p0 (rw1 t) rf = some (r, rw1 t', rf') ∧ WF t' ∧ t' 2 ≤ 999 ∧ RV t' np nh na s' d' nc nk nf nl se := by
  have key : ∀ c, okc c → ouF p0 1 60 = c ∨ (ouF p0 1 60 = 0 ∧ c = -6 ∧ htF p0 nd = 0) → fX4_days g p0 nh na ns nd x y nc nk nf nl nse rf = some (c, ns, nd, x, y, nse, rfz c rf) := by
    intro c hc h
    unfold fX4_days
    rw [cOut, bd1_s, cTime, bd1_s]
    rcases h with h | ⟨h, rfl, h2⟩
    · rw [h, cFirst, bd1_s, cFirst, bd1_s, fo_n hc, fo_n hc]
      rw [if_neg (okc_n hc), rZ4 hc, bd2_s]
      split <;> rfl
    · rw [h, h2, if_pos z00, cFirst, bd1_s, fo_0, if_neg zm6, rZ4 ok6, bd2_s]
  by_cases h1 : 1 ≤ p0
  · by_cases h2 : 60 < p0
    · refine ⟨-6, t, ns, nd, x, y, nse, rfz (-6) rf, key _ ok6 (Or.inl ?_), ?_, w, ht, R⟩
      · unfold ouF beF avF
        rw [if_pos h1, fo_0, if_neg (fun e => absurd (Int32.lt_of_lt_of_le h2 e) Int32.lt_irrefl)]
      · unfold fX5_days
        rw [if_pos h1, if_pos h2, rZ5 ok6, bd2_s]
    · rcases ou_or p0 (a := 1) (b := 60) (by omega) (by omega) with h | ⟨n, n1', n2, rfl, h0⟩
      · exfalso
        have : ouF p0 (nI 1) (nI 60) = 0 := by
          show ouF p0 1 60 = 0
          unfold ouF beF avF
          rw [if_pos h1, fo_0, if_pos (Int32.not_lt.mp h2)]
        exact okc_n h this
      · have h0 : ouF (nI n) 1 60 = 0 := h0
        have hht := ht_ok (d := t 2) (n := n) ht n1' n2
        by_cases e : 999 < t 2 + n
        · rw [if_pos e] at hht
          refine ⟨-6, t, ns, nd, x, y, nse, rfz (-6) rf, key _ ok6 (Or.inr ⟨h0, rfl, by rw [R.2.2.2.2.1]; exact hht⟩), ?_, w, ht, R⟩
          unfold fX5_days
          rw [if_pos h1, if_neg h2, if_neg (show ¬ rw1 t 2 + nI n ≤ 999 by show ¬ nI (t 2) + nI n ≤ 999; rw [nI_add]; exact nI_ge (a := 999) e (by omega)), rZ5 ok6, bd2_s]
        · rw [if_neg e] at hht
          obtain ⟨x', y', se, g1, g2⟩ := vDays (g := g) hg w R (N := n) (by omega) x y
          refine ⟨nI (daysT n t 3), daysT n t, nI (daysT n t 3), nI (daysT n t 2), x', y', se, rf, ?_, ?_, WF.days n 0 t w, by unfold daysT; rw [days_2]; omega, g2⟩
          · unfold fX4_days
            rw [cOut, bd1_s, cTime, bd1_s, h0, R.2.2.2.2.1, hht, if_neg z10, cFirst, bd1_s, fo_0, if_pos z00, ← R.2.2.2.2.1, g1, bd6_s]
          · unfold fX5_days
            rw [if_pos h1, if_neg h2, if_pos (show rw1 t 2 + nI n ≤ 999 by show nI (t 2) + nI n ≤ 999; rw [nI_add]; exact nI_le (b := 999) (by omega) (by omega)), mDays w hg (by omega), bd1_s]
  · refine ⟨-4, t, ns, nd, x, y, nse, rfz (-4) rf, key _ ok4 (Or.inl ?_), ?_, w, ht, R⟩
    · unfold ouF beF
      rw [if_neg h1, fo_n ok4]
    · unfold fX5_days
      rw [if_neg h1, rZ5 ok4, bd2_s]
end PC2
