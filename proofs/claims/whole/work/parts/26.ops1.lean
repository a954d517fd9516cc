/-! ===== pure level: the calls, class beside model (1) ===== -/
theorem cpy_at {α : Type} {f h : Nat → α} {N k : Nat} (hk : k < N) : va_cpy f h 0 0 N k = f k := by
  unfold va_cpy
  rw [if_pos ⟨Nat.zero_le k, by omega⟩]
  show f (0 + (k - 0)) = f k
  rw [Nat.zero_add, Nat.sub_zero]
theorem z10 : ¬ (1 : Int32) = 0 := by decide
theorem z00 : (0 : Int32) = 0 := rfl
theorem zm1 : ¬ (-1 : Int32) = 0 := by decide
theorem zm2 : ¬ (-2 : Int32) = 0 := by decide
theorem zm4 : ¬ (-4 : Int32) = 0 := by decide
theorem zm6 : ¬ (-6 : Int32) = 0 := by decide
section PC1
variable {g : Nat} {t : Nat → Nat} {np nh na ns nd : Int32} {nc nk nf nl nse : Nat → Int32}
theorem RV.cpy (w : WF t) (R : RV t np nh na ns nd nc nk nf nl nse) (c k f l se : Nat → Int32) : RV t np nh na ns nd (va_cpy nc c 0 0 6) (va_cpy nk k 0 0 7) (va_cpy nf f 0 0 7) (va_cpy nl l 0 0 7) (va_cpy nse se 0 0 7) := by
  obtain ⟨r1, r2, r3, r4, r5, r6, r7⟩ := R
  have h6 := w.1
  have h7 := w.2.1
  refine ⟨r1, r2, r3, r4, r5, fun i hi => ?_, fun h hh => ?_⟩
  · rw [cpy_at (by omega)]; exact r6 i hi
  · rw [cpy_at (by omega), cpy_at (by omega), cpy_at (by omega), cpy_at (by omega)]; exact r7 h hh
theorem vThink (w : WF t) (R : RV t np nh na ns nd nc nk nf nl nse) (tc tk tf tl ts : Nat → Int32) : ∃ c k f l se, fX4_think g np nh na ns nd nc nk nf nl nse tc tk tf tl ts = some (np, nh, na, ns, nd, c, k, f, l, se) ∧ RV t np nh na ns nd c k f l se := by
  refine ⟨_, _, _, _, _, ?_, R.cpy w tc tk tf tl ts⟩
  unfold fX4_think fX3_becomeLike
  rw [bd10_s]
theorem oPlace (w : WF t) (R : RV t np nh na ns nd nc nk nf nl nse) (rf : Nat → Int32) (p0 : Int32) : ∃ r rf', fX4_place g p0 np nc rf = some (r, rf') ∧ fX5_place g p0 (rw1 t) rf = some (r, rf') := by
  have h6 := w.1
  rw [R.1]
  unfold fX4_place fX5_place
  rcases tri_or p0 (n := t 0) (by omega) with h | ⟨j, hj, rfl⟩
  · refine ⟨-1, rfz (-1) rf, ?_, ?_⟩
    · rw [cNoPlace, nh_bad (by omega) h, bd1_s, if_neg (by decide), rZ4 ok1, bd2_s]
    · rw [mPl_bad w h, bd1_s, if_pos rfl, rZ5 ok1, bd2_s]
  · refine ⟨nI (t (4 + j)), rf, ?_, ?_⟩
    · rw [cNoPlace, nh_ok hj (by omega), bd1_s, if_pos rfl, gdn (by omega) (by decide), nI_clamp (by omega), R.2.2.2.2.2.1 j hj]
    · rw [mPl_ok w hj, bd1_s, if_neg (by decide), show (4 : Int32) + nI j = nI (4 + j) from nI_add 4 j, gdn (by omega) (by decide), nI_clamp (by omega)]
theorem oHand (w : WF t) (R : RV t np nh na ns nd nc nk nf nl nse) (rf : Nat → Int32) (p0 p1 : Int32) : ∃ r rf', fX4_hand g p0 p1 nh na nk nf nl nse rf = some (r, rf') ∧ fX5_hand g p0 p1 (rw1 t) rf = some (r, rf') := by
  have h7 := w.2.1
  rw [R.2.1, R.2.2.1]
  unfold fX4_hand fX5_hand
  rw [cNoHand, bd1_s, cNoWhat, bd1_s, cFirst, bd1_s]
  rcases tri_or p0 (n := t 1) (by omega) with h | ⟨j, hj, rfl⟩
  · refine ⟨-1, rfz (-1) rf, ?_, ?_⟩
    · rw [nh_bad (by omega) h, fo_n ok1, if_neg zm1, rZ4 ok1, bd2_s]
    · rw [mHd_bad w h, bd1_s, if_pos z00, rZ5 ok1, bd2_s]
  · rw [nh_ok hj (by omega), fo_0, mHd_ok w hj, bd1_s, if_neg z10]
    rcases tri_or p1 (n := 5) (by omega) with h | ⟨k, hk, rfl⟩
    · refine ⟨-2, rfz (-2) rf, ?_, ?_⟩
      · rw [show (5 : Int32) = nI 5 from rfl, nw_bad (by omega) h, if_neg zm2, rZ4 ok2, bd2_s]
      · rw [show (4 : Int32) = nI 5 - 1 from rfl, mIsIn_bad (by omega) h, bd1_s, if_pos z00, rZ5 ok2, bd2_s]
    · have q := R.2.2.2.2.2.2 j hj
      have hw := w.2.2.2.2.1 j hj
      refine ⟨nI (t (10 + 5 * j + k)), rf, ?_, ?_⟩
      · rw [show (5 : Int32) = nI 5 from rfl, nw_ok hk (by omega), if_pos z00]
        simp only [gdn (show j < 7 by omega) (show 7 < 2 ^ 31 by decide), nI_clamp (show j < 2 ^ 31 by omega), vAboard w hj, bd1_s]
        rw [q.1, q.2.1, q.2.2.1, q.2.2.2]
        rcases (show k = 0 ∨ k = 1 ∨ k = 2 ∨ k = 3 ∨ k = 4 by omega) with rfl | rfl | rfl | rfl | rfl
        · rfl
        · rw [if_neg (show ¬ nI 1 = 0 by decide), if_pos (show nI 1 = 1 from rfl), show 10 + 5 * j + 1 = 11 + 5 * j by omega]
        · rw [if_neg (show ¬ nI 2 = 0 by decide), if_neg (show ¬ nI 2 = 1 by decide), if_pos (show nI 2 = 2 from rfl), show 10 + 5 * j + 2 = 12 + 5 * j by omega]
        · rw [if_neg (show ¬ nI 3 = 0 by decide), if_neg (show ¬ nI 3 = 1 by decide), if_neg (show ¬ nI 3 = 2 by decide), if_pos (show nI 3 = 3 from rfl), show 10 + 5 * j + 3 = 13 + 5 * j by omega]
        · rw [if_neg (show ¬ nI 4 = 0 by decide), if_neg (show ¬ nI 4 = 1 by decide), if_neg (show ¬ nI 4 = 2 by decide), if_neg (show ¬ nI 4 = 3 by decide), show 10 + 5 * j + 4 = 14 + 5 * j by omega]
          rcases (show t (14 + 5 * j) = 0 ∨ t (14 + 5 * j) = 1 by omega) with e | e <;> rw [e] <;> rfl
      · rw [show (4 : Int32) = nI 5 - 1 from rfl, mIsIn_ok hk (by omega), bd1_s, if_neg z10, ofm g j k rfl, bd1_s, gdn (by omega) (by decide), nI_clamp (by omega)]
theorem vStepsTo (w : WF t) (R : RV t np nh na ns nd nc nk nf nl nse) {p : Nat} (hp : p < t 0) : fX3_stepsTo g (nI p) ns nc = some (stT (nI (t 3)) (nI (t (4 + p)))) := by
  have h6 := w.1
  unfold fX3_stepsTo fX4_steps fX4_rowOf fX4_columnOf
  rw [gdn (by omega) (by decide), nI_clamp (by omega), R.2.2.2.2.2.1 p hp, R.2.2.2.1]
  simp only [bd1_s, abs_fa]
  rfl
theorem vLeanNow (w : WF t) (R : RV t np nh na ns nd nc nk nf nl nse) {h : Nat} (hh : h < t 1) : fX3_leanNow g (nI h) ns nc nk nf nl nse = some (lnT t h) := by
  have h7 := w.2.1
  unfold fX3_leanNow
  rw [gdn (by omega) (by decide), nI_clamp (by omega), (R.2.2.2.2.2.2 h hh).2.2.1, vStepsTo w R (w.2.2.2.2.1 h hh).2.2.1, bd1_s]
  show bd1 (fX3_leanOf g (nI h) (stT (nI (t 3)) (nI (cT t h))) nk nf nse) _ = _
  rw [vLeanOf w R hh, bd1_s]
theorem oLeans (w : WF t) (R : RV t np nh na ns nd nc nk nf nl nse) (rf : Nat → Int32) (p0 : Int32) : ∃ r rf', fX4_leans g p0 nh ns nc nk nf nl nse rf = some (r, rf') ∧ fX5_leans g p0 (rw1 t) rf = some (r, rf') := by
  have h7 := w.2.1
  unfold fX4_leans fX5_leans
  rw [R.2.1, cNoHand, bd1_s]
  rcases tri_or p0 (n := t 1) (by omega) with h | ⟨j, hj, rfl⟩
  · refine ⟨1000000000 - (-1), rfz (-1) rf, ?_, ?_⟩
    · rw [nh_bad (by omega) h, if_neg (by decide), rS4 ok1, bd2_s]
    · rw [mHd_bad w h, bd1_s, if_pos rfl, rS5 ok1, bd2_s]
  · refine ⟨lnT t j, rf, ?_, ?_⟩
    · rw [nh_ok hj (by omega), if_pos rfl, vLeanNow w R hj, bd1_s]
    · rw [mHd_ok w hj, bd1_s, if_neg (by decide), mLean w hj, bd1_s]
/-- a hand's cells told anew -/
theorem RV.other (w : WF t) (R : RV t np nh na ns nd nc nk nf nl nse) {j i v : Nat} (hi : i < 4) (hj : j < t 1) : RV (updN t (10 + i + 5 * j) v) np nh na ns nd nc (if i = 0 then upd nk j (nI v) else nk) (if i = 1 then upd nf j (nI v) else nf) (if i = 2 then upd nl j (nI v) else nl) (if i = 3 then upd nse j (nI v) else nse) := by
  obtain ⟨r1, r2, r3, r4, r5, r6, r7⟩ := R
  have h6 := w.1
  refine ⟨by rw [updN_ne (by omega)]; exact r1, by rw [updN_ne (by omega)]; exact r2, ?_, by rw [updN_ne (by omega)]; exact r4, by rw [updN_ne (by omega)]; exact r5, ?_, ?_⟩
  · rw [r3]; exact congrArg nI (abT_cg (by rw [updN_ne (by omega)]) (fun h _ => by rw [updN_ne (by omega)]))
  · intro k hk
    rw [updN_ne (by omega)] at hk
    rw [updN_ne (by omega)]; exact r6 k hk
  · intro h hh
    rw [updN_ne (by omega)] at hh
    have q := r7 h hh
    have key : ∀ c, c < 4 → updN t (10 + i + 5 * j) v (10 + c + 5 * h) = if c = i ∧ h = j then v else t (10 + c + 5 * h) := by
      intro c hc
      unfold updN
      by_cases e : c = i ∧ h = j
      · rw [if_pos e, if_pos (by omega)]
      · rw [if_neg e, if_neg (by intro e2; exact e ⟨by omega, by omega⟩)]
    have up : ∀ (f : Nat → Int32) (c x : Nat), f h = nI x → (if i = c then upd f j (nI v) else f) h = nI (if c = i ∧ h = j then v else x) := by
      intro f c x hx
      by_cases e : i = c
      · rw [if_pos e]
        unfold upd
        by_cases e2 : h = j
        · rw [if_pos e2, if_pos ⟨e.symm, e2⟩]
        · rw [if_neg e2, if_neg (by omega)]; exact hx
      · rw [if_neg e, if_neg (by omega)]; exact hx
    rw [show 10 + 5 * h = 10 + 0 + 5 * h by omega, show 11 + 5 * h = 10 + 1 + 5 * h by omega, show 12 + 5 * h = 10 + 2 + 5 * h by omega, show 13 + 5 * h = 10 + 3 + 5 * h by omega, key 0 (by omega), key 1 (by omega), key 2 (by omega), key 3 (by omega)]
    rw [show 10 + 5 * h = 10 + 0 + 5 * h by omega, show 11 + 5 * h = 10 + 1 + 5 * h by omega, show 12 + 5 * h = 10 + 2 + 5 * h by omega, show 13 + 5 * h = 10 + 3 + 5 * h by omega] at q
    exact ⟨up nk 0 _ q.1, up nf 1 _ q.2.1, up nl 2 _ q.2.2.1, up nse 3 _ q.2.2.2⟩
theorem RV.sea (w : WF t) (R : RV t np nh na ns nd nc nk nf nl nse) {j v : Nat} (hj : j < t 1) : RV (updN t (13 + 5 * j) v) np nh na ns nd nc nk nf nl (upd nse j (nI v)) := R.other w (i := 3) (by omega) hj
theorem RV.miss (w : WF t) (R : RV t np nh na ns nd nc nk nf nl nse) {j v : Nat} (hj : j < t 1) : RV (updN t (12 + 5 * j) v) np nh na ns nd nc nk nf (upd nl j (nI v)) nse := R.other w (i := 2) (by omega) hj
theorem RV.fig (w : WF t) (R : RV t np nh na ns nd nc nk nf nl nse) {j v : Nat} (hj : j < t 1) : RV (updN t (11 + 5 * j) v) np nh na ns nd nc nk (upd nf j (nI v)) nl nse := R.other w (i := 1) (by omega) hj
theorem RV.kind (w : WF t) (R : RV t np nh na ns nd nc nk nf nl nse) {j v : Nat} (hj : j < t 1) : RV (updN t (10 + 5 * j) v) np nh na ns nd nc (upd nk j (nI v)) nf nl nse := R.other w (i := 0) (by omega) hj
/-- SEA of a hand halved -/
def drT (j : Nat) (t : Nat → Nat) : Nat → Nat := updN t (13 + 5 * j) (t (13 + 5 * j) / 2)
theorem WF.drop (w : WF t) {j : Nat} (hj : j < t 1) : WF (drT j t) := w.updH (j := 3) hj (by omega) ⟨by omega, by omega, by omega, fun _ => by have := (w.2.2.2.2.1 j hj).2.2.2.1; omega, by omega⟩
theorem half7 : ∀ x, x < 100 → nI x / 2 = nI (x / 2) := by decide +kernel
theorem vDrop (w : WF t) (R : RV t np nh na ns nd nc nk nf nl nse) {j : Nat} (hj : j < t 1) : fX3_dropLetter g (nI j) nse = some (upd nse j (nI (t (13 + 5 * j) / 2))) := by
  have h7 := w.2.1
  unfold fX3_dropLetter
  rw [gdn (by omega) (by decide), gdn (by omega) (by decide), nI_clamp (by omega), (R.2.2.2.2.2.2 j hj).2.2.2, half7 _ (w.2.2.2.2.1 j hj).2.2.2.1]
theorem mDrop (w : WF t) {j : Nat} (hj : j < t 1) : fX5_dropsIn g (nI j) (rw1 t) = some (rw1 (drT j t)) := by
  have h7 := w.2.1
  unfold fX5_dropsIn
  rw [of3, bd1_s, gdn (by omega) (by decide), gdn (by omega) (by decide), nI_clamp (by omega), half7 _ (w.2.2.2.2.1 j hj).2.2.2.1, upd_rw]
  rfl
theorem drT_2 (j : Nat) (t : Nat → Nat) : drT j t 2 = t 2 := updN_ne (by omega)
theorem oDrops (w : WF t) (R : RV t np nh na ns nd nc nk nf nl nse) (rf : Nat → Int32) (p0 : Int32) : ∃ r t' se rf', fX4_drops g p0 nh nse rf = some (r, se, rf') ∧ fX5_drops g p0 (rw1 t) rf = some (r, rw1 t', rf') ∧ WF t' ∧ t' 2 = t 2 ∧ RV t' np nh na ns nd nc nk nf nl se := by
  have h7 := w.2.1
  unfold fX4_drops fX5_drops
  rw [R.2.1, cNoHand, bd1_s]
  rcases tri_or p0 (n := t 1) (by omega) with h | ⟨j, hj, rfl⟩
  · refine ⟨-1, t, nse, rfz (-1) rf, ?_, ?_, w, rfl, by rw [← R.2.1]; exact R⟩
    · rw [nh_bad (by omega) h, if_neg zm1, rZ4 ok1, bd2_s]
    · rw [mHd_bad w h, bd1_s, if_pos z00, rZ5 ok1, bd2_s]
  · refine ⟨nI (t (13 + 5 * j) / 2), drT j t, upd nse j (nI (t (13 + 5 * j) / 2)), rf, ?_, ?_, w.drop hj, drT_2 j t, by rw [← R.2.1]; exact R.sea w hj⟩
    · rw [nh_ok hj (by omega), if_pos z00, vDrop w R hj, bd1_s, gdn (by omega) (by decide), nI_clamp (by omega)]
      unfold upd
      rw [if_pos rfl]
    · rw [mHd_ok w hj, bd1_s, if_neg z10, mDrop w hj, bd1_s, of3, bd1_s, gdn (by omega) (by decide), nI_clamp (by omega)]
      show some (nI (drT j t (13 + 5 * j)), _, _) = _
      unfold drT
      rw [updN_eq]
end PC1
