/-! ===== pure level: the calls, class beside model (17): what the statements do; laid by mkops16.py ===== -/
def plcA (v : Nat) (t : Nat → Nat) : Nat → Nat := updN (updN t (4 + t 0) v) 0 (t 0 + 1)
theorem dgOf {c i v : Nat} (e : ¬ (c = 104 ∧ i = 1)) (h : fitB c i v = true) : 48 ≤ v ∧ v ≤ 57 := by
  rw [fitD e] at h
  simpa using h
section PSO
variable {g L : Nat} {sg : Nat → Int32} {x : Nat → Nat} {t : Nat → Nat} {np nh na ns nd : Int32} {nc nk nf nl nse : Nat → Int32}
theorem cSign (T : TX L sg x) {p : Nat} (hp : p < 1000) : fX2_signAt g (nI p) (nI L) sg = some (if p < L then nI (x p) else 0) := by
  have hL := T.1
  unfold fX2_signAt
  rw [if_neg (nI_pos (by omega))]
  by_cases e : p < L
  · rw [if_neg (nI_ge e (by omega)), gdn (by omega) (by decide), nI_clamp (by omega), (T.2 p e).2, if_pos e]
  · rw [if_pos (nI_le (by omega) (by omega)), if_neg e]
theorem cDig (T : TX L sg x) {p : Nat} (hp : p < L) (h48 : 48 ≤ x p) : fX2_digitAt g (nI p) (nI L) sg = some (nI (x p - 48)) := by
  have hL := T.1
  unfold fX2_digitAt
  rw [cSign T (by omega), if_pos hp, bd1_s, show (48 : Int32) = nI 48 from rfl, pk_sub h48]
theorem cTwoAny (T : TX L sg x) {p : Nat} (hp : p < 900) : ∃ v, fX2_twoDigitsAt g (nI p) (nI L) sg = some v := by
  unfold fX2_twoDigitsAt fX2_digitAt
  rw [cSign T (by omega), bd1_s, bd1_s, nI_1, cSign T (by omega), bd1_s, bd1_s]
  exact ⟨_, rfl⟩
theorem cTwo (T : TX L sg x) {p : Nat} (hp : p + 1 < L) (h1 : 48 ≤ x p) (h2 : 48 ≤ x (p + 1)) : fX2_twoDigitsAt g (nI p) (nI L) sg = some (nI (10 * (x p - 48) + (x (p + 1) - 48))) := by
  unfold fX2_twoDigitsAt
  rw [cDig T (by omega) h1, bd1_s, nI_1, cDig T hp h2, bd1_s, show (10 : Int32) = nI 10 from rfl, pk_mul, nI_add]
theorem plcA_0 {v : Nat} : plcA v t 0 = t 0 + 1 := updN_eq
theorem plcA_ne {v j : Nat} (h0 : j ≠ 0) (h : j ≠ 4 + t 0) : plcA v t j = t j := by
  unfold plcA
  rw [updN_ne h0, updN_ne h]
theorem plcA_at {v : Nat} : plcA v t (4 + t 0) = v := by
  unfold plcA
  rw [updN_ne (by omega), updN_eq]
theorem WF.plcA1 (w : WF t) {v : Nat} (h : t 0 < 6) (hv : v < 64) : WF (plcA v t) := by
  obtain ⟨h0, h1, h3, h4, h5, h6⟩ := w
  refine ⟨by rw [plcA_0]; omega, by rw [plcA_ne (by omega) (by omega)]; exact h1, by rw [plcA_ne (by omega) (by omega)]; exact h3, ?_, ?_, ?_⟩
  · intro i hi
    rw [plcA_0] at hi
    by_cases e : i = t 0
    · subst e; rw [plcA_at]; exact hv
    · rw [plcA_ne (by omega) (by omega)]; exact h4 i (by omega)
  · intro k hk
    rw [plcA_ne (by omega) (by omega)] at hk
    have q := h5 k hk
    rw [plcA_0, plcA_ne (by omega) (by omega), plcA_ne (by omega) (by omega), plcA_ne (by omega) (by omega), plcA_ne (by omega) (by omega), plcA_ne (by omega) (by omega)]
    exact ⟨q.1, q.2.1, by omega, q.2.2.2.1, q.2.2.2.2⟩
  · intro k hk
    rw [plcA_ne (by omega) (by omega)]; exact h6 k hk
theorem RV.plcA1 (w : WF t) (R : RV t np nh na ns nd nc nk nf nl nse) {v : Nat} (h : t 0 < 6) : RV (plcA v t) (np + 1) nh na ns nd (upd nc (t 0) (nI v)) nk nf nl nse := by
  obtain ⟨r1, r2, r3, r4, r5, r6, r7⟩ := R
  refine ⟨by rw [plcA_0, r1, nI_1], by rw [plcA_ne (by omega) (by omega)]; exact r2, ?_, by rw [plcA_ne (by omega) (by omega)]; exact r4, by rw [plcA_ne (by omega) (by omega)]; exact r5, ?_, ?_⟩
  · rw [r3]; exact congrArg nI (abT_cg (by rw [plcA_ne (by omega) (by omega)]) (fun k _ => by rw [plcA_ne (by omega) (by omega)]))
  · intro i hi
    rw [plcA_0] at hi
    unfold upd
    by_cases e : i = t 0
    · subst e; rw [if_pos rfl, plcA_at]
    · rw [if_neg e, plcA_ne (by omega) (by omega)]; exact r6 i (by omega)
  · intro k hk
    rw [plcA_ne (by omega) (by omega)] at hk
    rw [plcA_ne (by omega) (by omega), plcA_ne (by omega) (by omega), plcA_ne (by omega) (by omega), plcA_ne (by omega) (by omega)]
    exact r7 k hk
theorem obA (T : TX L sg x) (w : WF t) (hg : big g) (ht : t 2 ≤ 999) (R : RV t np nh na ns nd nc nk nf nl nse) {r : Nat} (e : x r = 97) (hs : (stm x L r).1 = true) {nm : Nat → Int32} (N : NUM x r nm) (vx vy : Int32) : ∃ b t' o1 o2 o3 o4 o5 o6 o7 o8 o9 o10 o11 o12, fX4_obey g (nI r) np nh na ns nd vx vy nc nk nf nl nse (nI L) sg = some (b, o1, o2, o3, o4, o5, o6, o7, o8, o9, o10, o11, o12) ∧ fX5_isDone g (nI 97) (rw1 t) nm = some (b, rw1 t') ∧ (b = 0 ∨ b = 1) ∧ WF t' ∧ t' 2 ≤ 999 ∧ RV t' o1 o2 o3 o4 o5 o8 o9 o10 o11 o12 := by
  have h6 := w.1
  have h7 := w.2.1
  have hL := T.1
  obtain ⟨k1, k2, k3, k4, k5, k6⟩ := stm_ok hs
  have sg0 : fX2_signAt g (nI r) (nI L) sg = some (nI 97) := by rw [cSign T (by omega), if_pos k1, e]
  rw [e, show bo 97 = 1 from rfl] at k4 k5
  obtain ⟨v0, tw⟩ := cTwoAny (g := g) T (p := r + 1) (by omega)
  obtain ⟨d1, d2⟩ := dgOf (by decide) (k5 0 (by omega))
  rw [show r + 1 + 0 = r + 1 by omega] at d1 d2
  have dg1 : fX2_digitAt g (nI (r + 1)) (nI L) sg = some (nI (x (r + 1) - 48)) := cDig T (by omega) d1
  have n0 : nm 0 = nI (x (r + 1) - 48) := N.2.2.1 (by omega)
  generalize hA : x (r + 1) - 48 = A at dg1 n0
  have hA9 : A < 10 := by omega
  unfold fX4_obey fX5_isDone
  by_cases hh : A < t 1
  · have hv := vSide (g := g) w hh
    rw [← R.2.2.1] at hv
    have hb := (w.2.2.2.2.1 A hh).2.2.2.2
    refine ⟨1, boT A t, np, nh, nI (abT (boT A t)), ns, nd, vx, vy, nc, nk, nf, nl, nse, ?_, ?_, Or.inr rfl, w.board hh, by rw [boT_ne (by omega)]; exact ht, R.abd w (fun k h => boT_ne h)⟩
    · rw [nI_1, tw, bd1_s, sg0, bd1_s, if_neg (show ¬ nI 97 = 100 by decide), if_neg (show ¬ nI 97 = 104 by decide), if_neg (show ¬ nI 97 = 112 by decide), if_neg (show ¬ nI 97 = 115 by decide), dg1, bd1_s]
      unfold fX4_obeyOfHand
      rw [if_neg (nI_pos (by omega)), if_pos (show nI A < nh by rw [R.2.1]; exact nI_lt hh (by omega)), sg0, bd1_s, if_pos (show nI 97 = 97 from rfl), hv, bd1_s, bd4_s, gd_p (Or.inr rfl)]
    · rw [if_pos (show nI 97 = 97 from rfl), n0, mHd_ok w hh, bd1_s, if_neg z10, of4, bd1_s]
      simp only [gdn (show 14 + 5 * A < 45 by omega) (show 45 < 2 ^ 31 by decide), nI_clamp (show 14 + 5 * A < 2 ^ 31 by omega)]
      rw [b01 _ hb, upd_rw]
      rfl
  · refine ⟨0, t, np, nh, na, ns, nd, vx, vy, nc, nk, nf, nl, nse, ?_, ?_, Or.inl rfl, w, ht, R⟩
    · rw [nI_1, tw, bd1_s, sg0, bd1_s, if_neg (show ¬ nI 97 = 100 by decide), if_neg (show ¬ nI 97 = 104 by decide), if_neg (show ¬ nI 97 = 112 by decide), if_neg (show ¬ nI 97 = 115 by decide), dg1, bd1_s]
      unfold fX4_obeyOfHand
      rw [if_neg (nI_pos (by omega)), if_neg (show ¬ nI A < nh by rw [R.2.1]; exact nI_nlt (by omega) (by omega)), bd4_s, gd_p (Or.inl rfl)]
    · rw [if_pos (show nI 97 = 97 from rfl), n0, mHd_bad w (Or.inr (nI_le (by omega) (by omega))), bd1_s, if_pos z00]
theorem obL (T : TX L sg x) (w : WF t) (hg : big g) (ht : t 2 ≤ 999) (R : RV t np nh na ns nd nc nk nf nl nse) {r : Nat} (e : x r = 108) (hs : (stm x L r).1 = true) {nm : Nat → Int32} (N : NUM x r nm) (vx vy : Int32) : ∃ b t' o1 o2 o3 o4 o5 o6 o7 o8 o9 o10 o11 o12, fX4_obey g (nI r) np nh na ns nd vx vy nc nk nf nl nse (nI L) sg = some (b, o1, o2, o3, o4, o5, o6, o7, o8, o9, o10, o11, o12) ∧ fX5_isDone g (nI 108) (rw1 t) nm = some (b, rw1 t') ∧ (b = 0 ∨ b = 1) ∧ WF t' ∧ t' 2 ≤ 999 ∧ RV t' o1 o2 o3 o4 o5 o8 o9 o10 o11 o12 := by
  have h6 := w.1
  have h7 := w.2.1
  have hL := T.1
  obtain ⟨k1, k2, k3, k4, k5, k6⟩ := stm_ok hs
  have sg0 : fX2_signAt g (nI r) (nI L) sg = some (nI 108) := by rw [cSign T (by omega), if_pos k1, e]
  rw [e, show bo 108 = 1 from rfl] at k4 k5
  obtain ⟨v0, tw⟩ := cTwoAny (g := g) T (p := r + 1) (by omega)
  obtain ⟨d1, d2⟩ := dgOf (by decide) (k5 0 (by omega))
  rw [show r + 1 + 0 = r + 1 by omega] at d1 d2
  have dg1 : fX2_digitAt g (nI (r + 1)) (nI L) sg = some (nI (x (r + 1) - 48)) := cDig T (by omega) d1
  have n0 : nm 0 = nI (x (r + 1) - 48) := N.2.2.1 (by omega)
  generalize hA : x (r + 1) - 48 = A at dg1 n0
  have hA9 : A < 10 := by omega
  unfold fX4_obey fX5_isDone
  by_cases hh : A < t 1
  · refine ⟨1, drT A t, np, nh, na, ns, nd, vx, vy, nc, nk, nf, nl, upd nse A (nI (t (13 + 5 * A) / 2)), ?_, ?_, Or.inr rfl, w.drop hh, by rw [drT_2]; exact ht, R.sea w hh⟩
    · rw [nI_1, tw, bd1_s, sg0, bd1_s, if_neg (show ¬ nI 108 = 100 by decide), if_neg (show ¬ nI 108 = 104 by decide), if_neg (show ¬ nI 108 = 112 by decide), if_neg (show ¬ nI 108 = 115 by decide), dg1, bd1_s]
      unfold fX4_obeyOfHand
      rw [if_neg (nI_pos (by omega)), if_pos (show nI A < nh by rw [R.2.1]; exact nI_lt hh (by omega)), sg0, bd1_s, if_neg (show ¬ nI 108 = 97 by decide), if_pos (show nI 108 = 108 from rfl), vDrop w R hh, bd1_s, bd4_s, gd_p (Or.inr rfl)]
    · rw [if_neg (show ¬ nI 108 = 97 by decide), if_neg (show ¬ nI 108 = 104 by decide), if_pos (show nI 108 = 108 from rfl), n0, mHd_ok w hh, bd1_s, if_neg z10, mDrop w hh, bd1_s]
  · refine ⟨0, t, np, nh, na, ns, nd, vx, vy, nc, nk, nf, nl, nse, ?_, ?_, Or.inl rfl, w, ht, R⟩
    · rw [nI_1, tw, bd1_s, sg0, bd1_s, if_neg (show ¬ nI 108 = 100 by decide), if_neg (show ¬ nI 108 = 104 by decide), if_neg (show ¬ nI 108 = 112 by decide), if_neg (show ¬ nI 108 = 115 by decide), dg1, bd1_s]
      unfold fX4_obeyOfHand
      rw [if_neg (nI_pos (by omega)), if_neg (show ¬ nI A < nh by rw [R.2.1]; exact nI_nlt (by omega) (by omega)), bd4_s, gd_p (Or.inl rfl)]
    · rw [if_neg (show ¬ nI 108 = 97 by decide), if_neg (show ¬ nI 108 = 104 by decide), if_pos (show nI 108 = 108 from rfl), n0, mHd_bad w (Or.inr (nI_le (by omega) (by omega))), bd1_s, if_pos z00]
theorem obM (T : TX L sg x) (w : WF t) (hg : big g) (ht : t 2 ≤ 999) (R : RV t np nh na ns nd nc nk nf nl nse) {r : Nat} (e : x r = 109) (hs : (stm x L r).1 = true) {nm : Nat → Int32} (N : NUM x r nm) (vx vy : Int32) : ∃ b t' o1 o2 o3 o4 o5 o6 o7 o8 o9 o10 o11 o12, fX4_obey g (nI r) np nh na ns nd vx vy nc nk nf nl nse (nI L) sg = some (b, o1, o2, o3, o4, o5, o6, o7, o8, o9, o10, o11, o12) ∧ fX5_isDone g (nI 109) (rw1 t) nm = some (b, rw1 t') ∧ (b = 0 ∨ b = 1) ∧ WF t' ∧ t' 2 ≤ 999 ∧ RV t' o1 o2 o3 o4 o5 o8 o9 o10 o11 o12 := by
  have h6 := w.1
  have h7 := w.2.1
  have hL := T.1
  obtain ⟨k1, k2, k3, k4, k5, k6⟩ := stm_ok hs
  have sg0 : fX2_signAt g (nI r) (nI L) sg = some (nI 109) := by rw [cSign T (by omega), if_pos k1, e]
  rw [e, show bo 109 = 2 from rfl] at k4 k5
  obtain ⟨f1, f2⟩ := dgOf (by decide) (k5 1 (by omega))
  rw [show r + 1 + 1 = r + 2 by omega] at f1 f2
  have dg2 : fX2_digitAt g (nI (r + 2)) (nI L) sg = some (nI (x (r + 2) - 48)) := cDig T (by omega) f1
  have n1' : nm 1 = nI (x (r + 2) - 48) := N.2.2.2 e
  generalize hB : x (r + 2) - 48 = B at dg2 n1'
  have hB9 : B < 10 := by omega
  have r2 : nI r + 2 = nI (r + 2) := nI_add r 2
  obtain ⟨v0, tw⟩ := cTwoAny (g := g) T (p := r + 1) (by omega)
  obtain ⟨d1, d2⟩ := dgOf (by decide) (k5 0 (by omega))
  rw [show r + 1 + 0 = r + 1 by omega] at d1 d2
  have dg1 : fX2_digitAt g (nI (r + 1)) (nI L) sg = some (nI (x (r + 1) - 48)) := cDig T (by omega) d1
  have n0 : nm 0 = nI (x (r + 1) - 48) := N.2.2.1 (by omega)
  generalize hA : x (r + 1) - 48 = A at dg1 n0
  have hA9 : A < 10 := by omega
  unfold fX4_obey fX5_isDone
  by_cases hh : A < t 1
  · by_cases hp : B < t 0
    · refine ⟨1, updN t (12 + 5 * A) B, np, nh, na, ns, nd, vx, vy, nc, nk, nf, upd nl A (nI B), nse, ?_, ?_, Or.inr rfl, w.updH (j := 2) hh (by omega) ⟨by omega, by omega, fun _ => hp, by omega, by omega⟩, by rw [updN_ne (by omega)]; exact ht, R.miss w hh⟩
      · rw [nI_1, tw, bd1_s, sg0, bd1_s, if_neg (show ¬ nI 109 = 100 by decide), if_neg (show ¬ nI 109 = 104 by decide), if_neg (show ¬ nI 109 = 112 by decide), if_neg (show ¬ nI 109 = 115 by decide), dg1, bd1_s]
        unfold fX4_obeyOfHand fX4_obeyLonging
        rw [if_neg (nI_pos (by omega)), if_pos (show nI A < nh by rw [R.2.1]; exact nI_lt hh (by omega)), sg0, bd1_s, if_neg (show ¬ nI 109 = 97 by decide), if_neg (show ¬ nI 109 = 108 by decide), if_pos (show nI 109 = 109 from rfl), r2, dg2, bd1_s, if_neg (nI_pos (by omega)), if_pos (show nI B < np by rw [R.1]; exact nI_lt hp (by omega)), gdn (by omega) (by decide), nI_clamp (by omega), bd2_s, gd_p (Or.inr rfl), bd4_s, gd_p (Or.inr rfl)]
      · rw [if_neg (show ¬ nI 109 = 97 by decide), if_neg (show ¬ nI 109 = 104 by decide), if_neg (show ¬ nI 109 = 108 by decide), if_pos (show nI 109 = 109 from rfl), n0, mHd_ok w hh, bd1_s, if_neg z10, n1', mPl_ok w hp, bd1_s, if_neg z10, of2, bd1_s, gdn (by omega) (by decide), nI_clamp (by omega), upd_rw]
    · refine ⟨0, t, np, nh, na, ns, nd, vx, vy, nc, nk, nf, nl, nse, ?_, ?_, Or.inl rfl, w, ht, R⟩
      · rw [nI_1, tw, bd1_s, sg0, bd1_s, if_neg (show ¬ nI 109 = 100 by decide), if_neg (show ¬ nI 109 = 104 by decide), if_neg (show ¬ nI 109 = 112 by decide), if_neg (show ¬ nI 109 = 115 by decide), dg1, bd1_s]
        unfold fX4_obeyOfHand fX4_obeyLonging
        rw [if_neg (nI_pos (by omega)), if_pos (show nI A < nh by rw [R.2.1]; exact nI_lt hh (by omega)), sg0, bd1_s, if_neg (show ¬ nI 109 = 97 by decide), if_neg (show ¬ nI 109 = 108 by decide), if_pos (show nI 109 = 109 from rfl), r2, dg2, bd1_s, if_neg (nI_pos (by omega)), if_neg (show ¬ nI B < np by rw [R.1]; exact nI_nlt (by omega) (by omega)), bd2_s, gd_p (Or.inl rfl), bd4_s, gd_p (Or.inl rfl)]
      · rw [if_neg (show ¬ nI 109 = 97 by decide), if_neg (show ¬ nI 109 = 104 by decide), if_neg (show ¬ nI 109 = 108 by decide), if_pos (show nI 109 = 109 from rfl), n0, mHd_ok w hh, bd1_s, if_neg z10, n1', mPl_bad w (Or.inr (nI_le (by omega) (by omega))), bd1_s, if_pos z00]
  · refine ⟨0, t, np, nh, na, ns, nd, vx, vy, nc, nk, nf, nl, nse, ?_, ?_, Or.inl rfl, w, ht, R⟩
    · rw [nI_1, tw, bd1_s, sg0, bd1_s, if_neg (show ¬ nI 109 = 100 by decide), if_neg (show ¬ nI 109 = 104 by decide), if_neg (show ¬ nI 109 = 112 by decide), if_neg (show ¬ nI 109 = 115 by decide), dg1, bd1_s]
      unfold fX4_obeyOfHand
      rw [if_neg (nI_pos (by omega)), if_neg (show ¬ nI A < nh by rw [R.2.1]; exact nI_nlt (by omega) (by omega)), bd4_s, gd_p (Or.inl rfl)]
    · rw [if_neg (show ¬ nI 109 = 97 by decide), if_neg (show ¬ nI 109 = 104 by decide), if_neg (show ¬ nI 109 = 108 by decide), if_pos (show nI 109 = 109 from rfl), n0, mHd_bad w (Or.inr (nI_le (by omega) (by omega))), bd1_s, if_pos z00]
theorem obP (T : TX L sg x) (w : WF t) (hg : big g) (ht : t 2 ≤ 999) (R : RV t np nh na ns nd nc nk nf nl nse) {r : Nat} (e : x r = 112) (hs : (stm x L r).1 = true) {nm : Nat → Int32} (N : NUM x r nm) (vx vy : Int32) : ∃ b t' o1 o2 o3 o4 o5 o6 o7 o8 o9 o10 o11 o12, fX4_obey g (nI r) np nh na ns nd vx vy nc nk nf nl nse (nI L) sg = some (b, o1, o2, o3, o4, o5, o6, o7, o8, o9, o10, o11, o12) ∧ fX5_isDone g (nI 112) (rw1 t) nm = some (b, rw1 t') ∧ (b = 0 ∨ b = 1) ∧ WF t' ∧ t' 2 ≤ 999 ∧ RV t' o1 o2 o3 o4 o5 o8 o9 o10 o11 o12 := by
  have h6 := w.1
  have h7 := w.2.1
  have hL := T.1
  obtain ⟨k1, k2, k3, k4, k5, k6⟩ := stm_ok hs
  have sg0 : fX2_signAt g (nI r) (nI L) sg = some (nI 112) := by rw [cSign T (by omega), if_pos k1, e]
  rw [e, show bo 112 = 2 from rfl] at k4 k5
  obtain ⟨d1, d2⟩ := dgOf (by decide) (k5 0 (by omega))
  obtain ⟨f1, f2⟩ := dgOf (by decide) (k5 1 (by omega))
  rw [show r + 1 + 0 = r + 1 by omega] at d1 d2
  have tw : fX2_twoDigitsAt g (nI (r + 1)) (nI L) sg = some (nI (10 * (x (r + 1) - 48) + (x (r + 1 + 1) - 48))) := cTwo T (by omega) d1 f1
  have n0 : nm 0 = nI (10 * (x (r + 1) - 48) + (x (r + 1 + 1) - 48)) := N.1 (by omega)
  generalize hA : 10 * (x (r + 1) - 48) + (x (r + 1 + 1) - 48) = A at tw n0
  have hA9 : A < 100 := by omega
  unfold fX4_obey fX5_isDone
  have c0 : fX5_isCell g (nI A) = some (if A < 64 then 1 else 0) := by
    unfold fX5_isCell
    by_cases e : A < 64
    · rw [show (63 : Int32) = nI 64 - 1 from rfl, mIsIn_ok e (by omega), bd1_s, gd_p (Or.inr rfl), if_pos e]
    · rw [show (63 : Int32) = nI 64 - 1 from rfl, mIsIn_bad (by omega) (Or.inr (nI_le (by omega) (by omega))), bd1_s, gd_p (Or.inl rfl), if_neg e]
  have x6 : (rw1 t 0 = 6) = (t 0 = 6) := n1 6 (by omega) (by decide)
  by_cases h : t 0 = 6
  · refine ⟨0, t, np, nh, na, ns, nd, vx, vy, nc, nk, nf, nl, nse, ?_, ?_, Or.inl rfl, w, ht, R⟩
    · rw [nI_1, tw, bd1_s, sg0, bd1_s, if_neg (show ¬ nI 112 = 100 by decide), if_neg (show ¬ nI 112 = 104 by decide), if_pos (show nI 112 = 112 from rfl)]
      unfold fX3_addPlace
      rw [if_pos (show (6 : Int32) ≤ np by rw [R.1, h]; decide), bd3_s, gd_p (Or.inl rfl)]
    · rw [if_neg (show ¬ nI 112 = 97 by decide), if_neg (show ¬ nI 112 = 104 by decide), if_neg (show ¬ nI 112 = 108 by decide), if_neg (show ¬ nI 112 = 109 by decide), if_pos (show nI 112 = 112 from rfl), n0, c0, bd1_s]
      simp only [x6]
      rw [if_pos h]
      split <;> rfl
  · have s6 : ¬ (6 : Int32) ≤ np := by rw [R.1]; exact nI_ge (b := 6) (by omega) (by omega)
    by_cases hv : A < 64
    · refine ⟨1, plcA A t, np + 1, nh, na, ns, nd, vx, vy, upd nc (t 0) (nI A), nk, nf, nl, nse, ?_, ?_, Or.inr rfl, w.plcA1 (by omega) hv, by rw [plcA_ne (by omega) (by omega)]; exact ht, R.plcA1 w (by omega)⟩
      · rw [nI_1, tw, bd1_s, sg0, bd1_s, if_neg (show ¬ nI 112 = 100 by decide), if_neg (show ¬ nI 112 = 104 by decide), if_pos (show nI 112 = 112 from rfl)]
        unfold fX3_addPlace
        have e0 : np = nI (t 0) := R.1
        rw [if_neg s6, if_neg (nI_pos (by omega)), if_pos (show nI A < 64 from nI_lt (b := 64) hv (by omega)), e0, gdn (by omega) (by decide), nI_clamp (by omega), bd3_s, gd_p (Or.inr rfl)]
      · rw [if_neg (show ¬ nI 112 = 97 by decide), if_neg (show ¬ nI 112 = 104 by decide), if_neg (show ¬ nI 112 = 108 by decide), if_neg (show ¬ nI 112 = 109 by decide), if_pos (show nI 112 = 112 from rfl), n0, c0, bd1_s, if_pos hv, if_neg z10]
        simp only [x6]
        rw [if_neg h, show (4 : Int32) + rw1 t 0 = nI (4 + t 0) from nI_add 4 (t 0), gdn (by omega) (by decide), nI_clamp (by omega), upd_rw]
        have e0 : rw1 (updN t (4 + t 0) A) 0 = nI (t 0) := by show nI (updN t (4 + t 0) A 0) = _; rw [updN_ne (by omega)]
        rw [e0, nI_1, upd_rw]
        rfl
    · refine ⟨0, t, np, nh, na, ns, nd, vx, vy, nc, nk, nf, nl, nse, ?_, ?_, Or.inl rfl, w, ht, R⟩
      · rw [nI_1, tw, bd1_s, sg0, bd1_s, if_neg (show ¬ nI 112 = 100 by decide), if_neg (show ¬ nI 112 = 104 by decide), if_pos (show nI 112 = 112 from rfl)]
        unfold fX3_addPlace
        rw [if_neg s6, if_neg (nI_pos (by omega)), if_neg (show ¬ nI A < 64 from nI_nlt (b := 64) (by omega) (by omega)), bd3_s, gd_p (Or.inl rfl)]
      · rw [if_neg (show ¬ nI 112 = 97 by decide), if_neg (show ¬ nI 112 = 104 by decide), if_neg (show ¬ nI 112 = 108 by decide), if_neg (show ¬ nI 112 = 109 by decide), if_pos (show nI 112 = 112 from rfl), n0, c0, bd1_s, if_neg hv, if_pos z00]
theorem obS (T : TX L sg x) (w : WF t) (hg : big g) (ht : t 2 ≤ 999) (R : RV t np nh na ns nd nc nk nf nl nse) {r : Nat} (e : x r = 115) (hs : (stm x L r).1 = true) {nm : Nat → Int32} (N : NUM x r nm) (vx vy : Int32) : ∃ b t' o1 o2 o3 o4 o5 o6 o7 o8 o9 o10 o11 o12, fX4_obey g (nI r) np nh na ns nd vx vy nc nk nf nl nse (nI L) sg = some (b, o1, o2, o3, o4, o5, o6, o7, o8, o9, o10, o11, o12) ∧ fX5_isDone g (nI 115) (rw1 t) nm = some (b, rw1 t') ∧ (b = 0 ∨ b = 1) ∧ WF t' ∧ t' 2 ≤ 999 ∧ RV t' o1 o2 o3 o4 o5 o8 o9 o10 o11 o12 := by
  have h6 := w.1
  have h7 := w.2.1
  have hL := T.1
  obtain ⟨k1, k2, k3, k4, k5, k6⟩ := stm_ok hs
  have sg0 : fX2_signAt g (nI r) (nI L) sg = some (nI 115) := by rw [cSign T (by omega), if_pos k1, e]
  rw [e, show bo 115 = 2 from rfl] at k4 k5
  obtain ⟨d1, d2⟩ := dgOf (by decide) (k5 0 (by omega))
  obtain ⟨f1, f2⟩ := dgOf (by decide) (k5 1 (by omega))
  rw [show r + 1 + 0 = r + 1 by omega] at d1 d2
  have tw : fX2_twoDigitsAt g (nI (r + 1)) (nI L) sg = some (nI (10 * (x (r + 1) - 48) + (x (r + 1 + 1) - 48))) := cTwo T (by omega) d1 f1
  have n0 : nm 0 = nI (10 * (x (r + 1) - 48) + (x (r + 1 + 1) - 48)) := N.1 (by omega)
  generalize hA : 10 * (x (r + 1) - 48) + (x (r + 1 + 1) - 48) = A at tw n0
  have hA9 : A < 100 := by omega
  unfold fX4_obey fX5_isDone
  have c0 : fX5_isCell g (nI A) = some (if A < 64 then 1 else 0) := by
    unfold fX5_isCell
    by_cases e : A < 64
    · rw [show (63 : Int32) = nI 64 - 1 from rfl, mIsIn_ok e (by omega), bd1_s, gd_p (Or.inr rfl), if_pos e]
    · rw [show (63 : Int32) = nI 64 - 1 from rfl, mIsIn_bad (by omega) (Or.inr (nI_le (by omega) (by omega))), bd1_s, gd_p (Or.inl rfl), if_neg e]
  have cl : fX4_obeyShip g (nI A) ns = some (if A < 64 then 1 else 0, if A < 64 then nI A else ns) := by
    unfold fX4_obeyShip
    rw [if_neg (nI_pos (by omega))]
    by_cases e : A < 64
    · rw [if_pos (show nI A < 64 from nI_lt (b := 64) e (by omega)), if_pos e, if_pos e]
    · rw [if_neg (show ¬ nI A < 64 from nI_nlt (b := 64) (by omega) (by omega)), if_neg e, if_neg e]
  by_cases hv : A < 64
  · rw [if_pos hv] at c0
    rw [if_pos hv, if_pos hv] at cl
    refine ⟨1, updN t 3 A, np, nh, na, nI A, nd, vx, vy, nc, nk, nf, nl, nse, ?_, ?_, Or.inr rfl, w.upd3 hv, by rw [updN_ne (by omega)]; exact ht, R.ship3 w A⟩
    · rw [nI_1, tw, bd1_s, sg0, bd1_s, if_neg (show ¬ nI 115 = 100 by decide), if_neg (show ¬ nI 115 = 104 by decide), if_neg (show ¬ nI 115 = 112 by decide), if_pos (show nI 115 = 115 from rfl), cl, bd2_s, gd_p (Or.inr rfl)]
    · rw [if_neg (show ¬ nI 115 = 97 by decide), if_neg (show ¬ nI 115 = 104 by decide), if_neg (show ¬ nI 115 = 108 by decide), if_neg (show ¬ nI 115 = 109 by decide), if_neg (show ¬ nI 115 = 112 by decide), if_pos (show nI 115 = 115 from rfl), n0, c0, bd1_s, if_neg z10, upd_rw]
  · rw [if_neg hv] at c0
    rw [if_neg hv, if_neg hv] at cl
    refine ⟨0, t, np, nh, na, ns, nd, vx, vy, nc, nk, nf, nl, nse, ?_, ?_, Or.inl rfl, w, ht, R⟩
    · rw [nI_1, tw, bd1_s, sg0, bd1_s, if_neg (show ¬ nI 115 = 100 by decide), if_neg (show ¬ nI 115 = 104 by decide), if_neg (show ¬ nI 115 = 112 by decide), if_pos (show nI 115 = 115 from rfl), cl, bd2_s, gd_p (Or.inl rfl)]
    · rw [if_neg (show ¬ nI 115 = 97 by decide), if_neg (show ¬ nI 115 = 104 by decide), if_neg (show ¬ nI 115 = 108 by decide), if_neg (show ¬ nI 115 = 109 by decide), if_neg (show ¬ nI 115 = 112 by decide), if_pos (show nI 115 = 115 from rfl), n0, c0, bd1_s, if_pos z00]
theorem obD (T : TX L sg x) (w : WF t) (hg : big g) (ht : t 2 ≤ 999) (R : RV t np nh na ns nd nc nk nf nl nse) {r : Nat} (e : x r = 100) (hs : (stm x L r).1 = true) {nm : Nat → Int32} (N : NUM x r nm) (vx vy : Int32) : ∃ b t' o1 o2 o3 o4 o5 o6 o7 o8 o9 o10 o11 o12, fX4_obey g (nI r) np nh na ns nd vx vy nc nk nf nl nse (nI L) sg = some (b, o1, o2, o3, o4, o5, o6, o7, o8, o9, o10, o11, o12) ∧ fX5_isDone g (nI 100) (rw1 t) nm = some (b, rw1 t') ∧ (b = 0 ∨ b = 1) ∧ WF t' ∧ t' 2 ≤ 999 ∧ RV t' o1 o2 o3 o4 o5 o8 o9 o10 o11 o12 := by
  have h6 := w.1
  have h7 := w.2.1
  have hL := T.1
  obtain ⟨k1, k2, k3, k4, k5, k6⟩ := stm_ok hs
  have sg0 : fX2_signAt g (nI r) (nI L) sg = some (nI 100) := by rw [cSign T (by omega), if_pos k1, e]
  rw [e, show bo 100 = 2 from rfl] at k4 k5
  obtain ⟨d1, d2⟩ := dgOf (by decide) (k5 0 (by omega))
  obtain ⟨f1, f2⟩ := dgOf (by decide) (k5 1 (by omega))
  rw [show r + 1 + 0 = r + 1 by omega] at d1 d2
  have tw : fX2_twoDigitsAt g (nI (r + 1)) (nI L) sg = some (nI (10 * (x (r + 1) - 48) + (x (r + 1 + 1) - 48))) := cTwo T (by omega) d1 f1
  have n0 : nm 0 = nI (10 * (x (r + 1) - 48) + (x (r + 1 + 1) - 48)) := N.1 (by omega)
  generalize hA : 10 * (x (r + 1) - 48) + (x (r + 1 + 1) - 48) = A at tw n0
  have hA9 : A < 100 := by omega
  unfold fX4_obey fX5_isDone
  have e2 : nd = nI (t 2) := R.2.2.2.2.1
  by_cases h : 1 ≤ A ∧ A ≤ 60
  · have c0 : fX5_isIn g (nI A) 1 60 = some 1 := by
      unfold fX5_isIn
      rw [if_neg (show ¬ nI A < 1 from nI_nlt (b := 1) h.1 (by omega)), if_neg (show ¬ 60 < nI A from nI_nlt (a := 60) h.2 (by omega))]
    have hh := ht_ok (d := t 2) (n := A) ht h.1 h.2
    rw [← e2] at hh
    by_cases hq : 999 < t 2 + A
    · rw [if_pos hq] at hh
      refine ⟨0, t, np, nh, na, ns, nd, vx, vy, nc, nk, nf, nl, nse, ?_, ?_, Or.inl rfl, w, ht, R⟩
      · rw [nI_1, tw, bd1_s, sg0, bd1_s, if_pos (show nI 100 = 100 from rfl), cTime, bd1_s, hh, if_pos z00]
      · rw [if_neg (show ¬ nI 100 = 97 by decide), if_neg (show ¬ nI 100 = 104 by decide), if_neg (show ¬ nI 100 = 108 by decide), if_neg (show ¬ nI 100 = 109 by decide), if_neg (show ¬ nI 100 = 112 by decide), if_neg (show ¬ nI 100 = 115 by decide), n0, c0, bd1_s, if_neg z10, if_neg (show ¬ rw1 t 2 + nI A ≤ 999 by show ¬ nI (t 2) + nI A ≤ 999; rw [nI_add]; exact nI_ge (a := 999) hq (by omega))]
    · rw [if_neg hq] at hh
      obtain ⟨x', y', se, g1, g2⟩ := vDays (g := g) hg w R (N := A) (by omega) vx vy
      refine ⟨1, daysT A t, np, nh, na, nI (daysT A t 3), nI (daysT A t 2), x', y', nc, nk, nf, nl, se, ?_, ?_, Or.inr rfl, WF.days A 0 t w, by unfold daysT; rw [days_2]; omega, g2⟩
      · rw [nI_1, tw, bd1_s, sg0, bd1_s, if_pos (show nI 100 = 100 from rfl), cTime, bd1_s, hh, if_neg z10, g1, bd6_s]
      · rw [if_neg (show ¬ nI 100 = 97 by decide), if_neg (show ¬ nI 100 = 104 by decide), if_neg (show ¬ nI 100 = 108 by decide), if_neg (show ¬ nI 100 = 109 by decide), if_neg (show ¬ nI 100 = 112 by decide), if_neg (show ¬ nI 100 = 115 by decide), n0, c0, bd1_s, if_neg z10, if_pos (show rw1 t 2 + nI A ≤ 999 by show nI (t 2) + nI A ≤ 999; rw [nI_add]; exact nI_le (b := 999) (by omega) (by omega)), mDays w hg (by omega), bd1_s]
  · have hh : htF (nI A) nd = 0 := by
      unfold htF
      by_cases h1 : A < 1
      · rw [if_pos (show nI A < 1 from nI_lt (b := 1) h1 (by omega))]
      · rw [if_neg (show ¬ nI A < 1 from nI_nlt (b := 1) (by omega) (by omega)), if_pos (show 60 < nI A from nI_lt (a := 60) (by omega) (by omega))]
    have c0 : fX5_isIn g (nI A) 1 60 = some 0 := by
      unfold fX5_isIn
      by_cases h1 : A < 1
      · rw [if_pos (show nI A < 1 from nI_lt (b := 1) h1 (by omega))]
      · rw [if_neg (show ¬ nI A < 1 from nI_nlt (b := 1) (by omega) (by omega)), if_pos (show 60 < nI A from nI_lt (a := 60) (by omega) (by omega))]
    refine ⟨0, t, np, nh, na, ns, nd, vx, vy, nc, nk, nf, nl, nse, ?_, ?_, Or.inl rfl, w, ht, R⟩
    · rw [nI_1, tw, bd1_s, sg0, bd1_s, if_pos (show nI 100 = 100 from rfl), cTime, bd1_s, hh, if_pos z00]
    · rw [if_neg (show ¬ nI 100 = 97 by decide), if_neg (show ¬ nI 100 = 104 by decide), if_neg (show ¬ nI 100 = 108 by decide), if_neg (show ¬ nI 100 = 109 by decide), if_neg (show ¬ nI 100 = 112 by decide), if_neg (show ¬ nI 100 = 115 by decide), n0, c0, bd1_s, if_pos z00]
theorem obH (T : TX L sg x) (w : WF t) (hg : big g) (ht : t 2 ≤ 999) (R : RV t np nh na ns nd nc nk nf nl nse) {r : Nat} (e : x r = 104) (hs : (stm x L r).1 = true) {nm : Nat → Int32} (N : NUM x r nm) (vx vy : Int32) : ∃ b t' o1 o2 o3 o4 o5 o6 o7 o8 o9 o10 o11 o12, fX4_obey g (nI r) np nh na ns nd vx vy nc nk nf nl nse (nI L) sg = some (b, o1, o2, o3, o4, o5, o6, o7, o8, o9, o10, o11, o12) ∧ fX5_isDone g (nI 104) (rw1 t) nm = some (b, rw1 t') ∧ (b = 0 ∨ b = 1) ∧ WF t' ∧ t' 2 ≤ 999 ∧ RV t' o1 o2 o3 o4 o5 o8 o9 o10 o11 o12 := by
  have h6 := w.1
  have h7 := w.2.1
  have hL := T.1
  obtain ⟨k1, k2, k3, k4, k5, k6⟩ := stm_ok hs
  have sg0 : fX2_signAt g (nI r) (nI L) sg = some (nI 104) := by rw [cSign T (by omega), if_pos k1, e]
  rw [e, show bo 104 = 3 from rfl] at k4 k5
  have k50 := k5 0 (by omega)
  rw [show 1 + 0 = 1 from rfl, fitK, show r + 1 + 0 = r + 1 by omega] at k50
  have hk6 : kdN (x (r + 1)) < 6 := by simpa using k50
  obtain ⟨d1, d2⟩ := dgOf (by decide) (k5 1 (by omega))
  obtain ⟨f1, f2⟩ := dgOf (by decide) (k5 2 (by omega))
  rw [show r + 1 + 1 = r + 2 by omega] at d1 d2
  rw [show r + 1 + 2 = r + 3 by omega] at f1 f2
  obtain ⟨v0, tw⟩ := cTwoAny (g := g) T (p := r + 1) (by omega)
  have s1 : fX2_signAt g (nI (r + 1)) (nI L) sg = some (nI (x (r + 1))) := by rw [cSign T (by omega), if_pos (by omega)]
  have kk : fX4_kindOf g (nI (x (r + 1))) = some (nI (kdN (x (r + 1)))) := by rw [cKind g (T.2 (r + 1) (by omega)).1, if_pos hk6]
  have dgA : fX2_digitAt g (nI (r + 2)) (nI L) sg = some (nI (x (r + 2) - 48)) := cDig T (by omega) d1
  have dgB : fX2_digitAt g (nI (r + 3)) (nI L) sg = some (nI (x (r + 3) - 48)) := cDig T (by omega) f1
  obtain ⟨n0, n1', n2⟩ := N.2.1 e
  generalize hK : kdN (x (r + 1)) = K at kk n0 hk6
  generalize hA : x (r + 2) - 48 = A at dgA n1'
  generalize hB : x (r + 3) - 48 = B at dgB n2
  have hA9 : A < 10 := by omega
  have hB9 : B < 10 := by omega
  have r2 : nI r + 2 = nI (r + 2) := nI_add r 2
  have r3 : nI r + 3 = nI (r + 3) := nI_add r 3
  have x7 : (rw1 t 1 = 7) = (t 1 = 7) := n1 7 (by omega) (by decide)
  unfold fX4_obey fX5_isDone
  by_cases hp : B < t 0
  · by_cases h : t 1 = 7
    · refine ⟨0, t, np, nh, na, ns, nd, vx, vy, nc, nk, nf, nl, nse, ?_, ?_, Or.inl rfl, w, ht, R⟩
      · rw [nI_1, tw, bd1_s, sg0, bd1_s, if_neg (show ¬ nI 104 = 100 by decide), if_pos (show nI 104 = 104 from rfl), s1, bd1_s, kk, bd1_s, r2, dgA, bd1_s, r3, dgB, bd1_s, vAdd_no R (by omega) (by omega), bd7_s, gd_p (Or.inl rfl)]
      · rw [if_neg (show ¬ nI 104 = 97 by decide), if_pos (show nI 104 = 104 from rfl), n2, mPl_ok w hp, bd1_s, if_neg z10]
        simp only [x7]
        rw [if_pos h]
    · refine ⟨1, adT K A B t, np, nh + 1, na ||| ((1 : Int32) <<< (nh &&& 31)), ns, nd, vx, vy, nc, upd nk (t 1) (nI K), upd nf (t 1) (nI A), upd nl (t 1) (nI B), upd nse (t 1) 0, ?_, ?_, Or.inr rfl, w.add (by omega) hk6 hA9 hp, by rw [adT_ne (by omega) (by omega)]; exact ht, R.add w (by omega)⟩
      · rw [nI_1, tw, bd1_s, sg0, bd1_s, if_neg (show ¬ nI 104 = 100 by decide), if_pos (show nI 104 = 104 from rfl), s1, bd1_s, kk, bd1_s, r2, dgA, bd1_s, r3, dgB, bd1_s, vAdd_ok w (by omega) hp R, bd7_s, gd_p (Or.inr rfl)]
      · rw [if_neg (show ¬ nI 104 = 97 by decide), if_pos (show nI 104 = 104 from rfl), n2, mPl_ok w hp, bd1_s, if_neg z10]
        simp only [x7]
        rw [if_neg h, n0, n1', mAdds w (by omega), bd1_s]
  · refine ⟨0, t, np, nh, na, ns, nd, vx, vy, nc, nk, nf, nl, nse, ?_, ?_, Or.inl rfl, w, ht, R⟩
    · have ad : fX3_addHand g (nI K) (nI A) (nI B) np nh na nk nf nl nse = some (0, nh, na, nk, nf, nl, nse) := by
        unfold fX3_addHand
        rw [if_neg (nI_pos (show B < 2 ^ 31 by omega)), if_neg (show ¬ nI B < np by rw [R.1]; exact nI_nlt (by omega) (by omega))]
        split <;> rfl
      rw [nI_1, tw, bd1_s, sg0, bd1_s, if_neg (show ¬ nI 104 = 100 by decide), if_pos (show nI 104 = 104 from rfl), s1, bd1_s, kk, bd1_s, r2, dgA, bd1_s, r3, dgB, bd1_s, ad, bd7_s, gd_p (Or.inl rfl)]
    · rw [if_neg (show ¬ nI 104 = 97 by decide), if_pos (show nI 104 = 104 from rfl), n2, mPl_bad w (Or.inr (nI_le (by omega) (by omega))), bd1_s, if_pos z00]
theorem obAll (T : TX L sg x) (w : WF t) (hg : big g) (ht : t 2 ≤ 999) (R : RV t np nh na ns nd nc nk nf nl nse) {r : Nat} (hs : (stm x L r).1 = true) {nm : Nat → Int32} (N : NUM x r nm) (vx vy : Int32) : ∃ b t' o1 o2 o3 o4 o5 o6 o7 o8 o9 o10 o11 o12, fX4_obey g (nI r) np nh na ns nd vx vy nc nk nf nl nse (nI L) sg = some (b, o1, o2, o3, o4, o5, o6, o7, o8, o9, o10, o11, o12) ∧ fX5_isDone g (nI (x r)) (rw1 t) nm = some (b, rw1 t') ∧ (b = 0 ∨ b = 1) ∧ WF t' ∧ t' 2 ≤ 999 ∧ RV t' o1 o2 o3 o4 o5 o8 o9 o10 o11 o12 := by
  rcases bo_cs (stm_ok hs).2.1 with e | e | e | e | e | e | e
  · rw [e]; exact obA T w hg ht R e hs N vx vy
  · rw [e]; exact obD T w hg ht R e hs N vx vy
  · rw [e]; exact obH T w hg ht R e hs N vx vy
  · rw [e]; exact obL T w hg ht R e hs N vx vy
  · rw [e]; exact obM T w hg ht R e hs N vx vy
  · rw [e]; exact obP T w hg ht R e hs N vx vy
  · rw [e]; exact obS T w hg ht R e hs N vx vy
theorem fau : ∀ q, q < 100 → ¬ (-1000 : Int32) - nI q = -9 ∧ ¬ (-2000 : Int32) - nI q = -9 := by decide +kernel
theorem mScan (T : TX L sg x) (hg : big g) : ∀ (d r cnt n : Nat) (nm : Nat → Int32), r < L → L ≤ r + d → L < r + n → (∀ q, (prs x L d r).2 = some q → ∃ v nm', fX5_sea_L10 g (nI L) sg n (nI cnt) (-9) (nI r) nm = some (v, -1000 - nI q, nI q, nm') ∧ q ≤ L) ∧ ((prs x L d r).2 = none → ∃ nm', fX5_sea_L10 g (nI L) sg n (nI cnt) (-9) (nI r) nm = some (nI (cnt + (prs x L d r).1), -9, nI L, nm')) := by
  have hL := T.1
  intro d
  induction d with
  | zero => intro r cnt n nm h1 h2 h3; omega
  | succ d ih =>
    intro r cnt n nm h1 h2 h3
    obtain ⟨n, rfl⟩ : ∃ m, n = m + 1 := ⟨n - 1, by omega⟩
    obtain ⟨nm', a1, -⟩ := mStm (g := g) T hg (r := r) (by omega) nm
    obtain ⟨g1, g2⟩ := stm_ge (x := x) (show r ≤ L by omega)
    have s1 : fX5_sea_L10 g (nI L) sg (n + 1) (nI cnt) (-9) (nI r) nm = fX5_sea_L10_b g (nI L) sg (fX5_sea_L10 g (nI L) sg n) (nI cnt) (-9) (nI r) nm := rfl
    rw [s1]
    unfold fX5_sea_L10_b prs
    rw [a1, bd3_s, if_pos h1, nI_1]
    by_cases ok : (stm x L r).1 = true
    · obtain ⟨-, -, k3, k4, -, -⟩ := stm_ok ok
      rw [if_pos ok, if_pos ok, if_neg z10, if_pos (show (-9 : Int32) = -9 from rfl)]
      by_cases e : (stm x L r).2 < L
      · rw [if_pos (nI_lt e (by omega))]
        obtain ⟨i1, i2⟩ := ih (stm x L r).2 (cnt + 1) n nm' e (by omega) (by omega)
        refine ⟨i1, fun hq => ?_⟩
        obtain ⟨nm2, j⟩ := i2 hq
        refine ⟨nm2, ?_⟩
        rw [j, show cnt + 1 + (prs x L d (stm x L r).2).1 = cnt + ((prs x L d (stm x L r).2).1 + 1) by omega]
      · have eL : (stm x L r).2 = L := by omega
        have ep : prs x L d L = (0, none) := by
          cases d with
          | zero => rfl
          | succ d => exact if_neg (by omega)
        rw [if_neg (nI_nlt (by omega) (by omega)), eL, ep]
        exact ⟨fun q hq => (by cases hq), fun _ => ⟨nm', rfl⟩⟩
    · rw [if_neg ok, if_neg ok, if_pos z00, if_neg (fau _ (by omega)).1]
      exact ⟨fun q hq => by cases hq; exact ⟨_, nm', rfl, g2⟩, fun hq => (by cases hq)⟩
theorem sea_L (T : TX L sg x) (hg : big g) {t0 : Nat → Nat} (hz0 : z45 t0) (m1 m2 m3 m4 m5 : Int32) (m6 m7 m8 m9 m10 : Nat → Int32) : ∀ (d r cnt n n' : Nat) (t : Nat → Nat) (np nh na ns nd vx vy : Int32) (nc nk nf nl nse nm : Nat → Int32), r ≤ L → L ≤ r + d → (prs x L d r).2 = none → 3 * cnt ≤ r → L < r + n → L + 1 < r + n' → WF t → t 2 ≤ 999 → RV t np nh na ns nd nc nk nf nl nse → (∃ t' nm' o1 o2 o3 o4 o5 o6 o7 o8 o9 o10 o11 o12, fX4_carryOutText_L8 g m1 m2 m3 m4 m5 m6 m7 m8 m9 m10 (nI L) sg n (nI r) (nI cnt) np nh na ns nd vx vy nc nk nf nl nse = some (.inl (nI (cnt + (prs x L d r).1), o1, o2, o3, o4, o5, o6, o7, o8, o9, o10, o11, o12)) ∧ fX5_sea_L62 g (nI L) (rw1 t0) sg n' (-9) (nI r) (rw1 t) nm = some (-9, nI L, rw1 t', nm') ∧ WF t' ∧ t' 2 ≤ 999 ∧ RV t' o1 o2 o3 o4 o5 o8 o9 o10 o11 o12) ∨ (∃ v rd nm' o1 o2 o3 o4 o5 o6 o7 o8 o9 o10 o11 o12, fX4_carryOutText_L8 g m1 m2 m3 m4 m5 m6 m7 m8 m9 m10 (nI L) sg n (nI r) (nI cnt) np nh na ns nd vx vy nc nk nf nl nse = some (.inr (v, m1, m2, m3, m4, m5, m6, m7, m8, m9, m10, o1, o2, o3, o4, o5, o6, o7, o8, o9, o10, o11, o12)) ∧ fX5_sea_L62 g (nI L) (rw1 t0) sg n' (-9) (nI r) (rw1 t) nm = some (v, rd, rw1 t0, nm') ∧ ¬ v = -9) := by
  have hL := T.1
  have stop : ∀ (r cnt n n' : Nat) (t : Nat → Nat) (np nh na ns nd vx vy : Int32) (nc nk nf nl nse nm : Nat → Int32), r = L → 0 < n → 0 < n' → fX4_carryOutText_L8 g m1 m2 m3 m4 m5 m6 m7 m8 m9 m10 (nI L) sg n (nI r) (nI cnt) np nh na ns nd vx vy nc nk nf nl nse = some (.inl (nI cnt, np, nh, na, ns, nd, vx, vy, nc, nk, nf, nl, nse)) ∧ fX5_sea_L62 g (nI L) (rw1 t0) sg n' (-9) (nI r) (rw1 t) nm = some (-9, nI L, rw1 t, nm) := by
    intro r cnt n n' t np nh na ns nd vx vy nc nk nf nl nse nm h1 h2 h3
    obtain ⟨n, rfl⟩ : ∃ m, n = m + 1 := ⟨n - 1, by omega⟩
    obtain ⟨n', rfl⟩ : ∃ m, n' = m + 1 := ⟨n' - 1, by omega⟩
    subst h1
    refine ⟨?_, ?_⟩
    · show fX4_carryOutText_L8_b g m1 m2 m3 m4 m5 m6 m7 m8 m9 m10 (nI r) sg (fX4_carryOutText_L8 g m1 m2 m3 m4 m5 m6 m7 m8 m9 m10 (nI r) sg n) (nI r) (nI cnt) np nh na ns nd vx vy nc nk nf nl nse = _
      unfold fX4_carryOutText_L8_b
      rw [if_pos (nI_le (Nat.le_refl _) (by omega))]
    · show fX5_sea_L62_b g (nI r) (rw1 t0) sg (fX5_sea_L62 g (nI r) (rw1 t0) sg n') (-9) (nI r) (rw1 t) nm = _
      unfold fX5_sea_L62_b
      rw [if_pos rfl, if_pos (nI_le (Nat.le_refl _) (by omega))]
  intro d
  induction d with
  | zero =>
    intro r cnt n n' t np nh na ns nd vx vy nc nk nf nl nse nm h1 h2 h3 h4 h5 h6 w ht R
    obtain ⟨a, b⟩ := stop r cnt n n' t np nh na ns nd vx vy nc nk nf nl nse nm (by omega) (by omega) (by omega)
    exact Or.inl ⟨t, nm, np, nh, na, ns, nd, vx, vy, nc, nk, nf, nl, nse, a, b, w, ht, R⟩
  | succ d ih =>
    intro r cnt n n' t np nh na ns nd vx vy nc nk nf nl nse nm h1 h2 h3 h4 h5 h6 w ht R
    by_cases e : r < L
    · have hp : prs x L (d + 1) r = (if (stm x L r).1 = true then ((prs x L d (stm x L r).2).1 + 1, (prs x L d (stm x L r).2).2) else (0, some (stm x L r).2)) := if_pos e
      rw [hp] at h3 ⊢
      by_cases ok : (stm x L r).1 = true
      · rw [if_pos ok] at h3 ⊢
        obtain ⟨-, k2, k3, k4, -, -⟩ := stm_ok ok
        obtain ⟨n, rfl⟩ : ∃ m, n = m + 1 := ⟨n - 1, by omega⟩
        obtain ⟨n', rfl⟩ : ∃ m, n' = m + 1 := ⟨n' - 1, by omega⟩
        obtain ⟨nm1, a1, a2⟩ := mStm (g := g) T hg (r := r) (by omega) nm
        rw [if_pos ok] at a1
        obtain ⟨b, t1, p1, p2, p3, p4, p5, p6, p7, p8, p9, p10, p11, p12, b1, b2, b3, b4, b5, b6⟩ := obAll (g := g) T w hg ht R ok (a2 ok) vx vy
        have eh : hrI x L r = nI (x r) := if_pos e
        have c1 : fX4_carryOutText_L8 g m1 m2 m3 m4 m5 m6 m7 m8 m9 m10 (nI L) sg (n + 1) (nI r) (nI cnt) np nh na ns nd vx vy nc nk nf nl nse = fX4_carryOutText_L8_b g m1 m2 m3 m4 m5 m6 m7 m8 m9 m10 (nI L) sg (fX4_carryOutText_L8 g m1 m2 m3 m4 m5 m6 m7 m8 m9 m10 (nI L) sg n) (nI r) (nI cnt) np nh na ns nd vx vy nc nk nf nl nse := rfl
        have c2 : fX5_sea_L62 g (nI L) (rw1 t0) sg (n' + 1) (-9) (nI r) (rw1 t) nm = fX5_sea_L62_b g (nI L) (rw1 t0) sg (fX5_sea_L62 g (nI L) (rw1 t0) sg n') (-9) (nI r) (rw1 t) nm := rfl
        rw [c1, c2]
        unfold fX4_carryOutText_L8_b fX5_sea_L62_b
        rw [if_neg (nI_ge e (by omega)), if_neg (show ¬ (96 : Int32) ≤ nI cnt from nI_ge (b := 96) (by omega) (by omega)), b1, bd13_s, if_pos rfl, if_neg (nI_ge e (by omega)), mHere T (by omega), bd1_s, a1, bd3_s, eh, b2, bd2_s]
        rcases b3 with rfl | rfl
        · rw [if_pos z00, if_pos z00, mCopies hg hz0 b4.z, bd1_s]
          refine Or.inr ⟨-2000 - nI r, nI (stm x L r).2, nm1, p1, p2, p3, p4, p5, p6, p7, p8, p9, p10, p11, p12, rfl, ?_, (fau r (by omega)).2⟩
          obtain ⟨n', rfl⟩ : ∃ m, n' = m + 1 := ⟨n' - 1, by omega⟩
          have c3 : ∀ vv rd ww nn, fX5_sea_L62 g (nI L) (rw1 t0) sg (n' + 1) vv rd ww nn = fX5_sea_L62_b g (nI L) (rw1 t0) sg (fX5_sea_L62 g (nI L) (rw1 t0) sg n') vv rd ww nn := fun _ _ _ _ => rfl
          rw [c3]
          unfold fX5_sea_L62_b
          rw [if_neg (fau r (by omega)).2]
        · have le : fX2_lengthOfStatement g (nI r) (nI L) sg = some (nI (bo (x r)) + 2) := by
            unfold fX2_lengthOfStatement
            rw [cSign T (by omega), if_pos e, bd1_s, cBody g (T.2 r e).1, bd1_s]
          have ea : nI r + (nI (bo (x r)) + 2) = nI (stm x L r).2 := by
            rw [k3, show (2 : Int32) = nI 2 from rfl, nI_add, nI_add, show r + (bo (x r) + 2) = r + 2 + bo (x r) by omega]
          rw [if_neg z10, if_neg z10, le, bd1_s, ea, nI_1]
          have := ih (stm x L r).2 (cnt + 1) n n' t1 p1 p2 p3 p4 p5 p6 p7 p8 p9 p10 p11 p12 nm1 (by omega) (by omega) h3 (by omega) (by omega) (by omega) b4 b5 b6
          rw [show cnt + 1 + (prs x L d (stm x L r).2).1 = cnt + ((prs x L d (stm x L r).2).1 + 1) by omega] at this
          exact this
      · rw [if_neg ok] at h3
        cases h3
    · have hp : prs x L (d + 1) r = (0, none) := if_neg e
      rw [hp]
      obtain ⟨a, b⟩ := stop r cnt n n' t np nh na ns nd vx vy nc nk nf nl nse nm (by omega) (by omega) (by omega)
      exact Or.inl ⟨t, nm, np, nh, na, ns, nd, vx, vy, nc, nk, nf, nl, nse, a, b, w, ht, R⟩
theorem oSea (w : WF t) (hg : big g) (ht : t 2 ≤ 999) (R : RV t np nh na ns nd nc nk nf nl nse) {L : Nat} {sg : Nat → Int32} (T : TXT L sg) (n3 : Nat → Int32) (tp th ta ts td tx ty : Int32) (tc tk tf tl te : Nat → Int32) {u : Nat → Nat} (hu : z45 u) : ∃ r t' u' rd' n3' m1 m2 m3 m4 m5 m6 m7 m8 m9 m10 o1 o2 o3 o4 o5 o6 o7 o8 o9 o10 o11 o12, fX4_sea g np nh na ns nd nc nk nf nl nse tp th ta ts td tx ty tc tk tf tl te (nI L) sg = some (r, m1, m2, m3, m4, m5, m6, m7, m8, m9, m10, o1, o2, o3, o4, o5, o6, o7, o8, o9, o10, o11, o12, 0) ∧ fX5_sea g (nI L) (rw1 t) (rw1 u) sg n3 = some (r, 0, rd', rw1 t', rw1 u', n3') ∧ WF t' ∧ t' 2 ≤ 999 ∧ RV t' m1 m2 m3 m4 m5 m6 m7 m8 m9 m10 ∧ z45 u' ∧ TXT 0 sg := by
  have hg' : 100000000000000000000 ≤ g := hg
  obtain ⟨x, X⟩ := T.tx
  have hL := X.1
  obtain ⟨v1, v2⟩ := vMisfit (g := g) X hg
  have T0 : TXT 0 sg := ⟨by omega, fun k hk => by omega⟩
  have skip : ∀ (v : Int32) (nm : Nat → Int32), ¬ v = -9 → fX5_sea_L62 g (nI L) (rw1 t) sg g v 0 (rw1 t) nm = some (v, 0, rw1 t, nm) := by
    intro v nm hv
    obtain ⟨g', hgg⟩ : ∃ m, g = m + 1 := ⟨g - 1, by omega⟩
    have s2 : fX5_sea_L62 g (nI L) (rw1 t) sg g v 0 (rw1 t) nm = fX5_sea_L62 g (nI L) (rw1 t) sg (g' + 1) v 0 (rw1 t) nm := by rw [← hgg]
    rw [s2]
    show fX5_sea_L62_b g (nI L) (rw1 t) sg _ v 0 (rw1 t) nm = _
    unfold fX5_sea_L62_b
    rw [if_neg hv]
  unfold fX4_sea fX5_sea
  by_cases e0 : L = 0
  · subst e0
    have m0 : fX2_firstMisfit g (nI 0) sg = some 0 := (v2 rfl).trans (by rw [if_pos rfl])
    obtain ⟨nm', a1, -⟩ := mStm (g := g) X hg (r := 0) (Nat.le_refl _) n3
    have es : stm x 0 0 = (false, 0) := if_neg (fun z => by omega)
    rw [es] at a1
    have l10 : fX5_sea_L10 g (nI 0) sg g 0 (-9) 0 n3 = some (1, -1000, 0, nm') := by
      obtain ⟨g', hgg⟩ : ∃ m, g = m + 1 := ⟨g - 1, by omega⟩
      have s2 : fX5_sea_L10 g (nI 0) sg g 0 (-9) 0 n3 = fX5_sea_L10 g (nI 0) sg (g' + 1) 0 (-9) 0 n3 := by rw [← hgg]
      rw [s2]
      show fX5_sea_L10_b g (nI 0) sg (fX5_sea_L10 g (nI 0) sg g') 0 (-9) (nI 0) n3 = _
      unfold fX5_sea_L10_b
      rw [a1, bd3_s, if_neg (show ¬ false = true by decide), if_pos z00]
      rfl
    refine ⟨-1000, t, t, 0, nm', np, nh, na, ns, nd, nc, nk, nf, nl, nse, tp, th, ta, ts, td, tx, ty, tc, tk, tf, tl, te, ?_, ?_, w, ht, R, w.z, T0⟩
    · rw [m0, bd1_s, if_neg (show ¬ (0 : Int32) = -9 by decide)]
      rfl
    · rw [l10, bd4_s, mCopies hg w.z hu, bd1_s, skip _ _ (by decide), bd4_s, if_neg (show ¬ (-1000 : Int32) = -9 by decide)]
  · obtain ⟨s1, s2⟩ := mScan (g := g) X hg L 0 0 g n3 (by omega) (by omega) (by omega)
    cases hq : (prs x L L 0).2 with
    | some q =>
      obtain ⟨v, nm', a1, a2⟩ := s1 q hq
      have a1 : fX5_sea_L10 g (nI L) sg g 0 (-9) 0 n3 = some (v, -1000 - nI q, nI q, nm') := a1
      have f1 := (fau q (by omega)).1
      refine ⟨-1000 - nI q, t, t, 0, nm', np, nh, na, ns, nd, nc, nk, nf, nl, nse, tp, th, ta, ts, td, tx, ty, tc, tk, tf, tl, te, ?_, ?_, w, ht, R, w.z, T0⟩
      · rw [v1 q hq, bd1_s, if_neg (n9 (by omega))]
      · rw [a1, bd4_s, mCopies hg w.z hu, bd1_s, skip _ _ f1, bd4_s, if_neg f1]
    | none =>
      obtain ⟨nm', a1⟩ := s2 hq
      have a1 : fX5_sea_L10 g (nI L) sg g 0 (-9) 0 n3 = some (nI (0 + (prs x L L 0).1), -9, nI L, nm') := a1
      have m0 : fX2_firstMisfit g (nI L) sg = some (-9) := (v2 hq).trans (by rw [if_neg e0])
      obtain ⟨c, k, f, l, se, t1, R1⟩ := vThink (g := g) w R tc tk tf tl te
      rw [m0, bd1_s, if_pos rfl]
      unfold fX4_carryOutText
      rw [t1, bd10_s, a1, bd4_s, mCopies hg w.z hu, bd1_s]
      rcases sea_L (g := g) X hg w.z np nh na ns nd nc nk nf nl nse L 0 0 g g t np nh na ns nd tx ty c k f l se nm' (by omega) (by omega) hq (by omega) (by omega) (by omega) w ht R1 with ⟨t', nm2, o1, o2, o3, o4, o5, o6, o7, o8, o9, o10, o11, o12, b1, b2, b3, b4, b5⟩ | ⟨v, rd, nm2, o1, o2, o3, o4, o5, o6, o7, o8, o9, o10, o11, o12, b1, b2, b3⟩
      · have b1 : fX4_carryOutText_L8 g np nh na ns nd nc nk nf nl nse (nI L) sg g 0 0 np nh na ns nd tx ty c k f l se = some (.inl (nI (0 + (prs x L L 0).1), o1, o2, o3, o4, o5, o6, o7, o8, o9, o10, o11, o12)) := b1
        have b2 : fX5_sea_L62 g (nI L) (rw1 t) sg g (-9) 0 (rw1 t) nm' = some (-9, nI L, rw1 t', nm2) := b2
        rw [b1, b2]
        refine ⟨nI (0 + (prs x L L 0).1), t', t, nI L, nm2, o1, o2, o3, o4, o5, va_cpy o8 nc 0 0 6, va_cpy o9 nk 0 0 7, va_cpy o10 nf 0 0 7, va_cpy o11 nl 0 0 7, va_cpy o12 nse 0 0 7, o1, o2, o3, o4, o5, o6, o7, o8, o9, o10, o11, o12, ?_, ?_, b3, b4, b5.cpy b3 nc nk nf nl nse, w.z, T0⟩
        · unfold fX3_becomeLike
          rfl
        · rw [bd4_s, if_pos rfl]
      · have b1 : fX4_carryOutText_L8 g np nh na ns nd nc nk nf nl nse (nI L) sg g 0 0 np nh na ns nd tx ty c k f l se = some (.inr (v, np, nh, na, ns, nd, nc, nk, nf, nl, nse, o1, o2, o3, o4, o5, o6, o7, o8, o9, o10, o11, o12)) := b1
        have b2 : fX5_sea_L62 g (nI L) (rw1 t) sg g (-9) 0 (rw1 t) nm' = some (v, rd, rw1 t, nm2) := b2
        rw [b1, b2]
        refine ⟨v, t, t, rd, nm2, np, nh, na, ns, nd, nc, nk, nf, nl, nse, o1, o2, o3, o4, o5, o6, o7, o8, o9, o10, o11, o12, rfl, ?_, w, ht, R, w.z, T0⟩
        rw [bd4_s, if_neg b3]
end PSO
