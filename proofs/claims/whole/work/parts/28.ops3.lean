/-! ===== pure level: the calls, class beside model (3): in mind; laid by mkops3.py ===== -/
def z45 (u : Nat → Nat) : Prop := ∀ k, 45 ≤ k → u k = 0
theorem WF.z {t : Nat → Nat} (w : WF t) : z45 t := w.2.2.2.2.2
def TXT (L : Nat) (sg : Nat → Int32) : Prop := L ≤ 96 ∧ ∀ k, k < L → ∃ c, c < 256 ∧ sg k = nI c
section PC3
variable {g : Nat} {t : Nat → Nat} {np nh na ns nd : Int32} {nc nk nf nl nse : Nat → Int32}
theorem mTakes (w : WF t) (hg : big g) {u : Nat → Nat} (hu : z45 u) {N : Nat} (hN : N < 1000) : fX5_takes g (nI N) (rw1 t) (rw1 u) = some (rw1 (daysT N t)) := by
  unfold fX5_takes
  rw [mCopies hg w.z hu, bd1_s, mDays w hg (by omega), bd1_s]
theorem WF.daysT (w : WF t) (N : Nat) : WF (daysT N t) := WF.days N 0 t w
theorem oLetter {L : Nat} {sg rf : Nat → Int32} (T : TXT L sg) (p0 : Int32) : ∃ r L' sg' rf', fX4_letter g p0 (nI L) sg rf = some (r, nI L', sg', rf') ∧ fX5_letter g p0 (nI L) sg rf = some (r, nI L', sg', rf') ∧ TXT L' sg' := by
  have hL := T.1
  unfold fX4_letter fX5_letter
  rw [cOut, bd1_s]
  rcases ou_or p0 (a := 0) (b := 255) (by omega) (by omega) with h | ⟨v, -, hv, rfl, h0⟩
  · have h : okc (ouF p0 0 255) := h
    refine ⟨ouF p0 0 255, L, sg, rfz (ouF p0 0 255) rf, ?_, ?_, T⟩
    · rw [cFirst, bd1_s, cFirst, bd1_s, fo_n h, fo_n h, if_neg (okc_n h), rZ4 h, bd2_s]
      split <;> rfl
    · by_cases h1 : 0 ≤ p0
      · have e : ouF p0 0 255 = avF p0 255 := by unfold ouF beF; rw [if_pos h1, fo_0]
        have h2 : ¬ p0 ≤ 255 := fun h2 => okc_n h (by rw [e]; unfold avF; rw [if_pos h2])
        have e6 : ouF p0 0 255 = -6 := by rw [e]; unfold avF; rw [if_neg h2]
        rw [e6, if_pos h1, if_pos (Int32.not_le.mp h2), rZ5 ok6, bd2_s]
      · have e4 : ouF p0 0 255 = -4 := by unfold ouF beF; rw [if_neg h1, fo_n ok4]
        rw [e4, if_neg h1, rZ5 ok4, bd2_s]
  · have h0 : ouF (nI v) 0 255 = 0 := h0
    have hp : (0 : Int32) ≤ nI v := nI_pos' (by omega)
    have hq : ¬ 255 < nI v := nI_nlt (a := 255) hv (by omega)
    by_cases e : L = 96
    · subst e
      refine ⟨-6, 96, sg, rfz (-6) rf, ?_, ?_, T⟩
      · rw [if_pos (show (96 : Int32) ≤ nI 96 by decide), cFirst, bd1_s, h0, fo_0, if_neg zm6, rZ4 ok6, bd2_s]
      · rw [if_pos hp, if_neg hq, if_pos (show nI 96 = 96 from rfl), rZ5 ok6, bd2_s]
    · refine ⟨nI (L + 1), L + 1, upd sg L (nI v), rf, ?_, ?_, by omega, fun k hk => ?_⟩
      · rw [if_neg (show ¬ (96 : Int32) ≤ nI L from nI_ge (b := 96) (by omega) (by omega)), cFirst, bd1_s, h0, fo_0, if_pos z00]
        unfold fX2_take
        rw [if_neg (show ¬ (96 : Int32) ≤ nI L from nI_ge (b := 96) (by omega) (by omega)), gdn (by omega) (by decide), bd2_s, nI_1, nI_clamp (by omega)]
      · rw [if_pos hp, if_neg hq, if_neg (show ¬ nI L = 96 from fun h => e ((nI_eq (b := 96) (by omega) (by omega)).mp h)), gdn (by omega) (by decide), nI_1, nI_clamp (by omega)]
      · unfold upd
        by_cases e2 : k = L
        · rw [if_pos e2]; exact ⟨v, by omega, rfl⟩
        · rw [if_neg e2]; exact T.2 k (by omega)
theorem oRow {K : Nat} (hK : K ≤ 16) {nu rf : Nat → Int32} (p0 : Int32) : ∃ r K' nu' rf', fX4_row g p0 (nI K) nu rf = some (r, nI K', nu', rf') ∧ fX5_row g p0 (nI K) nu rf = some (r, nI K', nu', rf') ∧ K' ≤ 16 := by
  unfold fX4_row fX5_row
  rw [cOut, bd1_s, mWrong, bd1_s]
  rcases ou_or p0 (a := 0) (b := 99) (by omega) (by omega) with h | ⟨v, -, hv, rfl, h0⟩
  · have h : okc (ouF p0 0 99) := h
    refine ⟨ouF p0 0 99, K, nu, rfz (ouF p0 0 99) rf, ?_, ?_, hK⟩
    · rw [cFirst, bd1_s, cFirst, bd1_s, fo_n h, fo_n h, if_neg (okc_n h), rZ4 h, bd2_s]
      split <;> rfl
    · rw [if_neg (okc_n h), if_neg (okc_n h), rZ5 h, bd2_s]
  · have h0 : ouF (nI v) 0 99 = 0 := h0
    rw [h0]
    by_cases e : K = 16
    · subst e
      refine ⟨-6, 16, nu, rfz (-6) rf, ?_, ?_, hK⟩
      · rw [if_pos (show (16 : Int32) ≤ nI 16 by decide), cFirst, bd1_s, fo_0, if_neg zm6, rZ4 ok6, bd2_s]
      · rw [if_pos z00, if_pos (show nI 16 = 16 from rfl), if_neg zm6, rZ5 ok6, bd2_s]
    · refine ⟨nI (K + 1), K + 1, upd nu K (nI v), rf, ?_, ?_, by omega⟩
      · rw [if_neg (show ¬ (16 : Int32) ≤ nI K from nI_ge (b := 16) (by omega) (by omega)), cFirst, bd1_s, fo_0, if_pos z00, gdn (by omega) (by decide), nI_1, nI_clamp (by omega)]
      · rw [if_pos z00, if_neg (show ¬ nI K = 16 from fun h => e ((nI_eq (b := 16) (by omega) (by omega)).mp h)), if_pos z00, gdn (by omega) (by decide), nI_1, nI_clamp (by omega)]
theorem oImage (w : WF t) (hg : big g) (R : RV t np nh na ns nd nc nk nf nl nse) (kc kk kf kl ke : Nat → Int32) {u : Nat → Nat} (hu : z45 u) : ∃ r c k f l se, fX4_image g np nh na ns nd nc nk nf nl nse kc kk kf kl ke = some (r, 1, np, nh, na, ns, nd, c, k, f, l, se) ∧ fX5_image g (rw1 t) (rw1 u) = some (r, 1, rw1 t) ∧ RV t np nh na ns nd c k f l se := by
  refine ⟨nd, _, _, _, _, _, ?_, ?_, R.cpy w kc kk kf kl ke⟩
  · unfold fX4_image fX3_becomeLike
    rw [bd10_s]
  · unfold fX5_image
    rw [mCopies hg w.z hu, bd1_s, R.2.2.2.2.1]
theorem oOn (hg : big g) {hi : Int32} {u : Nat → Nat} {kp kh ka ks kd : Int32} {kc kk kf kl ke : Nat → Int32} (w : WF t) (h01 : hi = 0 ∨ hi = 1) (hu : hi = 1 → WF u ∧ RV u kp kh ka ks kd kc kk kf kl ke) (R : RV t np nh na ns nd nc nk nf nl nse) (rf : Nat → Int32) : ∃ r t' rf' o1 o2 o3 o4 o5 o6 o7 o8 o9 o10, fX4_on g hi np nh na ns nd nc nk nf nl nse kp kh ka ks kd kc kk kf kl ke rf = some (r, o1, o2, o3, o4, o5, o6, o7, o8, o9, o10, rf') ∧ fX5_on g hi (rw1 t) (rw1 u) rf = some (r, rw1 t', rf') ∧ WF t' ∧ (t' = t ∨ (hi = 1 ∧ t' = u)) ∧ RV t' o1 o2 o3 o4 o5 o6 o7 o8 o9 o10 := by
  unfold fX4_on fX5_on fX3_becomeLike
  rcases h01 with rfl | rfl
  · refine ⟨-3, t, rfz (-3) rf, np, nh, na, ns, nd, nc, nk, nf, nl, nse, ?_, ?_, w, Or.inl rfl, R⟩
    · rw [if_pos z00, rZ4 ok3, bd2_s]
    · rw [if_pos z00, rZ5 ok3, bd2_s]
  · obtain ⟨wu, Ru⟩ := hu rfl
    refine ⟨kd, u, rf, kp, kh, ka, ks, kd, _, _, _, _, _, ?_, ?_, wu, Or.inr ⟨rfl, rfl⟩, Ru.cpy wu nc nk nf nl nse⟩
    · rw [if_neg z10, bd10_s]
    · rw [if_neg z10, mCopies hg wu.z w.z, bd1_s, Ru.2.2.2.2.1]

theorem days_ne : ∀ (d k : Nat) (t : Nat → Nat) {j : Nat}, j ≠ 2 → j ≠ 3 → (j < 13 ∨ (j - 13) % 5 ≠ 0) → it (fun _ => dyT) d k t j = t j
  | 0, _, _, _, _, _, _ => rfl
  | d + 1, k, t, j, h2, h3, h => by
    show it (fun _ => dyT) d (k + 1) (dyT t) j = _
    rw [days_ne d (k + 1) (dyT t) h2 h3 h, dyT_ne h2 h3 h]
theorem mComesTo (w : WF t) (hg : big g) {u : Nat → Nat} (hu : z45 u) {j : Nat} (hj : j < t 0) : ∃ v, fX5_comesTo g (nI j) (rw1 t) (rw1 u) = some (cmT (t (4 + j)) 60 t, rw1 v) ∧ z45 v := by
  have h6 := w.1
  have h4 := w.2.2.2.1 j hj
  obtain ⟨v, h1, h2⟩ := mComes (g := g) hg w (c := t (4 + j)) (W := 60) (by omega) (by omega)
  refine ⟨v, ?_, h2.z⟩
  unfold fX5_comesTo
  rw [mCopies hg w.z hu, bd1_s, show (4 : Int32) + nI j = nI (4 + j) from nI_add 4 j, gdn (by omega) (by decide), nI_clamp (by omega)]
  show bd2 (fX5_comesIn g (nI (t (4 + j))) (nI 60) (rw1 t)) _ = _
  rw [h1, bd2_s]
theorem oShipThen (w : WF t) (hg : big g) (R : RV t np nh na ns nd nc nk nf nl nse) (rf : Nat → Int32) (p0 : Int32) (tp th ta ts td tx ty : Int32) (tc tk tf tl te : Nat → Int32) {u : Nat → Nat} (hu : z45 u) : ∃ r u' rf' o1 o2 o3 o4 o5 o6 o7 o8 o9 o10 o11 o12, fX4_shipThen g p0 np nh na ns nd nc nk nf nl nse tp th ta ts td tx ty tc tk tf tl te rf = some (r, o1, o2, o3, o4, o5, o6, o7, o8, o9, o10, o11, o12, rf') ∧ fX5_shipThen g p0 (rw1 t) (rw1 u) rf = some (r, rw1 u', rf') ∧ z45 u' := by
  unfold fX4_shipThen fX5_shipThen
  rw [cOut, bd1_s, mWrong, bd1_s]
  rcases ou_or p0 (a := 0) (b := 60) (by omega) (by omega) with h | ⟨n, -, hn, rfl, h0⟩
  · have h : okc (ouF p0 0 60) := h
    refine ⟨ouF p0 0 60, u, rfz (ouF p0 0 60) rf, tp, th, ta, ts, td, tx, ty, tc, tk, tf, tl, te, ?_, ?_, hu⟩
    · rw [if_neg (okc_n h), rZ4 h, bd2_s]
    · rw [if_neg (okc_n h), rZ5 h, bd2_s]
  · have h0 : ouF (nI n) 0 60 = 0 := h0
    obtain ⟨c, k, f, l, se0, h1, R1⟩ := vThink (g := g) w R tc tk tf tl te
    obtain ⟨x', y', se, h2, R2⟩ := vDays (g := g) hg w R1 (N := n) (by omega) tx ty
    refine ⟨nI (daysT n t 3), daysT n t, rf, np, nh, na, nI (daysT n t 3), nI (daysT n t 2), x', y', c, k, f, l, se, ?_, ?_, (w.daysT n).z⟩
    · rw [h0, if_pos z00, h1, bd10_s, h2, bd6_s]
    · rw [h0, if_pos z00, mTakes w hg hu (by omega), bd1_s]
theorem oNeedleThen (w : WF t) (hg : big g) (R : RV t np nh na ns nd nc nk nf nl nse) (rf : Nat → Int32) (p0 : Int32) (tp th ta ts td tx ty : Int32) (tc tk tf tl te : Nat → Int32) {u : Nat → Nat} (hu : z45 u) : ∃ r u' rf' o1 o2 o3 o4 o5 o6 o7 o8 o9 o10 o11 o12, fX4_needleThen g p0 np nh na ns nd nc nk nf nl nse tp th ta ts td tx ty tc tk tf tl te rf = some (r, o1, o2, o3, o4, o5, o6, o7, o8, o9, o10, o11, o12, rf') ∧ fX5_needleThen g p0 (rw1 t) (rw1 u) rf = some (r, rw1 u', rf') ∧ z45 u' := by
  unfold fX4_needleThen fX5_needleThen
  rw [cOut, bd1_s, mWrong, bd1_s]
  rcases ou_or p0 (a := 0) (b := 60) (by omega) (by omega) with h | ⟨n, -, hn, rfl, h0⟩
  · have h : okc (ouF p0 0 60) := h
    refine ⟨ouF p0 0 60, u, rfz (ouF p0 0 60) rf, tp, th, ta, ts, td, tx, ty, tc, tk, tf, tl, te, ?_, ?_, hu⟩
    · rw [if_neg (okc_n h), rZ4 h, bd2_s]
    · rw [if_neg (okc_n h), rZ5 h, bd2_s]
  · have h0 : ouF (nI n) 0 60 = 0 := h0
    obtain ⟨c, k, f, l, se0, h1, R1⟩ := vThink (g := g) w R tc tk tf tl te
    obtain ⟨x', y', se, h2, R2⟩ := vDays (g := g) hg w R1 (N := n) (by omega) tx ty
    refine ⟨ndT (daysT n t) (-9), daysT n t, rf, np, nh, na, nI (daysT n t 3), nI (daysT n t 2), plT (daysT n t) 0 (-9), plT (daysT n t) 1 (-9), c, k, f, l, se, ?_, ?_, (w.daysT n).z⟩
    · rw [h0, if_pos z00, h1, bd10_s, h2, bd6_s, vPoints (w.daysT n) hg R2, bd3_s]
    · rw [h0, if_pos z00, mTakes w hg hu (by omega), bd1_s, mNeedle (w.daysT n) hg, bd1_s]
theorem mWay_L (hg : big g) {N : Nat} (hN : N < 2 ^ 31) : ∀ (d k n : Nat) (a : Int32) (t : Nat → Nat), WF t → k + d = N → d < n → fX5_way_L34 g (nI N) n a (nI k) (rw1 t) = some ((it (fun _ => waS) d k (a, t)).1, rw1 (it (fun _ => dyT) d k t)) := by
  intro d
  induction d with
  | zero =>
    intro k n a t w hk hn
    obtain ⟨n, rfl⟩ : ∃ m, n = m + 1 := ⟨n - 1, by omega⟩
    show fX5_way_L34_b g (nI N) _ a (nI k) (rw1 t) = _
    unfold fX5_way_L34_b
    rw [if_pos (nI_le (by omega) (by omega))]
    rfl
  | succ d ih =>
    intro k n a t w hk hn
    obtain ⟨n, rfl⟩ : ∃ m, n = m + 1 := ⟨n - 1, by omega⟩
    show fX5_way_L34_b g (nI N) (fX5_way_L34 g (nI N) n) a (nI k) (rw1 t) = some ((it (fun _ => waS) d (k + 1) (waS (a, t))).1, _)
    have e3 : dyT t 3 = wyN (t 3) (ndT t (-9)) := by unfold dyT; rw [pdT_ne (by omega), updN_eq]
    have hy := wy_ok w.2.2.1 (ndT t (-9))
    have h3 := w.2.2.1
    unfold fX5_way_L34_b waS goN
    rw [if_neg (nI_ge (by omega) (by omega)), mDay w hg, bd1_s, nI_1, Int32.add_zero]
    by_cases e : wyN (t 3) (ndT t (-9)) = t 3
    · rw [if_pos (show rw1 (dyT t) 3 = rw1 t 3 by show nI (dyT t 3) = nI (t 3); rw [e3, e])]
      simp only [if_pos e, if_pos z00]
      exact ih (k + 1) n a (dyT t) w.day (by omega) (by omega)
    · rw [if_neg (show ¬ rw1 (dyT t) 3 = rw1 t 3 from fun h => e (by have := (nI_eq (by omega) (by omega)).mp h; omega))]
      simp only [if_neg e, if_neg z10]
      exact ih (k + 1) n (a + 1) (dyT t) w.day (by omega) (by omega)
theorem mWay_L' (w : WF t) (hg : big g) {N : Nat} (hN : N < 1000) : fX5_way_L34 g (nI N) g 0 0 (rw1 t) = some (waT N t, rw1 (daysT N t)) := by
  have hg' : 100000000000000000000 ≤ g := hg
  exact mWay_L (g := g) hg (N := N) (by omega) N 0 g 0 t w (by omega) (by omega)
theorem oWay (w : WF t) (hg : big g) (R : RV t np nh na ns nd nc nk nf nl nse) (rf : Nat → Int32) (p0 : Int32) (tp th ta ts td tx ty : Int32) (tc tk tf tl te : Nat → Int32) {u : Nat → Nat} (hu : z45 u) : ∃ r u' rf' o1 o2 o3 o4 o5 o6 o7 o8 o9 o10 o11 o12, fX4_way g p0 np nh na ns nd nc nk nf nl nse tp th ta ts td tx ty tc tk tf tl te rf = some (r, o1, o2, o3, o4, o5, o6, o7, o8, o9, o10, o11, o12, rf') ∧ fX5_way g p0 (rw1 t) (rw1 u) rf = some (r, rw1 u', rf') ∧ z45 u' := by
  unfold fX4_way fX5_way
  rw [cOut, bd1_s, mWrong, bd1_s]
  rcases ou_or p0 (a := 1) (b := 60) (by omega) (by omega) with h | ⟨n, -, hn, rfl, h0⟩
  · have h : okc (ouF p0 1 60) := h
    refine ⟨ouF p0 1 60, u, rfz (ouF p0 1 60) rf, tp, th, ta, ts, td, tx, ty, tc, tk, tf, tl, te, ?_, ?_, hu⟩
    · rw [if_neg (okc_n h), rZ4 h, bd2_s]
    · rw [if_neg (okc_n h), rZ5 h, bd2_s]
  · have h0 : ouF (nI n) 1 60 = 0 := h0
    obtain ⟨c, k, f, l, se0, h1, R1⟩ := vThink (g := g) w R tc tk tf tl te
    obtain ⟨x', y', se, h2, R2⟩ := vDays (g := g) hg w R1 (N := n) (by omega) tx ty
    refine ⟨waT n t, daysT n t, rf, np, nh, na, nI (daysT n t 3), nI (daysT n t 2), x', y', c, k, f, l, se, ?_, ?_, (w.daysT n).z⟩
    · rw [h0, if_pos z00, h1, bd10_s, h2, bd6_s]
    · rw [h0, if_pos z00, mCopies hg w.z hu, bd1_s, mWay_L' w hg (by omega), bd2_s]
theorem oSeaThen (w : WF t) (hg : big g) (R : RV t np nh na ns nd nc nk nf nl nse) (rf : Nat → Int32) (p0 p1 : Int32) (tp th ta ts td tx ty : Int32) (tc tk tf tl te : Nat → Int32) {u : Nat → Nat} (hu : z45 u) : ∃ r u' rf' o1 o2 o3 o4 o5 o6 o7 o8 o9 o10 o11 o12, fX4_seaThen g p0 p1 np nh na ns nd nc nk nf nl nse tp th ta ts td tx ty tc tk tf tl te rf = some (r, o1, o2, o3, o4, o5, o6, o7, o8, o9, o10, o11, o12, rf') ∧ fX5_seaThen g p0 p1 (rw1 t) (rw1 u) rf = some (r, rw1 u', rf') ∧ z45 u' := by
  have h7 := w.2.1
  unfold fX4_seaThen fX5_seaThen
  rw [cNoHand, bd1_s, cOut, bd1_s, cFirst, bd1_s]
  rcases tri_or p0 (n := t 1) (by omega) with h | ⟨j, hj, rfl⟩
  · refine ⟨-1, u, rfz (-1) rf, tp, th, ta, ts, td, tx, ty, tc, tk, tf, tl, te, ?_, ?_, hu⟩
    · rw [R.2.1, nh_bad (by omega) h, fo_n ok1, if_neg zm1, rZ4 ok1, bd2_s]
    · rw [mHd_bad w h, bd1_s, if_pos z00, if_neg zm1, rZ5 ok1, bd2_s]
  · have a1 : nhF (nI j) nh = 0 := by rw [R.2.1]; exact nh_ok hj (by omega)
    rcases ou_or p1 (a := 0) (b := 60) (by omega) (by omega) with h | ⟨n, -, hn, rfl, h0⟩
    · have h : okc (ouF p1 0 60) := h
      refine ⟨ouF p1 0 60, u, rfz (ouF p1 0 60) rf, tp, th, ta, ts, td, tx, ty, tc, tk, tf, tl, te, ?_, ?_, hu⟩
      · rw [a1, fo_0, if_neg (okc_n h), rZ4 h, bd2_s]
      · rw [mHd_ok w hj, bd1_s, if_neg z10, mWrong, bd1_s, if_neg (okc_n h), rZ5 h, bd2_s]
    · have h0 : ouF (nI n) 0 60 = 0 := h0
      obtain ⟨c, k, f, l, se0, h1, R1⟩ := vThink (g := g) w R tc tk tf tl te
      obtain ⟨x', y', se, h2, R2⟩ := vDays (g := g) hg w R1 (N := n) (by omega) tx ty
      have e1 : daysT n t 1 = t 1 := days_ne n 0 t (by omega) (by omega) (by omega)
      refine ⟨nI (daysT n t (13 + 5 * j)), daysT n t, rf, np, nh, na, nI (daysT n t 3), nI (daysT n t 2), x', y', c, k, f, l, se, ?_, ?_, (w.daysT n).z⟩
      · rw [a1, fo_0, h0, if_pos z00, h1, bd10_s, h2, bd6_s, gdn (by omega) (by decide), nI_clamp (by omega), (R2.2.2.2.2.2.2 j (by rw [e1]; exact hj)).2.2.2]
      · rw [mHd_ok w hj, bd1_s, if_neg z10, mWrong, bd1_s, h0, if_pos z00, mTakes w hg hu (by omega), bd1_s, of3, bd1_s, gdn (by omega) (by decide), nI_clamp (by omega)]
theorem oComes (w : WF t) (hg : big g) (R : RV t np nh na ns nd nc nk nf nl nse) (rf : Nat → Int32) (p0 : Int32) (tp th ta ts td tx ty : Int32) (tc tk tf tl te : Nat → Int32) {u : Nat → Nat} (hu : z45 u) : ∃ r u' rf' o1 o2 o3 o4 o5 o6 o7 o8 o9 o10 o11 o12, fX4_comes g p0 np nh na ns nd nc nk nf nl nse tp th ta ts td tx ty tc tk tf tl te rf = some (r, o1, o2, o3, o4, o5, o6, o7, o8, o9, o10, o11, o12, rf') ∧ fX5_comes g p0 (rw1 t) (rw1 u) rf = some (r, rw1 u', rf') ∧ z45 u' := by
  have h6 := w.1
  unfold fX4_comes fX5_comes
  rw [cNoPlace, bd1_s]
  rcases tri_or p0 (n := t 0) (by omega) with h | ⟨j, hj, rfl⟩
  · refine ⟨-1, u, rfz (-1) rf, tp, th, ta, ts, td, tx, ty, tc, tk, tf, tl, te, ?_, ?_, hu⟩
    · rw [R.1, nh_bad (by omega) h, if_neg zm1, rZ4 ok1, bd2_s]
    · rw [mPl_bad w h, bd1_s, if_pos z00, rZ5 ok1, bd2_s]
  · have a1 : nhF (nI j) np = 0 := by rw [R.1]; exact nh_ok hj (by omega)
    obtain ⟨c, k, f, l, se0, h1, R1⟩ := vThink (g := g) w R tc tk tf tl te
    obtain ⟨b1, b2, b3, b4, b5, h2⟩ := vReach (g := g) hg w R1 (p := j) (W := 60) hj (by omega) tx ty
    obtain ⟨v, h3, hv⟩ := mComesTo w hg hu hj
    refine ⟨cmT (t (4 + j)) 60 t, v, rf, np, nh, na, b1, b2, b3, b4, c, k, f, l, b5, ?_, ?_, hv⟩
    · rw [a1, if_pos z00, h1, bd10_s]
      show bd6 (fX3_reaches g (nI j) (nI 60) _ _ _ _ _ _ _ _ _ _ _) _ = _
      rw [h2, bd6_s]
    · rw [mPl_ok w hj, bd1_s, if_neg z10, h3, bd2_s]
theorem oDoor (w : WF t) (hg : big g) (R : RV t np nh na ns nd nc nk nf nl nse) (rf : Nat → Int32) (p0 : Int32) (tp th ta ts td tx ty : Int32) (tc tk tf tl te : Nat → Int32) {u : Nat → Nat} (hu : z45 u) : ∃ r u' rf' o1 o2 o3 o4 o5 o6 o7 o8 o9 o10 o11 o12, fX4_door g p0 np nh na ns nd nc nk nf nl nse tp th ta ts td tx ty tc tk tf tl te rf = some (r, o1, o2, o3, o4, o5, o6, o7, o8, o9, o10, o11, o12, rf') ∧ fX5_door g p0 (rw1 t) (rw1 u) rf = some (r, rw1 u', rf') ∧ z45 u' := by
  unfold fX4_door fX5_door
  rw [cNoWhat, bd1_s]
  rcases tri_or p0 (n := 3) (by omega) with h | ⟨j, hj, rfl⟩
  · refine ⟨-2, u, rfz (-2) rf, tp, th, ta, ts, td, tx, ty, tc, tk, tf, tl, te, ?_, ?_, hu⟩
    · rw [show nvF p0 3 = -2 from nw_bad (n := 3) (by omega) h, if_neg zm2, rZ4 ok2, bd2_s]
    · rw [show fX5_isIn g p0 0 2 = some 0 from mIsIn_bad (n := 3) (by omega) h, bd1_s, if_pos z00, rZ5 ok2, bd2_s]
  · have a1 : nvF (nI j) 3 = 0 := nw_ok (n := 3) hj (by omega)
    have a2 : fX5_isIn g (nI j) 0 2 = some 1 := mIsIn_ok (n := 3) hj (by omega)
    obtain ⟨c, k, f, l, se0, h1, R1⟩ := vThink (g := g) w R tc tk tf tl te
    rcases (show j = 0 ∨ j = 1 ∨ j = 2 by omega) with rfl | rfl | rfl
    · obtain ⟨b1, b2, b3, b4, b5, h2⟩ := vFP (g := g) hg w R1 (W := 60) (by omega) tx ty
      obtain ⟨v, h3, hv⟩ := mDoor0 (g := g) hg w rf (W := 60) rfl
      refine ⟨dr0 60 t, v, rf, np, nh, na, b1, b2, b3, b4, c, k, f, l, b5, ?_, ?_, hv.z⟩
      · rw [a1, if_pos z00, h1, bd10_s, if_pos (show nI 0 = 0 from rfl)]
        show bd6 (fX3_firstPlace g (nI 60) _ _ _ _ _ _ _ _ _ _ _ _ ) _ = _
        rw [h2, bd6_s]
      · rw [a2, bd1_s, if_neg z10, mCopies hg w.z hu, bd1_s]
        exact h3
    · obtain ⟨b1, b2, b3, b4, b5, h2⟩ := vFS (g := g) hg w R1 (W := 60) (by omega) tx ty
      obtain ⟨v, h3, hv⟩ := mDoor1 (g := g) hg w rf (W := 60) rfl
      refine ⟨dr1 60 t, v, rf, np, nh, na, b1, b2, b3, b4, c, k, f, l, b5, ?_, ?_, hv.z⟩
      · rw [a1, if_pos z00, h1, bd10_s, if_neg (show ¬ nI 1 = 0 by decide), if_pos (show nI 1 = 1 from rfl)]
        show bd6 (fX3_firstSpin g (nI 60) _ _ _ _ _ _ _ _ _ _ _ ) _ = _
        rw [h2, bd6_s]
      · rw [a2, bd1_s, if_neg z10, mCopies hg w.z hu, bd1_s]
        exact h3
    · obtain ⟨b1, b2, b3, b4, b5, h2⟩ := vFR (g := g) hg w R1 (W := 60) (by omega) tx ty
      obtain ⟨v, h3, hv⟩ := mDoor2 (g := g) hg w rf (W := 60) rfl
      refine ⟨dr2 60 t, v, rf, np, nh, na, b1, b2, b3, b4, c, k, f, l, b5, ?_, ?_, hv.z⟩
      · rw [a1, if_pos z00, h1, bd10_s, if_neg (show ¬ nI 2 = 0 by decide), if_neg (show ¬ nI 2 = 1 by decide)]
        show bd6 (fX3_firstRest g (nI 60) _ _ _ _ _ _ _ _ _ _ _ ) _ = _
        rw [h2, bd6_s]
      · rw [a2, bd1_s, if_neg z10, mCopies hg w.z hu, bd1_s]
        exact h3
end PC3
