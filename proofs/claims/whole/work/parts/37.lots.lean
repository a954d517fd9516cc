/-! ===== pure level: the calls, class beside model (12): lots ===== -/
def sdN (s : Int32) : Int32 := s * 1664525 + 1013904223
def drN (m : Nat) (s : Int32) : Nat := (sdN s).toBitVec.toNat % 2 ^ 31 / 256 % m
theorem drw (s : Int32) {m : Nat} (h0 : 0 < m) (hm : m < 2 ^ 31) : ((sdN s &&& 2147483647) / 256) - ((sdN s &&& 2147483647) / 256) / nI m * nI m = nI (drN m s) := by
  have h1 : (sdN s).toBitVec.toNat % 2 ^ 31 < 2 ^ 31 := Nat.mod_lt _ (by decide)
  have h2 : (sdN s).toBitVec.toNat % 2 ^ 31 / 256 < 2 ^ 31 := Nat.lt_of_le_of_lt (Nat.div_le_self _ _) h1
  rw [pk_and (m := 2147483647) _ 31 (by decide), show (256 : Int32) = nI 256 from rfl, pk_div h1 (by decide) (by decide), pk_rem h2 h0 hm]
  rfl
theorem drN_lt (s : Int32) {m : Nat} (h0 : 0 < m) : drN m s < m := Nat.mod_lt _ h0
theorem vDraw40 (g : Nat) (s : Int32) : fX0_draw g 40 s = some (nI (drN 40 s), sdN s) := by
  unfold fX0_draw
  rw [if_neg (show ¬ (40 : Int32) ≤ 0 by decide), gd_p (show ¬ (40 : Int32) = 0 by decide)]
  exact congrArg (fun x => some (x, sdN s)) (drw s (m := 40) (by decide) (by decide))
theorem vDraw64 (g : Nat) (s : Int32) : fX0_draw g 64 s = some (nI (drN 64 s), sdN s) := by
  unfold fX0_draw
  rw [if_neg (show ¬ (64 : Int32) ≤ 0 by decide), gd_p (show ¬ (64 : Int32) = 0 by decide)]
  exact congrArg (fun x => some (x, sdN s)) (drw s (m := 64) (by decide) (by decide))
theorem mDrawn40 (g : Nat) (s : Int32) : fX5_drawn g 40 s = some (nI (drN 40 s), sdN s) := by
  unfold fX5_drawn
  rw [gd_p (show ¬ (40 : Int32) = 0 by decide)]
  exact congrArg (fun x => some (x, sdN s)) (drw s (m := 40) (by decide) (by decide))
theorem mDrawn64 (g : Nat) (s : Int32) : fX5_drawn g 64 s = some (nI (drN 64 s), sdN s) := by
  unfold fX5_drawn
  rw [gd_p (show ¬ (64 : Int32) = 0 by decide)]
  exact congrArg (fun x => some (x, sdN s)) (drw s (m := 64) (by decide) (by decide))
section PC12
variable {g : Nat} {t : Nat → Nat} {np nh na ns nd : Int32} {nc nk nf nl nse : Nat → Int32}
theorem anew_L (ht : t 1 ≤ 7) : ∀ (d k n n' : Nat) (s : Int32) (u : Nat → Nat) (se : Nat → Int32), WF u → u 1 = t 1 → RV u np nh na ns nd nc nk nf nl se → k + d = t 1 → d < n → d < n' → ∃ s' u' se', fX0_startAnew_L12 g nh n (nI k) s se = some (s', se') ∧ fX5_lots_L84 g (rw1 t) n' (nI k) s (rw1 u) = some (s', rw1 u') ∧ WF u' ∧ RV u' np nh na ns nd nc nk nf nl se' := by
  intro d
  induction d with
  | zero =>
    intro k n n' s u se wu hu R hk hn hn'
    obtain ⟨n, rfl⟩ : ∃ m, n = m + 1 := ⟨n - 1, by omega⟩
    obtain ⟨n', rfl⟩ : ∃ m, n' = m + 1 := ⟨n' - 1, by omega⟩
    refine ⟨s, u, se, ?_, ?_, wu, R⟩
    · show fX0_startAnew_L12_b g nh _ (nI k) s se = _
      unfold fX0_startAnew_L12_b
      rw [R.2.1, if_pos (nI_le (by omega) (by omega))]
    · show fX5_lots_L84_b g (rw1 t) _ (nI k) s (rw1 u) = _
      unfold fX5_lots_L84_b
      rw [if_pos (show rw1 t 1 ≤ nI k from nI_le (by omega) (by omega))]
  | succ d ih =>
    intro k n n' s u se wu hu R hk hn hn'
    obtain ⟨n, rfl⟩ : ∃ m, n = m + 1 := ⟨n - 1, by omega⟩
    obtain ⟨n', rfl⟩ : ∃ m, n' = m + 1 := ⟨n' - 1, by omega⟩
    have hk1 : k < u 1 := by omega
    have hv : drN 40 s < 40 := drN_lt s (by decide)
    have w2 : WF (updN u (13 + 5 * k) (drN 40 s)) := wu.updH (j := 3) hk1 (by omega) ⟨by omega, by omega, by omega, fun _ => by omega, by omega⟩
    have R2 := R.sea wu (j := k) (v := drN 40 s) hk1
    obtain ⟨s', u', se', h1, h2, h3, h4⟩ := ih (k + 1) n n' (sdN s) _ _ w2 ((updN_ne (by omega)).trans hu) R2 (by omega) (by omega) (by omega)
    refine ⟨s', u', se', ?_, ?_, h3, h4⟩
    · show fX0_startAnew_L12_b g nh (fX0_startAnew_L12 g nh n) (nI k) s se = _
      unfold fX0_startAnew_L12_b
      rw [if_neg (show ¬ nh ≤ nI k by rw [R.2.1]; exact nI_ge (by omega) (by omega)), vDraw40, bd2_s, gdn (by omega) (by decide), nI_clamp (by omega), nI_1]
      exact h1
    · show fX5_lots_L84_b g (rw1 t) (fX5_lots_L84 g (rw1 t) n') (nI k) s (rw1 u) = _
      unfold fX5_lots_L84_b
      rw [if_neg (show ¬ rw1 t 1 ≤ nI k from nI_ge (by omega) (by omega)), of3, bd1_s, mDrawn40, bd2_s, gdn (by omega) (by decide), nI_clamp (by omega), nI_1, upd_rw]
      exact h2
theorem lots_L (w : WF t) (hg : big g) (R : RV t np nh na ns nd nc nk nf nl nse) {N q : Nat} (hN : N ≤ 20) (hq : q < 2) : ∀ (d k n n' : Nat) (a b c s : Int32) (u : Nat → Nat) (o1 o2 o3 o4 o5 o6 o7 : Int32) (o8 o9 o10 o11 o12 : Nat → Int32), z45 u → c = (if q = 1 then b else a) → k + d = N → d < n → d < n' → ∃ a' b' s' u' r1 r2 r3 r4 r5 r6 r7 r8 r9 r10 r11 r12, fX4_lots_L46 g (nI N) np nh na ns nd nc nk nf nl nse n a b (nI k) o1 o2 o3 o4 o5 o6 o7 o8 o9 o10 o11 o12 s = some (a', b', r1, r2, r3, r4, r5, r6, r7, r8, r9, r10, r11, r12, s') ∧ fX5_lots_L52 g (nI N) (nI q) (rw1 t) n' c (nI k) s (rw1 u) = some ((if q = 1 then b' else a'), s', rw1 u') ∧ z45 u' := by
  have hg' : 100000000000000000000 ≤ g := hg
  have h7 := w.2.1
  intro d
  induction d with
  | zero =>
    intro k n n' a b c s u o1 o2 o3 o4 o5 o6 o7 o8 o9 o10 o11 o12 hu hc hk hn hn'
    obtain ⟨n, rfl⟩ : ∃ m, n = m + 1 := ⟨n - 1, by omega⟩
    obtain ⟨n', rfl⟩ : ∃ m, n' = m + 1 := ⟨n' - 1, by omega⟩
    refine ⟨a, b, s, u, o1, o2, o3, o4, o5, o6, o7, o8, o9, o10, o11, o12, ?_, ?_, hu⟩
    · show fX4_lots_L46_b g (nI N) np nh na ns nd nc nk nf nl nse _ a b (nI k) o1 o2 o3 o4 o5 o6 o7 o8 o9 o10 o11 o12 s = _
      unfold fX4_lots_L46_b
      rw [if_pos (nI_le (by omega) (by omega))]
    · show fX5_lots_L52_b g (nI N) (nI q) (rw1 t) _ c (nI k) s (rw1 u) = _
      unfold fX5_lots_L52_b
      rw [if_pos (nI_le (by omega) (by omega)), hc]
  | succ d ih =>
    intro k n n' a b c s u o1 o2 o3 o4 o5 o6 o7 o8 o9 o10 o11 o12 hu hc hk hn hn'
    obtain ⟨n, rfl⟩ : ∃ m, n = m + 1 := ⟨n - 1, by omega⟩
    obtain ⟨n', rfl⟩ : ∃ m, n' = m + 1 := ⟨n' - 1, by omega⟩
    obtain ⟨c8, c9, c10, c11, c12, e1, R1⟩ := vThink (g := g) w R o8 o9 o10 o11 o12
    have hv : drN 64 s < 64 := drN_lt s (by decide)
    have w2 : WF (updN t 3 (drN 64 s)) := w.upd3 hv
    have R2 := R1.ship3 w (drN 64 s)
    obtain ⟨s', u2, se', h1, h2, w3, R3⟩ := anew_L (g := g) (t := t) h7 (t 1) 0 g g (sdN s) _ _ w2 (updN_ne (by omega)) R2 (by omega) (by omega) (by omega)
    obtain ⟨x', y', se2, h3, R4⟩ := vDays (g := g) hg w3 R3 (N := 12) (by omega) o6 o7
    have w4 : WF (daysT 12 u2) := WF.days 12 0 u2 w3
    have hA : fX0_startAnew g s nh c12 = some (s', nI (drN 64 s), se') := by
      unfold fX0_startAnew
      rw [vDraw64, bd2_s]
      show bd2 (fX0_startAnew_L12 g nh g (nI 0) (sdN s) c12) _ = _
      rw [h1, bd2_s]
    have hp := pl_neg w4
    have key : ∀ a2 b2 c2, c2 = (if q = 1 then b2 else a2) → ∃ a' b' s3 u' r1 r2 r3 r4 r5 r6 r7 r8 r9 r10 r11 r12, fX4_lots_L46 g (nI N) np nh na ns nd nc nk nf nl nse n a2 b2 (nI (k + 1)) np nh na (nI (daysT 12 u2 3)) (nI (daysT 12 u2 2)) x' y' c8 c9 c10 c11 se2 s' = some (a', b', r1, r2, r3, r4, r5, r6, r7, r8, r9, r10, r11, r12, s3) ∧ fX5_lots_L52 g (nI N) (nI q) (rw1 t) n' c2 (nI (k + 1)) s' (rw1 (daysT 12 u2)) = some ((if q = 1 then b' else a'), s3, rw1 u') ∧ z45 u' := by
      intro a2 b2 c2 h
      exact ih (k + 1) n n' a2 b2 c2 s' _ _ _ _ _ _ _ _ _ _ _ _ _ w4.z h (by omega) (by omega) (by omega)
    have cls : fX4_lots_L46 g (nI N) np nh na ns nd nc nk nf nl nse (n + 1) a b (nI k) o1 o2 o3 o4 o5 o6 o7 o8 o9 o10 o11 o12 s = fX4_lots_L46 g (nI N) np nh na ns nd nc nk nf nl nse n (if plcT (daysT 12 u2) = -9 then a else a + 1) (b + nI (daysT 12 u2 3)) (nI (k + 1)) np nh na (nI (daysT 12 u2 3)) (nI (daysT 12 u2 2)) x' y' c8 c9 c10 c11 se2 s' := by
      show fX4_lots_L46_b g (nI N) np nh na ns nd nc nk nf nl nse (fX4_lots_L46 g (nI N) np nh na ns nd nc nk nf nl nse n) a b (nI k) o1 o2 o3 o4 o5 o6 o7 o8 o9 o10 o11 o12 s = _
      unfold fX4_lots_L46_b
      rw [if_neg (nI_ge (by omega) (by omega)), e1, bd10_s, hA, bd3_s, show (12 : Int32) = nI 12 from rfl, h3, bd6_s, vPlace w4 hg R4, bd1_s, nI_1]
      by_cases e : plcT (daysT 12 u2) = -9
      · rw [if_pos e, if_pos e]
      · rw [if_neg e, if_neg e]
    have mod : fX5_lots_L52 g (nI N) (nI q) (rw1 t) (n' + 1) c (nI k) s (rw1 u) = fX5_lots_L52 g (nI N) (nI q) (rw1 t) n' (if q = 1 then c + nI (daysT 12 u2 3) else if plcT (daysT 12 u2) = -9 then c else c + 1) (nI (k + 1)) s' (rw1 (daysT 12 u2)) := by
      show fX5_lots_L52_b g (nI N) (nI q) (rw1 t) (fX5_lots_L52 g (nI N) (nI q) (rw1 t) n') c (nI k) s (rw1 u) = _
      unfold fX5_lots_L52_b
      rw [if_neg (nI_ge (by omega) (by omega)), mCopies hg w.z hu, bd1_s, mDrawn64, bd2_s, upd_rw]
      show bd2 (fX5_lots_L84 g (rw1 t) g (nI 0) (sdN s) (rw1 (updN t 3 (drN 64 s)))) _ = _
      rw [h2, bd2_s, show (12 : Int32) = nI 12 from rfl, mDays w3 hg (by omega), bd1_s, nI_1]
      rcases (show q = 0 ∨ q = 1 by omega) with rfl | rfl
      · rw [if_neg (show ¬ nI 0 = 1 by decide), if_neg (show ¬ (0 : Nat) = 1 by decide), mPlace w4 hg, bd1_s]
        by_cases e : plcT (daysT 12 u2) = -9
        · rw [if_pos (hp.1.mpr (hp.2.mp e)), if_pos e, Int32.add_zero]
        · rw [if_neg (fun h => e (hp.2.mpr (hp.1.mp h))), if_neg e]
      · rw [if_pos (show nI 1 = 1 from rfl), if_pos (show (1 : Nat) = 1 from rfl)]
    rw [cls, mod]
    refine key _ _ _ ?_
    rw [hc]
    rcases (show q = 0 ∨ q = 1 by omega) with rfl | rfl
    · simp only [show ¬ (0 : Nat) = 1 by decide, if_false]
    · simp only [if_true]
theorem oLots (w : WF t) (hg : big g) (R : RV t np nh na ns nd nc nk nf nl nse) (rf : Nat → Int32) (p0 p1 p2 : Int32) {u : Nat → Nat} (hu : z45 u) (ls ms : Int32) (o1 o2 o3 o4 o5 o6 o7 : Int32) (o8 o9 o10 o11 o12 : Nat → Int32) : ∃ r rf' u' ls' ms' r1 r2 r3 r4 r5 r6 r7 r8 r9 r10 r11 r12, fX4_lots g p0 p1 p2 np nh na ns nd nc nk nf nl nse o1 o2 o3 o4 o5 o6 o7 o8 o9 o10 o11 o12 ls rf = some (r, r1, r2, r3, r4, r5, r6, r7, r8, r9, r10, r11, r12, ls', rf') ∧ fX5_lots g p0 p1 p2 ms (rw1 t) (rw1 u) rf = some (r, ms', rw1 u', rf') ∧ z45 u' := by
  have hg' : 100000000000000000000 ≤ g := hg
  unfold fX4_lots fX5_lots
  rw [cOut, bd1_s, cNoWhat, bd1_s, cFirst, bd1_s]
  by_cases h1 : 1 ≤ p0
  · by_cases h2 : p0 ≤ 20
    · have e0 : ouF p0 1 20 = 0 := by unfold ouF beF avF foF; rw [if_pos h1, if_pos h2, if_pos z00]
      have hp0 : ¬ p0 < 0 := fun h => Int32.lt_irrefl (Int32.lt_of_lt_of_le h (Int32.le_trans (show (0 : Int32) ≤ 1 by decide) h1))
      obtain ⟨N, hN, rfl⟩ := nI_of hp0
      have hN20 : N ≤ 20 := by
        rcases Nat.lt_or_ge 20 N with q | q
        · exact absurd (show nI N ≤ nI 20 from h2) (nI_ge q (by omega))
        · exact q
      rw [e0, fo_0, if_pos h1, if_pos h2]
      rcases tri_or p2 (n := 2) (by omega) with h | ⟨j, hj, rfl⟩
      · refine ⟨-2, rfz (-2) rf, u, ls, ms, o1, o2, o3, o4, o5, o6, o7, o8, o9, o10, o11, o12, ?_, ?_, hu⟩
        · rw [show nvF p2 2 = -2 from nw_bad (n := 2) (by omega) h, if_neg zm2, rZ4 ok2, bd2_s]
        · rw [show fX5_isIn g p2 0 1 = some 0 from mIsIn_bad (n := 2) (by omega) h, bd1_s, if_pos z00, rZ5 ok2, bd2_s]
      · obtain ⟨a', b', s', u', r1, r2, r3, r4, r5, r6, r7, r8, r9, r10, r11, r12, q1, q2, q3⟩ := lots_L (g := g) w hg R hN20 hj N 0 g g 0 0 0 p1 u o1 o2 o3 o4 o5 o6 o7 o8 o9 o10 o11 o12 hu (by split <;> rfl) (by omega) (by omega) (by omega)
        refine ⟨if j = 1 then b' else a', rf, u', s', s', r1, r2, r3, r4, r5, r6, r7, r8, r9, r10, r11, r12, ?_, ?_, q3⟩
        · rw [show nvF (nI j) 2 = 0 from nw_ok (n := 2) hj (by omega), if_pos z00]
          show bd15 (fX4_lots_L46 g (nI N) np nh na ns nd nc nk nf nl nse g 0 0 (nI 0) o1 o2 o3 o4 o5 o6 o7 o8 o9 o10 o11 o12 p1) _ = _
          rw [q1, bd15_s]
          rcases (show j = 0 ∨ j = 1 by omega) with rfl | rfl
          · rw [if_pos (show nI 0 = 0 from rfl)]; rfl
          · rw [if_neg (show ¬ nI 1 = 0 by decide)]; rfl
        · rw [show fX5_isIn g (nI j) 0 1 = some 1 from mIsIn_ok (n := 2) hj (by omega), bd1_s, if_neg z10]
          show bd3 (fX5_lots_L52 g (nI N) (nI j) (rw1 t) g 0 (nI 0) p1 (rw1 u)) _ = _
          rw [q2, bd3_s]
    · refine ⟨-6, rfz (-6) rf, u, ls, ms, o1, o2, o3, o4, o5, o6, o7, o8, o9, o10, o11, o12, ?_, ?_, hu⟩
      · rw [show ouF p0 1 20 = -6 by unfold ouF beF avF foF; rw [if_pos h1, if_neg h2, if_pos z00], fo_n ok6, if_neg zm6, rZ4 ok6, bd2_s]
      · rw [if_pos h1, if_neg h2, rZ5 ok6, bd2_s]
  · refine ⟨-4, rfz (-4) rf, u, ls, ms, o1, o2, o3, o4, o5, o6, o7, o8, o9, o10, o11, o12, ?_, ?_, hu⟩
    · rw [show ouF p0 1 20 = -4 by unfold ouF beF foF; rw [if_neg h1, if_neg zm4], fo_n ok4, if_neg zm4, rZ4 ok4, bd2_s]
    · rw [if_neg h1, rZ5 ok4, bd2_s]
end PC12
