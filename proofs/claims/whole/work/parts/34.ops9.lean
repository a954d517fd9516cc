/-! ===== pure level: the calls, class beside model (9): a hand more, sign; laid by mkops9.py ===== -/
def adT (k f p : Nat) (t : Nat → Nat) : Nat → Nat := updN (updN (updN (updN (updN (updN t (10 + 5 * t 1) k) (11 + 5 * t 1) f) (12 + 5 * t 1) p) (13 + 5 * t 1) 0) (14 + 5 * t 1) 1) 1 (t 1 + 1)
theorem or7 : ∀ H, H < 7 → ∀ a, a < 2 ^ H → (nI a ||| ((1 : Int32) <<< (nI H &&& 31))) = nI (a + 2 ^ H) := by decide +kernel
section PC9
variable {g : Nat} {t : Nat → Nat} {np nh na ns nd : Int32} {nc nk nf nl nse : Nat → Int32} {k f p : Nat}
theorem adT_1 : adT k f p t 1 = t 1 + 1 := updN_eq
theorem adT_ne {j : Nat} (h1 : j ≠ 1) (h : j < 10 + 5 * t 1 ∨ 15 + 5 * t 1 ≤ j) : adT k f p t j = t j := by
  unfold adT
  rw [updN_ne h1, updN_ne (by omega), updN_ne (by omega), updN_ne (by omega), updN_ne (by omega), updN_ne (by omega)]
theorem adT_h : adT k f p t (10 + 5 * t 1) = k ∧ adT k f p t (11 + 5 * t 1) = f ∧ adT k f p t (12 + 5 * t 1) = p ∧ adT k f p t (13 + 5 * t 1) = 0 ∧ adT k f p t (14 + 5 * t 1) = 1 := by
  unfold adT updN
  refine ⟨?_, ?_, ?_, ?_, ?_⟩
  · rw [if_neg (by omega), if_neg (by omega), if_neg (by omega), if_neg (by omega), if_neg (by omega), if_pos rfl]
  · rw [if_neg (by omega), if_neg (by omega), if_neg (by omega), if_neg (by omega), if_pos rfl]
  · rw [if_neg (by omega), if_neg (by omega), if_neg (by omega), if_pos rfl]
  · rw [if_neg (by omega), if_neg (by omega), if_pos rfl]
  · rw [if_neg (by omega), if_pos rfl]
theorem WF.add (w : WF t) (h1 : t 1 < 7) (hk : k < 6) (hf : f < 10) (hp : p < t 0) : WF (adT k f p t) := by
  obtain ⟨h0, h1', h3, h4, h5, h6⟩ := w
  refine ⟨by rw [adT_ne (by omega) (by omega)]; exact h0, by rw [adT_1]; omega, by rw [adT_ne (by omega) (by omega)]; exact h3, ?_, ?_, ?_⟩
  · intro i hi
    rw [adT_ne (by omega) (by omega)] at hi
    rw [adT_ne (by omega) (by omega)]; exact h4 i hi
  · intro h hh
    rw [adT_1] at hh
    rw [adT_ne (show 0 ≠ 1 by omega) (by omega)]
    by_cases e : h = t 1
    · subst e
      rw [adT_h.1, adT_h.2.1, adT_h.2.2.1, adT_h.2.2.2.1, adT_h.2.2.2.2]
      omega
    · rw [adT_ne (by omega) (by omega), adT_ne (by omega) (by omega), adT_ne (by omega) (by omega), adT_ne (by omega) (by omega), adT_ne (by omega) (by omega)]
      exact h5 h (by omega)
  · intro j hj
    rw [adT_ne (by omega) (by omega)]; exact h6 j hj
theorem adT_ab (w : WF t) : abT (adT k f p t) = abT t + 2 ^ t 1 := by
  unfold abT
  rw [adT_1, abN_s, adT_h.2.2.2.2, Nat.one_mul, abN_cg (t' := t) (t 1) (fun h hh => adT_ne (by omega) (by omega))]
theorem RV.add (w : WF t) (h1 : t 1 < 7) (R : RV t np nh na ns nd nc nk nf nl nse) : RV (adT k f p t) np (nh + 1) (na ||| ((1 : Int32) <<< (nh &&& 31))) ns nd nc (upd nk (t 1) (nI k)) (upd nf (t 1) (nI f)) (upd nl (t 1) (nI p)) (upd nse (t 1) 0) := by
  obtain ⟨r1, r2, r3, r4, r5, r6, r7⟩ := R
  have h6 := w.1
  refine ⟨by rw [adT_ne (by omega) (by omega)]; exact r1, by rw [adT_1, r2, nI_1], ?_, by rw [adT_ne (by omega) (by omega)]; exact r4, by rw [adT_ne (by omega) (by omega)]; exact r5, ?_, ?_⟩
  · rw [r3, r2, or7 (t 1) h1 (abT t) (abN_lt (t 1) (fun h hh => (w.2.2.2.2.1 h hh).2.2.2.2)), adT_ab w]
  · intro i hi
    rw [adT_ne (by omega) (by omega)] at hi
    rw [adT_ne (by omega) (by omega)]; exact r6 i hi
  · intro h hh
    rw [adT_1] at hh
    unfold upd
    by_cases e : h = t 1
    · subst e
      rw [adT_h.1, adT_h.2.1, adT_h.2.2.1, adT_h.2.2.2.1, if_pos rfl, if_pos rfl, if_pos rfl, if_pos rfl]
      exact ⟨rfl, rfl, rfl, rfl⟩
    · rw [adT_ne (by omega) (by omega), adT_ne (by omega) (by omega), adT_ne (by omega) (by omega), adT_ne (by omega) (by omega), if_neg e, if_neg e, if_neg e, if_neg e]
      exact r7 h (by omega)
theorem mAdds (w : WF t) (h1 : t 1 < 7) : fX5_adds g (nI k) (nI f) (nI p) (rw1 t) = some (rw1 (adT k f p t)) := by
  unfold fX5_adds
  show bd1 (fX5_of g (nI (t 1)) 0) _ = _
  rw [of0, bd1_s, gdn (by omega) (by decide)]
  show bd1 (fX5_of g (nI (t 1)) 1) _ = _
  rw [of1, bd1_s, gdn (by omega) (by decide)]
  show bd1 (fX5_of g (nI (t 1)) 2) _ = _
  rw [of2, bd1_s, gdn (by omega) (by decide)]
  show bd1 (fX5_of g (nI (t 1)) 3) _ = _
  rw [of3, bd1_s, gdn (by omega) (by decide)]
  show bd1 (fX5_of g (nI (t 1)) 4) _ = _
  rw [of4, bd1_s, gdn (by omega) (by decide)]
  rw [nI_clamp (by omega), nI_clamp (by omega), nI_clamp (by omega), nI_clamp (by omega), nI_clamp (by omega), show (0 : Int32) = nI 0 from rfl, show (1 : Int32) = nI 1 from rfl, upd_rw, upd_rw, upd_rw, upd_rw, upd_rw]
  have e : updN (updN (updN (updN (updN t (10 + 5 * t 1) k) (11 + 5 * t 1) f) (12 + 5 * t 1) p) (13 + 5 * t 1) 0) (14 + 5 * t 1) 1 1 = t 1 := by
    rw [updN_ne (by omega), updN_ne (by omega), updN_ne (by omega), updN_ne (by omega), updN_ne (by omega)]
  show some (upd _ 1 (nI (updN (updN (updN (updN (updN t (10 + 5 * t 1) k) (11 + 5 * t 1) f) (12 + 5 * t 1) p) (13 + 5 * t 1) 0) (14 + 5 * t 1) 1 1) + nI 1)) = _
  rw [e, nI_add, upd_rw]
  rfl
theorem vAdd_ok (w : WF t) (h1 : t 1 < 7) (hp : p < t 0) (R : RV t np nh na ns nd nc nk nf nl nse) : fX3_addHand g (nI k) (nI f) (nI p) np nh na nk nf nl nse = some (1, nh + 1, na ||| ((1 : Int32) <<< (nh &&& 31)), upd nk (t 1) (nI k), upd nf (t 1) (nI f), upd nl (t 1) (nI p), upd nse (t 1) 0) := by
  have h6 := w.1
  unfold fX3_addHand
  rw [R.2.1, if_neg (show ¬ (7 : Int32) ≤ nI (t 1) from nI_ge (b := 7) h1 (by omega)), if_neg (nI_pos (by omega)), R.1, if_pos (nI_lt hp (by omega))]
  simp only [gdn (show t 1 < 7 by omega) (show 7 < 2 ^ 31 by decide), nI_clamp (show t 1 < 2 ^ 31 by omega)]
theorem vAdd_no (R : RV t np nh na ns nd nc nk nf nl nse) (h1 : 7 ≤ t 1) (h2 : t 1 < 2 ^ 31) (a b c : Int32) : fX3_addHand g a b c np nh na nk nf nl nse = some (0, nh, na, nk, nf, nl, nse) := by
  unfold fX3_addHand
  rw [if_pos (show (7 : Int32) ≤ nh by rw [R.2.1]; exact nI_le (a := 7) h1 h2)]
def sgV (t : Nat → Nat) (p k : Nat) : Int32 := if 7 ≤ t 1 then -9 else cmT (t (4 + p)) 60 (adT k 5 p t)
theorem sg_or (t : Nat → Nat) (p k : Nat) : sgV t p k = -9 ∨ ∃ r, r ≤ 60 ∧ sgV t p k = nI r := by
  unfold sgV
  split
  · exact Or.inl rfl
  · exact cm_or _ _ _
theorem vSigned (w : WF t) (hg : big g) (R : RV t np nh na ns nd nc nk nf nl nse) {p k : Nat} (hp : p < t 0) (hk : k < 6) (tx ty : Int32) (tc tk tf tl te : Nat → Int32) : ∃ o1 o2 o3 o4 o5 o6 o7 o8 o9 o10 o11 o12, fX4_comesWithSigned g (nI k) (nI p) np nh na ns nd nc nk nf nl nse tx ty tc tk tf tl te = some (sgV t p k, o1, o2, o3, o4, o5, o6, o7, o8, o9, o10, o11, o12) := by
  have h7 := w.2.1
  have h6 := w.1
  obtain ⟨c, kk, f, l, se, h1, R1⟩ := vThink (g := g) w R tc tk tf tl te
  unfold fX4_comesWithSigned sgV
  rw [h1, bd10_s]
  by_cases e : 7 ≤ t 1
  · rw [vAdd_no R1 e (by omega), bd7_s, if_pos z00, if_pos e]
    exact ⟨_, _, _, _, _, _, _, _, _, _, _, _, rfl⟩
  · have ha := vAdd_ok (g := g) (k := k) (f := 5) (p := p) w (by omega) hp R1
    have ha : fX3_addHand g (nI k) 5 (nI p) np nh na kk f l se = _ := ha
    have wa := w.add (k := k) (f := 5) (p := p) (by omega) hk (by omega) hp
    obtain ⟨b1, b2, b3, b4, b5, v⟩ := vReach (g := g) hg wa (R1.add (k := k) (f := 5) (p := p) w (by omega)) (p := p) (W := 60) (by rw [adT_ne (by omega) (by omega)]; exact hp) (by omega) tx ty
    rw [adT_ne (show 4 + p ≠ 1 by omega) (by omega)] at v
    rw [ha, bd7_s, if_neg z10, if_neg e]
    show ∃ o1 o2 o3 o4 o5 o6 o7 o8 o9 o10 o11 o12, bd6 (fX3_reaches g (nI p) (nI 60) _ _ _ _ _ _ _ _ _ _ _) _ = _
    rw [v, bd6_s]
    exact ⟨_, _, _, _, _, _, _, _, _, _, _, _, rfl⟩
theorem sign_L (w : WF t) (hg : big g) (R : RV t np nh na ns nd nc nk nf nl nse) {p : Nat} (hp : p < t 0) (h1 : t 1 < 7) : ∀ (d k n n' : Nat) (a b a' b' : Int32) (tp th ta ts td tx ty : Int32) (tc tk tf tl te : Nat → Int32) (u : Nat → Nat), z45 u → k + d = 6 → d < n → d < n' → (a = 61 ∧ b = -9 ∧ a' = 1000000000 ∧ b' = -9) ∨ (∃ i j, i ≤ 60 ∧ j < 6 ∧ a = nI i ∧ b = nI j ∧ a' = a ∧ b' = b) → ∃ ra rb v ra' o1 o2 o3 o4 o5 o6 o7 o8 o9 o10 o11 o12, fX4_sign_L38 g (nI p) np nh na ns nd nc nk nf nl nse n a b (nI k) tp th ta ts td tx ty tc tk tf tl te = some (ra, rb, o1, o2, o3, o4, o5, o6, o7, o8, o9, o10, o11, o12) ∧ fX5_sign_L40 g (nI p) (rw1 t) n' b' a' (nI k) (rw1 u) = some (rb, ra', rw1 v) ∧ z45 v ∧ ((rb = -9) ∨ (∃ j, j < 6 ∧ rb = nI j ∧ ra' = ra)) := by
  have h6 := w.1
  intro d
  induction d with
  | zero =>
    intro k n n' a b a' b' tp th ta ts td tx ty tc tk tf tl te u hu hk hn hn' hi
    obtain ⟨n, rfl⟩ : ∃ m, n = m + 1 := ⟨n - 1, by omega⟩
    obtain ⟨n', rfl⟩ : ∃ m, n' = m + 1 := ⟨n' - 1, by omega⟩
    have e6 : (6 : Int32) ≤ nI k := nI_le (a := 6) (by omega) (by omega)
    have eb : b' = b := by
      rcases hi with ⟨-, rfl, -, rfl⟩ | ⟨i, j, -, -, -, -, -, rfl⟩ <;> rfl
    refine ⟨a, b, u, a', tp, th, ta, ts, td, tx, ty, tc, tk, tf, tl, te, ?_, ?_, hu, ?_⟩
    · show fX4_sign_L38_b g (nI p) np nh na ns nd nc nk nf nl nse _ a b (nI k) tp th ta ts td tx ty tc tk tf tl te = _
      unfold fX4_sign_L38_b
      rw [if_pos e6]
    · show fX5_sign_L40_b g (nI p) (rw1 t) _ b' a' (nI k) (rw1 u) = _
      unfold fX5_sign_L40_b
      rw [if_pos e6, eb]
    · rcases hi with ⟨-, rfl, -, -⟩ | ⟨i, j, -, hj, -, rfl, rfl, -⟩
      · exact Or.inl rfl
      · exact Or.inr ⟨j, hj, rfl, rfl⟩
  | succ d ih =>
    intro k n n' a b a' b' tp th ta ts td tx ty tc tk tf tl te u hu hk hn hn' hi
    obtain ⟨n, rfl⟩ : ∃ m, n = m + 1 := ⟨n - 1, by omega⟩
    obtain ⟨n', rfl⟩ : ∃ m, n' = m + 1 := ⟨n' - 1, by omega⟩
    have e6 : ¬ (6 : Int32) ≤ nI k := nI_ge (b := 6) (by omega) (by omega)
    have h4 := w.2.2.2.1 p hp
    have wa := w.add (k := k) (f := 5) (p := p) h1 (by omega) (by omega) hp
    obtain ⟨v, v1, v2⟩ := mComes (g := g) hg wa (c := t (4 + p)) (W := 60) (by omega) (by omega)
    have v1 : fX5_comesIn g (nI (t (4 + p))) 60 (rw1 (adT k 5 p t)) = some (cmT (t (4 + p)) 60 (adT k 5 p t), rw1 v) := v1
    have es : cmT (t (4 + p)) 60 (adT k 5 p t) = sgV t p k := by unfold sgV; rw [if_neg (by omega)]
    rw [es] at v1
    obtain ⟨b1, b2, b3, b4, b5, b6, b7, b8, b9, b10, b11, b12, q⟩ := vSigned (g := g) w hg R hp (k := k) (by omega) tx ty tc tk tf tl te
    have ma : fX5_adds g (nI k) 5 (nI p) (rw1 t) = some (rw1 (adT k 5 p t)) := mAdds (f := 5) w h1
    show ∃ ra rb v ra' o1 o2 o3 o4 o5 o6 o7 o8 o9 o10 o11 o12, fX4_sign_L38_b g (nI p) np nh na ns nd nc nk nf nl nse (fX4_sign_L38 g (nI p) np nh na ns nd nc nk nf nl nse n) a b (nI k) tp th ta ts td tx ty tc tk tf tl te = some (ra, rb, o1, o2, o3, o4, o5, o6, o7, o8, o9, o10, o11, o12) ∧ fX5_sign_L40_b g (nI p) (rw1 t) (fX5_sign_L40 g (nI p) (rw1 t) n') b' a' (nI k) (rw1 u) = some (rb, ra', rw1 v) ∧ _
    unfold fX4_sign_L38_b fX5_sign_L40_b
    rw [if_neg e6, if_neg e6, if_neg (show ¬ (7 : Int32) ≤ rw1 t 1 from nI_ge (b := 7) h1 (by omega)), q, bd13_s, cLate, bd1_s, mCopies hg w.z hu, bd1_s, ma, bd1_s, show (4 : Int32) + nI p = nI (4 + p) from nI_add 4 p, gdn (by omega) (by decide), nI_clamp (by omega)]
    show ∃ ra rb v ra' o1 o2 o3 o4 o5 o6 o7 o8 o9 o10 o11 o12, _ ∧ (bd2 (fX5_comesIn g (nI (t (4 + p))) 60 (rw1 (adT k 5 p t))) _) = _ ∧ _
    rw [v1, bd2_s, nI_1]
    rcases sg_or t p k with e | ⟨r, hr, e⟩
    · rw [e, if_pos (show (-9 : Int32) < 0 by decide), show ltF (-9) = 61 from rfl]
      have ea : a ≤ 61 := by
        rcases hi with ⟨rfl, -⟩ | ⟨i, j, hi, -, rfl, -⟩
        · decide
        · exact nI_le (b := 61) (by omega) (by omega)
      rw [if_pos ea]
      exact ih (k + 1) n n' a b a' b' _ _ _ _ _ _ _ _ _ _ _ _ v v2.z (by omega) (by omega) (by omega) hi
    · have el : ltF (nI r) = nI r := if_neg (n9 (by omega))
      rw [e, el, if_neg (nI_pos (show r < 2 ^ 31 by omega))]
      rcases hi with ⟨rfl, rfl, rfl, rfl⟩ | ⟨i, j, hi, hj, rfl, rfl, rfl, rfl⟩
      · rw [if_neg (show ¬ (61 : Int32) ≤ nI r from nI_ge (b := 61) (by omega) (by omega)), if_pos (show nI r < 1000000000 from nI_lt (b := 1000000000) (by omega) (by omega))]
        exact ih (k + 1) n n' _ _ _ _ _ _ _ _ _ _ _ _ _ _ _ _ v v2.z (by omega) (by omega) (by omega) (Or.inr ⟨r, k, hr, by omega, rfl, rfl, rfl, rfl⟩)
      · by_cases c : i ≤ r
        · rw [if_pos (nI_le c (by omega)), if_neg (nI_nlt c (by omega))]
          exact ih (k + 1) n n' _ _ _ _ _ _ _ _ _ _ _ _ _ _ _ _ v v2.z (by omega) (by omega) (by omega) (Or.inr ⟨i, j, hi, hj, rfl, rfl, rfl, rfl⟩)
        · rw [if_neg (nI_ge (by omega) (by omega)), if_pos (nI_lt (by omega) (by omega))]
          exact ih (k + 1) n n' _ _ _ _ _ _ _ _ _ _ _ _ _ _ _ _ v v2.z (by omega) (by omega) (by omega) (Or.inr ⟨r, k, hr, by omega, rfl, rfl, rfl, rfl⟩)
theorem sign_L7 (w : WF t) (hg : big g) (R : RV t np nh na ns nd nc nk nf nl nse) {p : Nat} (hp : p < t 0) (h1 : 7 ≤ t 1) : ∀ (d k n : Nat) (tp th ta ts td tx ty : Int32) (tc tk tf tl te : Nat → Int32), k + d = 6 → d < n → ∃ o1 o2 o3 o4 o5 o6 o7 o8 o9 o10 o11 o12, fX4_sign_L38 g (nI p) np nh na ns nd nc nk nf nl nse n 61 (-9) (nI k) tp th ta ts td tx ty tc tk tf tl te = some (61, -9, o1, o2, o3, o4, o5, o6, o7, o8, o9, o10, o11, o12) := by
  intro d
  induction d with
  | zero =>
    intro k n tp th ta ts td tx ty tc tk tf tl te hk hn
    obtain ⟨n, rfl⟩ : ∃ m, n = m + 1 := ⟨n - 1, by omega⟩
    refine ⟨tp, th, ta, ts, td, tx, ty, tc, tk, tf, tl, te, ?_⟩
    show fX4_sign_L38_b g (nI p) np nh na ns nd nc nk nf nl nse _ 61 (-9) (nI k) tp th ta ts td tx ty tc tk tf tl te = _
    unfold fX4_sign_L38_b
    rw [if_pos (show (6 : Int32) ≤ nI k from nI_le (a := 6) (by omega) (by omega))]
  | succ d ih =>
    intro k n tp th ta ts td tx ty tc tk tf tl te hk hn
    obtain ⟨n, rfl⟩ : ∃ m, n = m + 1 := ⟨n - 1, by omega⟩
    obtain ⟨b1, b2, b3, b4, b5, b6, b7, b8, b9, b10, b11, b12, q⟩ := vSigned (g := g) w hg R hp (k := k) (by omega) tx ty tc tk tf tl te
    have es : sgV t p k = -9 := if_pos h1
    show ∃ o1 o2 o3 o4 o5 o6 o7 o8 o9 o10 o11 o12, fX4_sign_L38_b g (nI p) np nh na ns nd nc nk nf nl nse (fX4_sign_L38 g (nI p) np nh na ns nd nc nk nf nl nse n) 61 (-9) (nI k) tp th ta ts td tx ty tc tk tf tl te = some (61, -9, o1, o2, o3, o4, o5, o6, o7, o8, o9, o10, o11, o12)
    unfold fX4_sign_L38_b
    rw [if_neg (show ¬ (6 : Int32) ≤ nI k from nI_ge (b := 6) (by omega) (by omega)), q, bd13_s, cLate, bd1_s, es, show ltF (-9) = 61 from rfl, if_pos (show (61 : Int32) ≤ 61 by decide), nI_1]
    exact ih (k + 1) n _ _ _ _ _ _ _ _ _ _ _ _ (by omega) (by omega)
theorem oSign (w : WF t) (hg : big g) (R : RV t np nh na ns nd nc nk nf nl nse) (rf : Nat → Int32) (p0 p1 : Int32) (tp th ta ts td tx ty : Int32) (tc tk tf tl te : Nat → Int32) {u : Nat → Nat} (hu : z45 u) : ∃ r u' rf' o1 o2 o3 o4 o5 o6 o7 o8 o9 o10 o11 o12, fX4_sign g p0 p1 np nh na ns nd nc nk nf nl nse tp th ta ts td tx ty tc tk tf tl te rf = some (r, o1, o2, o3, o4, o5, o6, o7, o8, o9, o10, o11, o12, rf') ∧ fX5_sign g p0 p1 (rw1 t) (rw1 u) rf = some (r, rw1 u', rf') ∧ z45 u' := by
  have h6 := w.1
  have h7 := w.2.1
  have hg' : 100000000000000000000 ≤ g := hg
  unfold fX4_sign fX5_sign
  rw [cNoPlace, bd1_s, cNoWhat, bd1_s, cFirst, bd1_s]
  rcases tri_or p0 (n := t 0) (by omega) with h | ⟨j, hj, rfl⟩
  · refine ⟨-1, u, rfz (-1) rf, tp, th, ta, ts, td, tx, ty, tc, tk, tf, tl, te, ?_, ?_, hu⟩
    · rw [R.1, nh_bad (by omega) h, fo_n ok1, if_neg zm1, rZ4 ok1, bd2_s]
    · rw [mPl_bad w h, bd1_s, if_pos z00, rZ5 ok1, bd2_s]
  · have a1 : nhF (nI j) np = 0 := by rw [R.1]; exact nh_ok hj (by omega)
    rcases tri_or p1 (n := 2) (by omega) with h | ⟨i, hi, rfl⟩
    · refine ⟨-2, u, rfz (-2) rf, tp, th, ta, ts, td, tx, ty, tc, tk, tf, tl, te, ?_, ?_, hu⟩
      · rw [a1, fo_0, show nvF p1 2 = -2 from nw_bad (n := 2) (by omega) h, if_neg zm2, rZ4 ok2, bd2_s]
      · rw [mPl_ok w hj, bd1_s, if_neg z10, show fX5_isIn g p1 0 1 = some 0 from mIsIn_bad (n := 2) (by omega) h, bd1_s, if_pos z00, rZ5 ok2, bd2_s]
    · have a2 : nvF (nI i) 2 = 0 := nw_ok (n := 2) hi (by omega)
      have a3 : fX5_isIn g (nI i) 0 1 = some 1 := mIsIn_ok (n := 2) hi (by omega)
      rw [a1, fo_0, a2, if_pos z00, cLate, bd1_s, show ltF (-9) = 61 from rfl, mPl_ok w hj, bd1_s, if_neg z10, a3, bd1_s, if_neg z10]
      by_cases c : 7 ≤ t 1
      · obtain ⟨o1, o2, o3, o4, o5, o6, o7, o8, o9, o10, o11, o12, q⟩ := sign_L7 (g := g) w hg R hj c 6 0 g tp th ta ts td tx ty tc tk tf tl te (by omega) (by omega)
        have q : fX4_sign_L38 g (nI j) np nh na ns nd nc nk nf nl nse g 61 (-9) 0 tp th ta ts td tx ty tc tk tf tl te = some (61, -9, o1, o2, o3, o4, o5, o6, o7, o8, o9, o10, o11, o12) := q
        have m : fX5_sign_L40 g (nI j) (rw1 t) g (-9) 1000000000 0 (rw1 u) = some (-9, 1000000000, rw1 u) := by
          obtain ⟨g', hgg⟩ : ∃ m, g = m + 1 := ⟨g - 1, by omega⟩
          have s2 : fX5_sign_L40 g (nI j) (rw1 t) g (-9) 1000000000 0 (rw1 u) = fX5_sign_L40 g (nI j) (rw1 t) (g' + 1) (-9) 1000000000 0 (rw1 u) := by rw [← hgg]
          rw [s2]
          show fX5_sign_L40_b g (nI j) (rw1 t) _ (-9) 1000000000 0 (rw1 u) = _
          unfold fX5_sign_L40_b
          rw [if_neg (show ¬ (6 : Int32) ≤ 0 by decide), if_pos (show (7 : Int32) ≤ rw1 t 1 from nI_le (a := 7) c (by omega))]
        refine ⟨-9, u, rf, o1, o2, o3, o4, o5, o6, o7, o8, o9, o10, o11, o12, ?_, ?_, hu⟩
        · rw [q, bd14_s, if_pos rfl]
        · rw [m, bd3_s, if_pos (show (-9 : Int32) < 0 by decide)]
      · obtain ⟨ra, rb, v, ra', o1, o2, o3, o4, o5, o6, o7, o8, o9, o10, o11, o12, q1, q2, q3, q4⟩ := sign_L (g := g) w hg R hj (by omega) 6 0 g g 61 (-9) 1000000000 (-9) tp th ta ts td tx ty tc tk tf tl te u hu (by omega) (by omega) (by omega) (Or.inl ⟨rfl, rfl, rfl, rfl⟩)
        have q1 : fX4_sign_L38 g (nI j) np nh na ns nd nc nk nf nl nse g 61 (-9) 0 tp th ta ts td tx ty tc tk tf tl te = some (ra, rb, o1, o2, o3, o4, o5, o6, o7, o8, o9, o10, o11, o12) := q1
        have q2 : fX5_sign_L40 g (nI j) (rw1 t) g (-9) 1000000000 0 (rw1 u) = some (rb, ra', rw1 v) := q2
        rw [q1, bd14_s, q2, bd3_s]
        rcases q4 with rfl | ⟨b, hb, rfl, rfl⟩
        · rw [if_pos rfl, if_pos (show (-9 : Int32) < 0 by decide)]
          exact ⟨-9, v, rf, o1, o2, o3, o4, o5, o6, o7, o8, o9, o10, o11, o12, rfl, rfl, q3⟩
        · rw [if_neg (n9 (by omega)), if_neg (nI_pos (show b < 2 ^ 31 by omega))]
          rcases (show i = 0 ∨ i = 1 by omega) with rfl | rfl
          · exact ⟨nI b, v, rf, o1, o2, o3, o4, o5, o6, o7, o8, o9, o10, o11, o12, rfl, rfl, q3⟩
          · exact ⟨ra', v, rf, o1, o2, o3, o4, o5, o6, o7, o8, o9, o10, o11, o12, rfl, rfl, q3⟩
end PC9
