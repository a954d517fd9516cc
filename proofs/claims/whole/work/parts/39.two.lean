/-! ===== pure level: the calls, class beside model (14): two; laid by mkops13.py ===== -/
theorem ltS_nj {q h : Nat} {m : Nat → Nat} {j : Nat} (e : j ≠ 13 + 5 * h) : ltS q h m j = m j := by
  unfold ltS
  split
  · unfold drT; exact updN_ne e
  · rfl
theorem ltS_at (q : Nat) : ∀ (d k : Nat) (m : Nat → Nat) (j : Nat), it (ltS q) d k m j = if (13 ≤ j ∧ (j - 13) % 5 = 0 ∧ k ≤ (j - 13) / 5 ∧ (j - 13) / 5 < k + d) ∧ q / 2 ^ ((j - 13) / 5) % 2 = 1 then m j / 2 else m j
  | 0, k, m, j => by rw [if_neg (by omega)]; rfl
  | d + 1, k, m, j => by
    show it (ltS q) d (k + 1) (ltS q k m) j = _
    rw [ltS_at q d (k + 1) (ltS q k m) j]
    by_cases e : j = 13 + 5 * k
    · subst e
      have ek : (13 + 5 * k - 13) / 5 = k := by omega
      rw [ek, if_neg (by omega)]
      unfold ltS
      by_cases b : q / 2 ^ k % 2 = 1
      · rw [if_pos b, if_pos ⟨by omega, b⟩]
        unfold drT
        exact updN_eq
      · rw [if_neg b, if_neg (fun h => b h.2)]
    · rw [ltS_nj e]
      by_cases h : (13 ≤ j ∧ (j - 13) % 5 = 0 ∧ k + 1 ≤ (j - 13) / 5 ∧ (j - 13) / 5 < k + 1 + d)
      · by_cases b : q / 2 ^ ((j - 13) / 5) % 2 = 1
        · rw [if_pos ⟨h, b⟩, if_pos ⟨by omega, b⟩]
        · rw [if_neg (fun h => b h.2), if_neg (fun h => b h.2)]
      · rw [if_neg (fun h2 => h h2.1), if_neg (fun h2 => h (by omega))]
def bq (a b k : Nat) : Nat := k / 2 * 2 ^ a + k % 2 * 2 ^ b
def bidT (t : Nat → Nat) (a b k : Nat) : Nat → Nat := it (ltS (bq a b k)) (t 1) 0 t
theorem bq_lt : ∀ a, a < 7 → ∀ b, b < 7 → a ≠ b → ∀ k, k < 4 → bq a b k < 128 := by decide +kernel
theorem bq_bit : ∀ a, a < 7 → ∀ b, b < 7 → a ≠ b → ∀ k, k < 4 → ∀ h, h < 7 → bq a b k / 2 ^ h % 2 = (if h = a then k / 2 else if h = b then k % 2 else 0) := by decide +kernel
theorem bq_set : ∀ a, a < 7 → ∀ b, b < 7 → a ≠ b → ∀ k, k < 4 → (((nI k >>> ((1 : Int32) &&& 31)) <<< (nI a &&& 31)) ||| ((nI k &&& 1) <<< (nI b &&& 31))) = nI (bq a b k) := by decide +kernel
def drI (x h : Nat) (t : Nat → Nat) : Nat → Nat := if x = 1 then drT h t else t
theorem drI_at (x h : Nat) (t : Nat → Nat) (j : Nat) : drI x h t j = if j = 13 + 5 * h ∧ x = 1 then t j / 2 else t j := by
  unfold drI
  by_cases e : x = 1
  · rw [if_pos e]
    unfold drT
    by_cases e2 : j = 13 + 5 * h
    · rw [if_pos ⟨e2, e⟩, e2, updN_eq]
    · rw [if_neg (fun z => e2 z.1), updN_ne e2]
  · rw [if_neg e, if_neg (fun z => e z.2)]
theorem bid_dd {t : Nat → Nat} (h7 : t 1 ≤ 7) {a b k : Nat} (ha : a < t 1) (hb : b < t 1) (hab : a ≠ b) (hk : k < 4) : bidT t a b k = drI (k % 2) b (drI (k / 2) a t) := by
  funext j
  unfold bidT
  rw [ltS_at, drI_at, drI_at]
  by_cases c : 13 ≤ j ∧ (j - 13) % 5 = 0 ∧ 0 ≤ (j - 13) / 5 ∧ (j - 13) / 5 < 0 + t 1
  · obtain ⟨h, rfl⟩ : ∃ h, j = 13 + 5 * h := ⟨(j - 13) / 5, by omega⟩
    have eh : (13 + 5 * h - 13) / 5 = h := by omega
    rw [eh] at c ⊢
    rw [bq_bit a (by omega) b (by omega) hab k hk h (by omega)]
    by_cases e1 : h = a
    · subst e1
      rw [if_pos rfl]
      by_cases e2 : k / 2 = 1
      · rw [if_pos ⟨c, e2⟩, if_neg (fun z => hab (by omega)), if_pos ⟨rfl, e2⟩]
      · rw [if_neg (fun z => e2 z.2), if_neg (fun z => hab (by omega)), if_neg (fun z => e2 z.2)]
    · rw [if_neg e1]
      by_cases e3 : h = b
      · subst e3
        rw [if_pos rfl]
        by_cases e2 : k % 2 = 1
        · rw [if_pos ⟨c, e2⟩, if_pos ⟨rfl, e2⟩, if_neg (fun z => e1 (by omega))]
        · rw [if_neg (fun z => e2 z.2), if_neg (fun z => e2 z.2), if_neg (fun z => e1 (by omega))]
      · rw [if_neg e3, if_neg (by omega), if_neg (by omega), if_neg (by omega)]
  · rw [if_neg (fun z => c z.1), if_neg (fun z => c (by omega)), if_neg (fun z => c (by omega))]
def fl2 (k : Nat) : Nat := (k + 2) % 4
def fl1 (k : Nat) : Nat := k / 2 * 2 + (1 - k % 2)
theorem fl_n : ∀ k, k < 4 → fl2 k < 4 ∧ fl1 k < 4 ∧ nI k ^^^ 2 = nI (fl2 k) ∧ nI k ^^^ 1 = nI (fl1 k) ∧ nI k / 2 = nI (k / 2) ∧ nI k - nI k / 2 * 2 = nI (k % 2) ∧ 1 - nI (k / 2) = nI (fl2 k / 2) ∧ fl2 k % 2 = k % 2 ∧ fl1 k / 2 = k / 2 ∧ 1 - nI (k % 2) = nI (fl1 k % 2) ∧ 10 * (nI k >>> ((1 : Int32) &&& 31)) + (nI k &&& 1) = 10 * nI (k / 2) + nI (k % 2) := by decide +kernel
theorem cSteps (g : Nat) (a b : Int32) : fX4_steps g a b = some (stT a b) := by
  unfold fX4_steps fX4_rowOf fX4_columnOf
  simp only [bd1_s, abs_fa]
  rfl
def bdE (t : Nat → Nat) (a b N k : Nat) : Int32 := nI (daysT N (bidT t a b k) 3)
section PC14
variable {g : Nat} {t : Nat → Nat} {np nh na ns nd : Int32} {nc nk nf nl nse : Nat → Int32}
theorem WF.drI1 (w : WF t) {x h : Nat} (hh : h < t 1) : WF (drI x h t) := by
  unfold drI
  split
  · exact w.drop hh
  · exact w
theorem drI_ne {x h : Nat} {j : Nat} (e : j ≠ 13 + 5 * h) : drI x h t j = t j := by
  rw [drI_at, if_neg (fun z => e z.1)]
theorem vBid (w : WF t) (hg : big g) (R : RV t np nh na ns nd nc nk nf nl nse) {a b k N : Nat} (ha : a < t 1) (hb : b < t 1) (hab : a ≠ b) (hk : k < 4) (hN : N < 1000) (tx ty : Int32) (tc tk tf tl te : Nat → Int32) : ∃ o1 o2 o3 o4 o5 o6 o7 o8 o9 o10 o11 o12, fX4_endOfBids g (nI a) (nI b) (nI k) (nI N) np nh na ns nd nc nk nf nl nse tx ty tc tk tf tl te = some (bdE t a b N k, o1, o2, o3, o4, o5, o6, o7, o8, o9, o10, o11, o12) := by
  have h7 := w.2.1
  have hg' : 100000000000000000000 ≤ g := hg
  obtain ⟨c, kk, f, l, se, h1, R1⟩ := vThink (g := g) w R tc tk tf tl te
  obtain ⟨se', g1, g2, g3⟩ := vLt_L (g := g) (q := bq a b k) (bq_lt a (by omega) b (by omega) hab k hk) (t 1) 0 g t se w R1 (by omega) (by omega)
  have g1' : fX3_dropLetters g (nI (bq a b k)) nh se = some se' := by
    unfold fX3_dropLetters
    show bd1 (fX3_dropLetters_L2 g (nI (bq a b k)) nh g (nI 0) se) _ = _
    rw [g1, bd1_s]
  obtain ⟨x', y', se2, h2, R2⟩ := vDays (g := g) hg g2 g3 (N := N) hN tx ty
  refine ⟨np, nh, na, nI (daysT N (bidT t a b k) 3), nI (daysT N (bidT t a b k) 2), x', y', c, kk, f, l, se2, ?_⟩
  unfold fX4_endOfBids
  rw [h1, bd10_s, bq_set a (by omega) b (by omega) hab k hk, g1', bd1_s, h2, bd6_s]
  rfl
theorem mOff (w : WF t) (hg : big g) {a b h k N : Nat} (ha : a < t 1) (hb : b < t 1) (hh : h < t 1) (hab : a ≠ b) (hk : k < 4) (hN : N < 1000) {u : Nat → Nat} (hu : z45 u) : ∃ v, fX5_offBy g (nI h) (nI a) (nI (k / 2)) (nI b) (nI (k % 2)) (nI N) (rw1 t) (rw1 u) = some (stT (bdE t a b N k) (nI (cT t h)), rw1 v) ∧ z45 v := by
  have h7 := w.2.1
  have h6 := w.1
  have wa : WF (drI (k / 2) a t) := w.drI1 ha
  have e1 : drI (k / 2) a t 1 = t 1 := drI_ne (by omega)
  have wb : WF (drI (k % 2) b (drI (k / 2) a t)) := wa.drI1 (by rw [e1]; exact hb)
  have hp := (w.2.2.2.2.1 h hh).2.2.1
  have ne : ∀ j, j < 13 ∨ (j - 13) % 5 ≠ 0 → drI (k % 2) b (drI (k / 2) a t) j = t j := by
    intro j hj
    rw [drI_ne (by omega), drI_ne (by omega)]
  have ec : cT (daysT N (drI (k % 2) b (drI (k / 2) a t))) h = cT t h := by
    unfold cT daysT
    rw [days_ne _ _ _ (by omega) (by omega) (show 12 + 5 * h < 13 ∨ (12 + 5 * h - 13) % 5 ≠ 0 by omega), ne _ (show 12 + 5 * h < 13 ∨ (12 + 5 * h - 13) % 5 ≠ 0 by omega), days_ne _ _ _ (by omega) (by omega) (by omega), ne _ (by omega)]
  have e1b : drI (k % 2) b (drI (k / 2) a t) 1 = t 1 := ne 1 (by omega)
  have fin : bd1 (fX5_daysOn g (nI N) (rw1 (drI (k % 2) b (drI (k / 2) a t)))) (fun z => bd1 (fX5_cellOf g (nI h) z) (fun r => bd1 (fX5_steps g (z 3) r) (fun r2 => some (r2, z)))) = some (stT (bdE t a b N k) (nI (cT t h)), rw1 (daysT N (drI (k % 2) b (drI (k / 2) a t)))) := by
    have wd : WF (daysT N (drI (k % 2) b (drI (k / 2) a t))) := WF.days N 0 _ wb
    have e1d : daysT N (drI (k % 2) b (drI (k / 2) a t)) 1 = t 1 := by
      unfold daysT
      rw [days_ne _ _ _ (by omega) (by omega) (by omega), e1b]
    rw [mDays wb hg (by omega), bd1_s, mCellOf wd (h := h) (by rw [e1d]; exact hh), bd1_s, mSteps, bd1_s, ec]
    unfold bdE
    rw [bid_dd h7 ha hb hab hk]
  refine ⟨daysT N (drI (k % 2) b (drI (k / 2) a t)), ?_, (WF.days N 0 _ wb).z⟩
  have wa2 : WF (drT a t) := w.drop ha
  have ea2 : drT a t 1 = t 1 := updN_ne (by omega)
  have x1 : (nI (k / 2) = 1) = (k / 2 = 1) := n1 1 (by omega) (by decide)
  have x2 : (nI (k % 2) = 1) = (k % 2 = 1) := n1 1 (by omega) (by decide)
  unfold fX5_offBy
  rw [mCopies hg w.z hu, bd1_s]
  simp only [x1, x2]
  by_cases c1 : k / 2 = 1
  · have d1 : drI (k / 2) a t = drT a t := if_pos c1
    rw [if_pos c1, mDrop w ha, bd1_s]
    by_cases c2 : k % 2 = 1
    · have d2 : drI (k % 2) b (drI (k / 2) a t) = drT b (drT a t) := by rw [d1]; exact if_pos c2
      rw [if_pos c2, mDrop wa2 (by rw [ea2]; exact hb), bd1_s, ← d2]
      exact fin
    · have d2 : drI (k % 2) b (drI (k / 2) a t) = drT a t := by rw [d1]; exact if_neg c2
      rw [if_neg c2, ← d2]
      exact fin
  · have d1 : drI (k / 2) a t = t := if_neg c1
    rw [if_neg c1]
    by_cases c2 : k % 2 = 1
    · have d2 : drI (k % 2) b (drI (k / 2) a t) = drT b t := by rw [d1]; exact if_pos c2
      rw [if_pos c2, mDrop w hb, bd1_s, ← d2]
      exact fin
    · have d2 : drI (k % 2) b (drI (k / 2) a t) = t := by rw [d1]; exact if_neg c2
      rw [if_neg c2]
      rw [d2] at fin ⊢
      exact fin
theorem two_E (w : WF t) (hg : big g) (R : RV t np nh na ns nd nc nk nf nl nse) {a b N : Nat} (ha : a < t 1) (hb : b < t 1) (hab : a ≠ b) (hN : N < 1000) : ∀ (d k n : Nat) (tp th ta ts td tx ty : Int32) (tc tk tf tl te en : Nat → Int32), k + d = 4 → d < n → (∀ i, i < k → en i = bdE t a b N i) → ∃ o1 o2 o3 o4 o5 o6 o7 o8 o9 o10 o11 o12 e', fX4_two_L61 g (nI a) (nI b) (nI N) np nh na ns nd nc nk nf nl nse n (nI k) tp th ta ts td tx ty tc tk tf tl te en = some (o1, o2, o3, o4, o5, o6, o7, o8, o9, o10, o11, o12, e') ∧ ∀ i, i < 4 → e' i = bdE t a b N i := by
  intro d
  induction d with
  | zero =>
    intro k n tp th ta ts td tx ty tc tk tf tl te en hk hn he
    obtain ⟨n, rfl⟩ : ∃ m, n = m + 1 := ⟨n - 1, by omega⟩
    refine ⟨tp, th, ta, ts, td, tx, ty, tc, tk, tf, tl, te, en, ?_, fun i hi => he i (by omega)⟩
    show fX4_two_L61_b g (nI a) (nI b) (nI N) np nh na ns nd nc nk nf nl nse _ (nI k) tp th ta ts td tx ty tc tk tf tl te en = _
    unfold fX4_two_L61_b
    rw [if_pos (show (4 : Int32) ≤ nI k from nI_le (a := 4) (by omega) (by omega))]
  | succ d ih =>
    intro k n tp th ta ts td tx ty tc tk tf tl te en hk hn he
    obtain ⟨n, rfl⟩ : ∃ m, n = m + 1 := ⟨n - 1, by omega⟩
    obtain ⟨b1, b2, b3, b4, b5, b6, b7, b8, b9, b10, b11, b12, q⟩ := vBid (g := g) w hg R ha hb hab (k := k) (by omega) hN tx ty tc tk tf tl te
    show ∃ o1 o2 o3 o4 o5 o6 o7 o8 o9 o10 o11 o12 e', fX4_two_L61_b g (nI a) (nI b) (nI N) np nh na ns nd nc nk nf nl nse (fX4_two_L61 g (nI a) (nI b) (nI N) np nh na ns nd nc nk nf nl nse n) (nI k) tp th ta ts td tx ty tc tk tf tl te en = some (o1, o2, o3, o4, o5, o6, o7, o8, o9, o10, o11, o12, e') ∧ _
    unfold fX4_two_L61_b
    rw [if_neg (show ¬ (4 : Int32) ≤ nI k from nI_ge (b := 4) (by omega) (by omega)), q, bd13_s, gdn (by omega) (by decide), nI_clamp (by omega), nI_1]
    refine ih (k + 1) n _ _ _ _ _ _ _ _ _ _ _ _ _ (by omega) (by omega) (fun i hi => ?_)
    unfold upd
    by_cases e : i = k
    · rw [if_pos e, e]
    · rw [if_neg e]; exact he i (by omega)
theorem cKeep (w : WF t) (R : RV t np nh na ns nd nc nk nf nl nse) {a b h k N q : Nat} {bb : Int32} (hh : h < t 1) (hk : k < 4) (hq : q < 4) (hx : nI k ^^^ bb = nI q) {en : Nat → Int32} (he : ∀ i, i < 4 → en i = bdE t a b N i) : fX4_keepsBid g (nI h) (nI k) bb nc nl en = some (if stT (bdE t a b N q) (nI (cT t h)) < stT (bdE t a b N k) (nI (cT t h)) then 0 else 1) := by
  have h7 := w.2.1
  have h6 := w.1
  have hp := (w.2.2.2.2.1 h hh).2.2.1
  unfold fX4_keepsBid
  have ek : en k = bdE t a b N k := he k hk
  have eq : en q = bdE t a b N q := he q hq
  rw [gdn (by omega) (by decide)]
  simp only [nI_clamp (show h < 2 ^ 31 by omega), (R.2.2.2.2.2.2 h hh).2.2.1]
  rw [gdn (by omega) (by decide), gdn (by omega) (by decide), hx]
  simp only [gdn hq (show 4 < 2 ^ 31 by decide), nI_clamp (show t (12 + 5 * h) < 2 ^ 31 by omega), nI_clamp (show k < 2 ^ 31 by omega), nI_clamp (show q < 2 ^ 31 by omega), R.2.2.2.2.2.1 _ hp, ek, eq, cSteps, bd1_s]
  show (if stT (bdE t a b N q) (nI (cT t h)) < stT (bdE t a b N k) (nI (cT t h)) then some 0 else some 1) = _
  split <;> rfl
theorem two_L (w : WF t) (hg : big g) (R : RV t np nh na ns nd nc nk nf nl nse) {a b N : Nat} (ha : a < t 1) (hb : b < t 1) (hab : a ≠ b) (hN : N < 1000) {tp th ta ts td tx ty : Int32} {tc tk tf tl te en rf : Nat → Int32} (he : ∀ i, i < 4 → en i = bdE t a b N i) : ∀ (d k n n' : Nat) (u : Nat → Nat), z45 u → k + d = 4 → d < n → d < n' → ∃ u', z45 u' ∧ ((fX4_two_L96 g (nI a) (nI b) nc nl tp th ta ts td tx ty tc tk tf tl te en rf n (nI k) = some (.inl ()) ∧ fX5_two_L49 g (nI a) (nI b) (nI N) (rw1 t) rf n' (nI k) (rw1 u) = some (.inl (rw1 u'))) ∨ ∃ r, fX4_two_L96 g (nI a) (nI b) nc nl tp th ta ts td tx ty tc tk tf tl te en rf n (nI k) = some (.inr (r, tp, th, ta, ts, td, tx, ty, tc, tk, tf, tl, te, en, rf)) ∧ fX5_two_L49 g (nI a) (nI b) (nI N) (rw1 t) rf n' (nI k) (rw1 u) = some (.inr (r, rw1 u', rf))) := by
  intro d
  induction d with
  | zero =>
    intro k n n' u hu hk hn hn'
    obtain ⟨n, rfl⟩ : ∃ m, n = m + 1 := ⟨n - 1, by omega⟩
    obtain ⟨n', rfl⟩ : ∃ m, n' = m + 1 := ⟨n' - 1, by omega⟩
    refine ⟨u, hu, Or.inl ⟨?_, ?_⟩⟩
    · show fX4_two_L96_b g (nI a) (nI b) nc nl tp th ta ts td tx ty tc tk tf tl te en rf _ (nI k) = _
      unfold fX4_two_L96_b
      rw [if_pos (show (4 : Int32) ≤ nI k from nI_le (a := 4) (by omega) (by omega))]
    · show fX5_two_L49_b g (nI a) (nI b) (nI N) (rw1 t) rf _ (nI k) (rw1 u) = _
      unfold fX5_two_L49_b
      rw [if_pos (show (4 : Int32) ≤ nI k from nI_le (a := 4) (by omega) (by omega))]
  | succ d ih =>
    intro k n n' u hu hk hn hn'
    obtain ⟨n, rfl⟩ : ∃ m, n = m + 1 := ⟨n - 1, by omega⟩
    obtain ⟨n', rfl⟩ : ∃ m, n' = m + 1 := ⟨n' - 1, by omega⟩
    obtain ⟨f1, f2, f3, f4, f5, f6, f7, f8, f9, f10, f11⟩ := fl_n k (by omega)
    obtain ⟨v1, m1, z1⟩ := mOff (g := g) w hg ha hb ha hab (k := fl2 k) f1 hN hu
    obtain ⟨v2, m2, z2⟩ := mOff (g := g) w hg ha hb ha hab (k := k) (by omega) hN z1
    obtain ⟨v3, m3, z3⟩ := mOff (g := g) w hg ha hb hb hab (k := fl1 k) f2 hN z2
    obtain ⟨v4, m4, z4⟩ := mOff (g := g) w hg ha hb hb hab (k := k) (by omega) hN z3
    rw [f8] at m1
    rw [f9] at m3
    have c1 := cKeep (g := g) w R (a := a) (b := b) (N := N) ha (show k < 4 by omega) f1 f3 he
    have c2 := cKeep (g := g) w R (a := a) (b := b) (N := N) hb (show k < 4 by omega) f2 f4 he
    have s1 : fX4_two_L96 g (nI a) (nI b) nc nl tp th ta ts td tx ty tc tk tf tl te en rf (n + 1) (nI k) = fX4_two_L96_b g (nI a) (nI b) nc nl tp th ta ts td tx ty tc tk tf tl te en rf (fX4_two_L96 g (nI a) (nI b) nc nl tp th ta ts td tx ty tc tk tf tl te en rf n) (nI k) := rfl
    have s2 : fX5_two_L49 g (nI a) (nI b) (nI N) (rw1 t) rf (n' + 1) (nI k) (rw1 u) = fX5_two_L49_b g (nI a) (nI b) (nI N) (rw1 t) rf (fX5_two_L49 g (nI a) (nI b) (nI N) (rw1 t) rf n') (nI k) (rw1 u) := rfl
    rw [s1, s2]
    unfold fX4_two_L96_b fX5_two_L49_b
    rw [if_neg (show ¬ (4 : Int32) ≤ nI k from nI_ge (b := 4) (by omega) (by omega)), if_neg (show ¬ (4 : Int32) ≤ nI k from nI_ge (b := 4) (by omega) (by omega)), c1, bd1_s, f6, f5, f7, m1, bd2_s, m2, bd2_s, nI_1]
    by_cases e1 : stT (bdE t a b N (fl2 k)) (nI (cT t a)) < stT (bdE t a b N k) (nI (cT t a))
    · rw [if_pos e1, if_pos z00, if_pos e1]
      exact ih (k + 1) n n' v2 z2 (by omega) (by omega) (by omega)
    · rw [if_neg e1, if_neg z10, if_neg e1, c2, bd1_s, f10, m3, bd2_s, m4, bd2_s]
      by_cases e2 : stT (bdE t a b N (fl1 k)) (nI (cT t b)) < stT (bdE t a b N k) (nI (cT t b))
      · rw [if_pos e2, if_pos z00, if_pos e2]
        exact ih (k + 1) n n' v4 z4 (by omega) (by omega) (by omega)
      · rw [if_neg e2, if_neg z10, if_neg e2, f11]
        exact ⟨v4, z4, Or.inr ⟨_, rfl, rfl⟩⟩
theorem oTwo (w : WF t) (hg : big g) (R : RV t np nh na ns nd nc nk nf nl nse) (rf : Nat → Int32) (p0 p1 p2 : Int32) (tp th ta ts td tx ty : Int32) (tc tk tf tl te en : Nat → Int32) {u : Nat → Nat} (hu : z45 u) : ∃ r u' rf' o1 o2 o3 o4 o5 o6 o7 o8 o9 o10 o11 o12 e', fX4_two g p0 p1 p2 np nh na ns nd nc nk nf nl nse tp th ta ts td tx ty tc tk tf tl te en rf = some (r, o1, o2, o3, o4, o5, o6, o7, o8, o9, o10, o11, o12, e', rf') ∧ fX5_two g p0 p1 p2 (rw1 t) (rw1 u) rf = some (r, rw1 u', rf') ∧ z45 u' := by
  have h7 := w.2.1
  have hg' : 100000000000000000000 ≤ g := hg
  unfold fX4_two fX5_two
  rw [cNoHand, bd1_s, cNoHand, bd1_s, cFirst, bd1_s, R.2.1]
  have bad : foF (nhF p0 (nI (t 1))) (nhF p1 (nI (t 1))) = -1 → ∀ X Y, (if p0 = p1 then (bd1 (fX4_firstOf g (foF (nhF p0 (nI (t 1))) (nhF p1 (nI (t 1)))) (-1)) fun r112 => bd1 (fX4_outside g p2 0 30) fun r114 => bd1 (fX4_firstOf g r112 r114) fun r116 => if r116 = 0 then X else bd2 (fX4_refuse g r116 rf) fun r137 z => some (r137, tp, th, ta, ts, td, tx, ty, tc, tk, tf, tl, te, en, z)) else (bd1 (fX4_firstOf g (foF (nhF p0 (nI (t 1))) (nhF p1 (nI (t 1)))) 0) fun r61 => bd1 (fX4_outside g p2 0 30) fun r63 => bd1 (fX4_firstOf g r61 r63) fun r65 => if r65 = 0 then Y else bd2 (fX4_refuse g r65 rf) fun r109 z => some (r109, tp, th, ta, ts, td, tx, ty, tc, tk, tf, tl, te, en, z))) = some ((-1 : Int32), tp, th, ta, ts, td, tx, ty, tc, tk, tf, tl, te, en, rfz (-1) rf) := by
    intro h X Y
    rw [h]
    split <;> rw [cFirst, bd1_s, cOut, bd1_s, cFirst, bd1_s, fo_n ok1, fo_n ok1, if_neg zm1, rZ4 ok1, bd2_s]
  rcases tri_or p0 (n := t 1) (by omega) with h | ⟨i, hi, rfl⟩
  · refine ⟨-1, u, rfz (-1) rf, tp, th, ta, ts, td, tx, ty, tc, tk, tf, tl, te, en, bad (by rw [nh_bad (by omega) h, fo_n ok1]) _ _, ?_, hu⟩
    rw [mHd_bad w h, bd1_s, if_pos z00, if_neg zm1, rZ5 ok1, bd2_s]
  · rcases tri_or p1 (n := t 1) (by omega) with h | ⟨j, hj, rfl⟩
    · refine ⟨-1, u, rfz (-1) rf, tp, th, ta, ts, td, tx, ty, tc, tk, tf, tl, te, en, bad (by rw [nh_ok hi (by omega), fo_0, nh_bad (by omega) h]) _ _, ?_, hu⟩
      rw [mHd_ok w hi, bd1_s, if_neg z10, mHd_bad w h, bd1_s, if_pos z00, if_neg zm1, rZ5 ok1, bd2_s]
    · rw [nh_ok hi (by omega), nh_ok hj (by omega), fo_0, mHd_ok w hi, bd1_s, if_neg z10, mHd_ok w hj, bd1_s, if_neg z10]
      by_cases e : i = j
      · subst e
        refine ⟨-1, u, rfz (-1) rf, tp, th, ta, ts, td, tx, ty, tc, tk, tf, tl, te, en, ?_, ?_, hu⟩
        · rw [if_pos rfl, cFirst, bd1_s, cOut, bd1_s, cFirst, bd1_s, fo_0, fo_n ok1, if_neg zm1, rZ4 ok1, bd2_s]
        · rw [if_pos rfl, if_neg zm1, rZ5 ok1, bd2_s]
      · have en1 : ¬ nI i = nI j := fun h => e ((nI_eq (by omega) (by omega)).mp h)
        rw [if_neg en1, if_neg en1, cFirst, bd1_s, cOut, bd1_s, cFirst, bd1_s, fo_0, fo_0, mWrong, bd1_s]
        rcases ou_or p2 (a := 0) (b := 30) (by omega) (by omega) with h | ⟨N, -, hN, rfl, h0⟩
        · have h : okc (ouF p2 0 30) := h
          refine ⟨ouF p2 0 30, u, rfz (ouF p2 0 30) rf, tp, th, ta, ts, td, tx, ty, tc, tk, tf, tl, te, en, ?_, ?_, hu⟩
          · rw [if_neg (okc_n h), rZ4 h, bd2_s]
          · rw [if_neg (okc_n h), rZ5 h, bd2_s]
        · have h0 : ouF (nI N) 0 30 = 0 := h0
          obtain ⟨o1, o2, o3, o4, o5, o6, o7, o8, o9, o10, o11, o12, e', q1, q2⟩ := two_E (g := g) w hg R hi hj e (N := N) (by omega) 4 0 g tp th ta ts td tx ty tc tk tf tl te en (by omega) (by omega) (fun i h => by omega)
          have q1 : fX4_two_L61 g (nI i) (nI j) (nI N) np nh na ns nd nc nk nf nl nse g 0 tp th ta ts td tx ty tc tk tf tl te en = some (o1, o2, o3, o4, o5, o6, o7, o8, o9, o10, o11, o12, e') := q1
          obtain ⟨v, hv, q3⟩ := two_L (g := g) w hg R hi hj e (N := N) (by omega) (tp := o1) (th := o2) (ta := o3) (ts := o4) (td := o5) (tx := o6) (ty := o7) (tc := o8) (tk := o9) (tf := o10) (tl := o11) (te := o12) (rf := rf) q2 4 0 g g u hu (by omega) (by omega) (by omega)
          rw [h0, if_pos z00, if_pos z00, ← R.2.1, q1, bd13_s]
          rcases q3 with ⟨q4, q5⟩ | ⟨r, q4, q5⟩
          · have q4 : fX4_two_L96 g (nI i) (nI j) nc nl o1 o2 o3 o4 o5 o6 o7 o8 o9 o10 o11 o12 e' rf g 0 = some (.inl ()) := q4
            have q5 : fX5_two_L49 g (nI i) (nI j) (nI N) (rw1 t) rf g 0 (rw1 u) = some (.inl (rw1 v)) := q5
            rw [q4, q5]
            exact ⟨-9, v, rf, o1, o2, o3, o4, o5, o6, o7, o8, o9, o10, o11, o12, e', rfl, rfl, hv⟩
          · have q4 : fX4_two_L96 g (nI i) (nI j) nc nl o1 o2 o3 o4 o5 o6 o7 o8 o9 o10 o11 o12 e' rf g 0 = some (.inr (r, o1, o2, o3, o4, o5, o6, o7, o8, o9, o10, o11, o12, e', rf)) := q4
            have q5 : fX5_two_L49 g (nI i) (nI j) (nI N) (rw1 t) rf g 0 (rw1 u) = some (.inr (r, rw1 v, rf)) := q5
            rw [q4, q5]
            exact ⟨r, v, rf, o1, o2, o3, o4, o5, o6, o7, o8, o9, o10, o11, o12, e', rfl, rfl, hv⟩
end PC14
