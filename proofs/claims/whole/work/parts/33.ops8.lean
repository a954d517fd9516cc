/-! ===== pure level: the calls, class beside model (8): crew, letters; laid by mkops8.py ===== -/
def hrw (b : Bool) (q : Nat) (t : Nat → Nat) : Nat → Nat := if b = true then ltT q t else crT q t
def HT (b : Bool) (t : Nat → Nat) (p N q : Nat) : Prop := ¬ cmT (t (4 + p)) N (hrw b q t) = -9
def flg (b : Bool) (f : Int32) : Prop := (b = false ∧ f = 0) ∨ (b = true ∧ f = 1)
theorem Best.keep {P : Nat → Prop} {k : Nat} {r : Int32} (h : Best P k r) (hp : ¬ P k) : Best P (k + 1) r := by
  rcases h with ⟨rfl, h⟩ | ⟨F, hF, rfl, pF, h⟩
  · refine Or.inl ⟨rfl, fun q hq => ?_⟩
    by_cases e : q = k
    · subst e; exact hp
    · exact h q (by omega)
  · refine Or.inr ⟨F, by omega, rfl, pF, fun q hq hP => ?_⟩
    by_cases e : q = k
    · subst e; exact absurd hP hp
    · exact h q (by omega) hP
theorem Best.first {P : Nat → Prop} {k : Nat} (h : Best P k (-9)) (hk : k < 2 ^ 31) (hp : P k) : Best P (k + 1) (nI k) := by
  rcases h with ⟨-, h⟩ | ⟨F, hF, e, pF, h⟩
  · refine Or.inr ⟨k, by omega, rfl, hp, fun q hq hP => ?_⟩
    by_cases e : q = k
    · subst e; exact Or.inr ⟨rfl, Nat.le_refl _⟩
    · exact absurd hP (h q (by omega))
  · exact absurd e.symm (n9 (by omega))
theorem Best.stay {P : Nat → Prop} {k F : Nat} (hk : k < 2 ^ 31) (hF : F < k) (h : Best P k (nI F)) (hp : pcN F ≤ pcN k) : Best P (k + 1) (nI F) := by
  rcases h with ⟨e, h⟩ | ⟨F', hF', e, pF, h⟩
  · exact absurd e (n9 (by omega))
  · have e2 : F = F' := (nI_eq (by omega) (by omega)).mp e
    subst e2
    refine Or.inr ⟨F, by omega, rfl, pF, fun q hq hP => ?_⟩
    by_cases e : q = k
    · subst e; omega
    · exact h q (by omega) hP
theorem Best.less {P : Nat → Prop} {k F : Nat} (hk : k < 2 ^ 31) (hF : F < k) (h : Best P k (nI F)) (hp : pcN k < pcN F) (pk : P k) : Best P (k + 1) (nI k) := by
  rcases h with ⟨e, h⟩ | ⟨F', hF', e, pF, h⟩
  · exact absurd e (n9 (by omega))
  · have e2 : F = F' := (nI_eq (by omega) (by omega)).mp e
    subst e2
    refine Or.inr ⟨k, by omega, rfl, pk, fun q hq hP => ?_⟩
    by_cases e : q = k
    · subst e; exact Or.inr ⟨rfl, Nat.le_refl _⟩
    · have := h q (by omega) hP; omega
theorem Best.or {P : Nat → Prop} {k : Nat} {r : Int32} (h : Best P k r) : r = -9 ∨ ∃ F, F < k ∧ r = nI F := by
  rcases h with ⟨e, _⟩ | ⟨F, hF, e, _⟩
  · exact Or.inl e
  · exact Or.inr ⟨F, hF, e⟩
section PC8
variable {g : Nat} {t : Nat → Nat} {np nh na ns nd : Int32} {nc nk nf nl nse : Nat → Int32}
theorem WF.ltI (w : WF t) {q : Nat} : ∀ (d k : Nat) (m : Nat → Nat), WF m → m 1 = t 1 → k + d ≤ t 1 → WF (it (ltS q) d k m)
  | 0, _, _, wm, _, _ => wm
  | d + 1, k, m, wm, hm, h => WF.ltI w d (k + 1) _ (WF.lts1 wm (by omega)) (by rw [ltS_ne (by omega)]; exact hm) (by omega)
theorem WF.hrw1 (w : WF t) (b : Bool) (q : Nat) : WF (hrw b q t) := by
  unfold hrw
  split
  · exact WF.ltI w (t 1) 0 t w rfl (by omega)
  · exact w.cr q
theorem hrw_ne (w : WF t) {b : Bool} {q j : Nat} (e : j < 13) : hrw b q t j = t j := by
  unfold hrw
  split
  · unfold ltT; exact ltI_ne _ _ _ (by omega)
  · exact crT_ne (by omega)
theorem vBrings (w : WF t) (hg : big g) (R : RV t np nh na ns nd nc nk nf nl nse) {b : Bool} {fl : Int32} (hf : flg b fl) {p N q : Nat} (hp : p < t 0) (hN : N < 1000) (hq : q < 2 ^ t 1) (tx ty : Int32) (tc tk tf tl te : Nat → Int32) : ∃ r o1 o2 o3 o4 o5 o6 o7 o8 o9 o10 o11 o12, fX4_bringsThere g (nI q) (nI p) (nI N) fl np nh na ns nd nc nk nf nl nse tx ty tc tk tf tl te = some (r, o1, o2, o3, o4, o5, o6, o7, o8, o9, o10, o11, o12) ∧ ((r = 1 ∧ HT b t p N q) ∨ (r = 0 ∧ ¬ HT b t p N q)) := by
  have h7 := w.2.1
  have h6 := w.1
  have h128 := p7 h7
  have hg' : 100000000000000000000 ≤ g := hg
  obtain ⟨c, k, f, l, se, h1, R1⟩ := vThink (g := g) w R tc tk tf tl te
  have e0 : hrw b q t 0 = t 0 := hrw_ne w (by omega)
  have e4 : hrw b q t (4 + p) = t (4 + p) := hrw_ne w (by omega)
  unfold fX4_bringsThere HT
  rw [h1, bd10_s]
  rcases hf with ⟨rfl, rfl⟩ | ⟨rfl, rfl⟩
  · have R2 := R1.abd w (t' := crT q t) (fun j e => crT_ne e)
    rw [← cr_ab w hq] at R2
    obtain ⟨c1, c2, c3, c4, c5, h2⟩ := vReach (g := g) hg (w.cr q) R2 (p := p) (W := N) (by rw [crT_ne (by omega)]; exact hp) hN tx ty
    rw [crT_ne (show 4 + p < 14 ∨ _ by omega)] at h2
    rw [if_pos z00, h2, bd6_s]
    by_cases e : cmT (t (4 + p)) N (crT q t) = -9
    · rw [if_pos e]
      exact ⟨0, _, _, _, _, _, _, _, _, _, _, _, _, rfl, Or.inr ⟨rfl, fun h => h e⟩⟩
    · rw [if_neg e]
      exact ⟨1, _, _, _, _, _, _, _, _, _, _, _, _, rfl, Or.inl ⟨rfl, e⟩⟩
  · obtain ⟨se', g1, g2, g3⟩ := vLt_L (g := g) (q := q) (by omega) (t 1) 0 g t se w R1 (by omega) (by omega)
    have g1' : fX3_dropLetters g (nI q) nh se = some se' := by
      unfold fX3_dropLetters
      show bd1 (fX3_dropLetters_L2 g (nI q) nh g (nI 0) se) _ = _
      rw [g1, bd1_s]
    obtain ⟨c1, c2, c3, c4, c5, h2⟩ := vReach (g := g) hg g2 g3 (p := p) (W := N) (by rw [ltI_ne _ _ _ (by omega)]; exact hp) hN tx ty
    rw [ltI_ne _ _ _ (show 4 + p < 13 ∨ _ by omega)] at h2
    rw [if_neg z10, g1', bd1_s, h2, bd6_s]
    by_cases e : cmT (t (4 + p)) N (it (ltS q) (t 1) 0 t) = -9
    · rw [if_pos e]
      exact ⟨0, _, _, _, _, _, _, _, _, _, _, _, _, rfl, Or.inr ⟨rfl, fun h => h e⟩⟩
    · rw [if_neg e]
      exact ⟨1, _, _, _, _, _, _, _, _, _, _, _, _, rfl, Or.inl ⟨rfl, e⟩⟩
theorem few_L (w : WF t) (hg : big g) (R : RV t np nh na ns nd nc nk nf nl nse) {b : Bool} {fl : Int32} (hf : flg b fl) {p N s : Nat} (hp : p < t 0) (hN : N < 1000) (hs : s < 1000) : ∀ (d k n : Nat) (tp th ta ts td tx ty : Int32) (tc tk tf tl te : Nat → Int32), k + d = 2 ^ t 1 → d < n → ∃ z, fX4_fewestHands_L29 g (nI p) (nI N) fl (nI (2 ^ t 1)) (nI s) np nh na ns nd nc nk nf nl nse n (nI k) tp th ta ts td tx ty tc tk tf tl te = some z ∧ ((∃ o1 o2 o3 o4 o5 o6 o7 o8 o9 o10 o11 o12, z = .inl (o1, o2, o3, o4, o5, o6, o7, o8, o9, o10, o11, o12) ∧ ∀ q, k ≤ q → q < 2 ^ t 1 → pcN q = s → ¬ HT b t p N q) ∨ ∃ F o1 o2 o3 o4 o5 o6 o7 o8 o9 o10 o11 o12, z = .inr (nI F, o1, o2, o3, o4, o5, o6, o7, o8, o9, o10, o11, o12) ∧ k ≤ F ∧ F < 2 ^ t 1 ∧ pcN F = s ∧ HT b t p N F ∧ ∀ q, k ≤ q → q < F → pcN q = s → ¬ HT b t p N q) := by
  have h7 := w.2.1
  have h128 := p7 h7
  intro d
  induction d with
  | zero =>
    intro k n tp th ta ts td tx ty tc tk tf tl te hk hn
    obtain ⟨n, rfl⟩ : ∃ m, n = m + 1 := ⟨n - 1, by omega⟩
    refine ⟨.inl (tp, th, ta, ts, td, tx, ty, tc, tk, tf, tl, te), ?_, Or.inl ⟨tp, th, ta, ts, td, tx, ty, tc, tk, tf, tl, te, rfl, fun q h1 h2 => by omega⟩⟩
    show fX4_fewestHands_L29_b g (nI p) (nI N) fl (nI (2 ^ t 1)) (nI s) np nh na ns nd nc nk nf nl nse _ (nI k) tp th ta ts td tx ty tc tk tf tl te = _
    unfold fX4_fewestHands_L29_b
    rw [if_pos (nI_le (by omega) (by omega))]
  | succ d ih =>
    intro k n tp th ta ts td tx ty tc tk tf tl te hk hn
    obtain ⟨n, rfl⟩ : ∃ m, n = m + 1 := ⟨n - 1, by omega⟩
    show ∃ z, fX4_fewestHands_L29_b g (nI p) (nI N) fl (nI (2 ^ t 1)) (nI s) np nh na ns nd nc nk nf nl nse (fX4_fewestHands_L29 g (nI p) (nI N) fl (nI (2 ^ t 1)) (nI s) np nh na ns nd nc nk nf nl nse n) (nI k) tp th ta ts td tx ty tc tk tf tl te = some z ∧ _
    have pcl : pcN k < 1000 := by have := pc_le (t 1) h7 k (by omega); omega
    unfold fX4_fewestHands_L29_b
    rw [if_neg (nI_ge (by omega) (by omega)), vBits (by omega), bd1_s, nI_1]
    by_cases e : pcN k = s
    · rw [if_pos (show nI (pcN k) = nI s by rw [e])]
      obtain ⟨r, b1, b2, b3, b4, b5, b6, b7, b8, b9, b10, b11, b12, v1, v2⟩ := vBrings (g := g) w hg R hf hp hN (q := k) (by omega) tx ty tc tk tf tl te
      rw [v1, bd13_s]
      rcases v2 with ⟨rfl, hh⟩ | ⟨rfl, hh⟩
      · rw [if_neg z10]
        exact ⟨_, rfl, Or.inr ⟨k, _, _, _, _, _, _, _, _, _, _, _, _, rfl, by omega, by omega, e, hh, fun q h1 h2 => by omega⟩⟩
      · rw [if_pos z00]
        obtain ⟨z, z1, z2⟩ := ih (k + 1) n b1 b2 b3 b4 b5 b6 b7 b8 b9 b10 b11 b12 (by omega) (by omega)
        refine ⟨z, z1, ?_⟩
        rcases z2 with ⟨o1, o2, o3, o4, o5, o6, o7, o8, o9, o10, o11, o12, z3, z4⟩ | ⟨F, o1, o2, o3, o4, o5, o6, o7, o8, o9, o10, o11, o12, z3, z4, z5, z6, z7, z8⟩
        · refine Or.inl ⟨o1, o2, o3, o4, o5, o6, o7, o8, o9, o10, o11, o12, z3, fun q h1 h2 h3 => ?_⟩
          by_cases e2 : q = k
          · subst e2; exact hh
          · exact z4 q (by omega) h2 h3
        · refine Or.inr ⟨F, o1, o2, o3, o4, o5, o6, o7, o8, o9, o10, o11, o12, z3, by omega, z5, z6, z7, fun q h1 h2 h3 => ?_⟩
          by_cases e2 : q = k
          · subst e2; exact hh
          · exact z8 q (by omega) h2 h3
    · rw [if_neg (fun h => e ((nI_eq (by omega) (by omega)).mp h))]
      obtain ⟨z, z1, z2⟩ := ih (k + 1) n tp th ta ts td tx ty tc tk tf tl te (by omega) (by omega)
      refine ⟨z, z1, ?_⟩
      rcases z2 with ⟨o1, o2, o3, o4, o5, o6, o7, o8, o9, o10, o11, o12, z3, z4⟩ | ⟨F, o1, o2, o3, o4, o5, o6, o7, o8, o9, o10, o11, o12, z3, z4, z5, z6, z7, z8⟩
      · refine Or.inl ⟨o1, o2, o3, o4, o5, o6, o7, o8, o9, o10, o11, o12, z3, fun q h1 h2 h3 => ?_⟩
        by_cases e2 : q = k
        · subst e2; exact absurd h3 e
        · exact z4 q (by omega) h2 h3
      · refine Or.inr ⟨F, o1, o2, o3, o4, o5, o6, o7, o8, o9, o10, o11, o12, z3, by omega, z5, z6, z7, fun q h1 h2 h3 => ?_⟩
        by_cases e2 : q = k
        · subst e2; exact absurd h3 e
        · exact z8 q (by omega) h2 h3
theorem few_L2 (w : WF t) (hg : big g) (R : RV t np nh na ns nd nc nk nf nl nse) {b : Bool} {fl : Int32} (hf : flg b fl) {p N : Nat} (hp : p < t 0) (hN : N < 1000) : ∀ (d s n : Nat) (tp th ta ts td tx ty : Int32) (tc tk tf tl te : Nat → Int32), s + d = t 1 + 1 → d < n → (∀ q, q < 2 ^ t 1 → pcN q < s → ¬ HT b t p N q) → ∃ z, fX4_fewestHands_L14 g (nI p) (nI N) fl (nI (2 ^ t 1)) np nh na ns nd nc nk nf nl nse n (nI s) tp th ta ts td tx ty tc tk tf tl te = some z ∧ ((∃ o1 o2 o3 o4 o5 o6 o7 o8 o9 o10 o11 o12, z = .inl (o1, o2, o3, o4, o5, o6, o7, o8, o9, o10, o11, o12) ∧ Best (HT b t p N) (2 ^ t 1) (-9)) ∨ ∃ r o1 o2 o3 o4 o5 o6 o7 o8 o9 o10 o11 o12, z = .inr (r, o1, o2, o3, o4, o5, o6, o7, o8, o9, o10, o11, o12) ∧ Best (HT b t p N) (2 ^ t 1) r) := by
  have h7 := w.2.1
  have h128 := p7 h7
  have hg' : 100000000000000000000 ≤ g := hg
  intro d
  induction d with
  | zero =>
    intro s n tp th ta ts td tx ty tc tk tf tl te hk hn hno
    obtain ⟨n, rfl⟩ : ∃ m, n = m + 1 := ⟨n - 1, by omega⟩
    refine ⟨.inl (tp, th, ta, ts, td, tx, ty, tc, tk, tf, tl, te), ?_, Or.inl ⟨tp, th, ta, ts, td, tx, ty, tc, tk, tf, tl, te, rfl, Or.inl ⟨rfl, fun q hq => hno q hq (by have := pc_le (t 1) h7 q hq; omega)⟩⟩⟩
    show fX4_fewestHands_L14_b g (nI p) (nI N) fl (nI (2 ^ t 1)) np nh na ns nd nc nk nf nl nse _ (nI s) tp th ta ts td tx ty tc tk tf tl te = _
    unfold fX4_fewestHands_L14_b
    rw [R.2.1, if_pos (nI_lt (by omega) (by omega))]
  | succ d ih =>
    intro s n tp th ta ts td tx ty tc tk tf tl te hk hn hno
    obtain ⟨n, rfl⟩ : ∃ m, n = m + 1 := ⟨n - 1, by omega⟩
    show ∃ z, fX4_fewestHands_L14_b g (nI p) (nI N) fl (nI (2 ^ t 1)) np nh na ns nd nc nk nf nl nse (fX4_fewestHands_L14 g (nI p) (nI N) fl (nI (2 ^ t 1)) np nh na ns nd nc nk nf nl nse n) (nI s) tp th ta ts td tx ty tc tk tf tl te = some z ∧ _
    obtain ⟨z, z1, z2⟩ := few_L (g := g) w hg R hf hp hN (s := s) (by omega) (2 ^ t 1) 0 g tp th ta ts td tx ty tc tk tf tl te (by omega) (by omega)
    have z1 : fX4_fewestHands_L29 g (nI p) (nI N) fl (nI (2 ^ t 1)) (nI s) np nh na ns nd nc nk nf nl nse g 0 tp th ta ts td tx ty tc tk tf tl te = some z := z1
    unfold fX4_fewestHands_L14_b
    rw [if_neg (show ¬ nh < nI s by rw [R.2.1]; exact nI_nlt (by omega) (by omega)), z1, nI_1]
    rcases z2 with ⟨o1, o2, o3, o4, o5, o6, o7, o8, o9, o10, o11, o12, rfl, z4⟩ | ⟨F, o1, o2, o3, o4, o5, o6, o7, o8, o9, o10, o11, o12, rfl, -, z5, z6, z7, z8⟩
    · show ∃ z, fX4_fewestHands_L14 g (nI p) (nI N) fl (nI (2 ^ t 1)) np nh na ns nd nc nk nf nl nse n (nI (s + 1)) o1 o2 o3 o4 o5 o6 o7 o8 o9 o10 o11 o12 = some z ∧ _
      refine ih (s + 1) n o1 o2 o3 o4 o5 o6 o7 o8 o9 o10 o11 o12 (by omega) (by omega) (fun q hq hs => ?_)
      by_cases e : pcN q = s
      · exact z4 q (by omega) hq e
      · exact hno q hq (by omega)
    · refine ⟨_, rfl, Or.inr ⟨nI F, o1, o2, o3, o4, o5, o6, o7, o8, o9, o10, o11, o12, rfl, Or.inr ⟨F, z5, rfl, z7, fun q hq hP => ?_⟩⟩⟩
      by_cases e : pcN q = s
      · by_cases e2 : q < F
        · exact absurd hP (z8 q (by omega) e2 e)
        · exact Or.inr ⟨by omega, by omega⟩
      · by_cases e2 : pcN q < s
        · exact absurd hP (hno q hq e2)
        · exact Or.inl (by omega)
theorem vFew (w : WF t) (hg : big g) (R : RV t np nh na ns nd nc nk nf nl nse) {b : Bool} {fl : Int32} (hf : flg b fl) {p N : Nat} (hp : p < t 0) (hN : N < 1000) (tp th ta ts td tx ty : Int32) (tc tk tf tl te : Nat → Int32) : ∃ r o1 o2 o3 o4 o5 o6 o7 o8 o9 o10 o11 o12, fX4_fewestHands g (nI p) (nI N) fl np nh na ns nd nc nk nf nl nse tp th ta ts td tx ty tc tk tf tl te = some (r, o1, o2, o3, o4, o5, o6, o7, o8, o9, o10, o11, o12) ∧ Best (HT b t p N) (2 ^ t 1) r := by
  have h7 := w.2.1
  have hg' : 100000000000000000000 ≤ g := hg
  obtain ⟨z, z1, z2⟩ := few_L2 (g := g) w hg R hf hp hN (t 1 + 1) 0 g tp th ta ts td tx ty tc tk tf tl te (by omega) (by omega) (fun q _ h => by omega)
  unfold fX4_fewestHands
  have e1 : ((1 : Int32) <<< (nh &&& 31)) = nI (2 ^ t 1) := by rw [R.2.1]; exact sh7 (t 1) h7
  rw [e1]
  show ∃ r o1 o2 o3 o4 o5 o6 o7 o8 o9 o10 o11 o12, bs12 (fX4_fewestHands_L14 g (nI p) (nI N) fl (nI (2 ^ t 1)) np nh na ns nd nc nk nf nl nse g (nI 0) tp th ta ts td tx ty tc tk tf tl te) _ _ = _ ∧ _
  rw [z1]
  rcases z2 with ⟨o1, o2, o3, o4, o5, o6, o7, o8, o9, o10, o11, o12, rfl, hb⟩ | ⟨r, o1, o2, o3, o4, o5, o6, o7, o8, o9, o10, o11, o12, rfl, hb⟩
  · exact ⟨-9, o1, o2, o3, o4, o5, o6, o7, o8, o9, o10, o11, o12, rfl, hb⟩
  · exact ⟨r, o1, o2, o3, o4, o5, o6, o7, o8, o9, o10, o11, o12, rfl, hb⟩
theorem mWrongFor (w : WF t) (p0 p1 : Int32) : fX5_wrongFor g p0 p1 (rw1 t) = some (foF (nhF p0 (nI (t 0))) (ouF p1 0 30)) := by
  have h6 := w.1
  unfold fX5_wrongFor
  rcases tri_or p0 (n := t 0) (by omega) with h | ⟨j, hj, rfl⟩
  · rw [mPl_bad w h, bd1_s, if_pos z00, nh_bad (by omega) h, fo_n ok1]
  · rw [mPl_ok w hj, bd1_s, if_neg z10, mWrong, bd1_s, nh_ok hj (by omega), fo_0]

theorem mcrew_L (w : WF t) (hg : big g) {p N : Nat} (hp : p < t 0) (hN : N < 1000) : ∀ (d k n : Nat) (a : Int32) (u : Nat → Nat), z45 u → k + d = 2 ^ t 1 → d < n → Best (HT false t p N) k a → ∃ r v, fX5_crew_L24 g (nI p) (nI N) (rw1 t) n a (nI k) (rw1 u) = some (r, rw1 v) ∧ z45 v ∧ Best (HT false t p N) (2 ^ t 1) r := by
  have h7 := w.2.1
  have h6 := w.1
  have h128 := p7 h7
  have h4 := w.2.2.2.1 p hp
  have hg' : 100000000000000000000 ≤ g := hg
  have e1 : ((1 : Int32) <<< (rw1 t 1 &&& 31)) = nI (2 ^ t 1) := sh7 (t 1) h7
  intro d
  induction d with
  | zero =>
    intro k n a u hu hk hn hb
    obtain ⟨n, rfl⟩ : ∃ m, n = m + 1 := ⟨n - 1, by omega⟩
    refine ⟨a, u, ?_, hu, by rw [show 2 ^ t 1 = k by omega]; exact hb⟩
    show fX5_crew_L24_b g (nI p) (nI N) (rw1 t) _ a (nI k) (rw1 u) = _
    unfold fX5_crew_L24_b
    rw [e1, if_pos (nI_le (by omega) (by omega))]
  | succ d ih =>
    intro k n a u hu hk hn hb
    obtain ⟨n, rfl⟩ : ∃ m, n = m + 1 := ⟨n - 1, by omega⟩
    show ∃ r v, fX5_crew_L24_b g (nI p) (nI N) (rw1 t) (fX5_crew_L24 g (nI p) (nI N) (rw1 t) n) a (nI k) (rw1 u) = some (r, rw1 v) ∧ z45 v ∧ _
    have fin : (∃ F, F < k ∧ a = nI F ∧ pcN k < pcN F) ∨ a = -9 → ∃ r v, bd1 (fX5_copies g (rw1 t) (rw1 u)) (fun z_m_14 => bd1 (fX5_crew_L72 g (nI k) (rw1 t) g 0 z_m_14) (fun t20 => gd (inB (4 + nI p) 45) (bd2 (fX5_comesIn g (rw1 t (4 + nI p).toNatClampNeg) (nI N) t20) (fun r22 z_m_23 => if r22 < 0 then fX5_crew_L24 g (nI p) (nI N) (rw1 t) n a (nI (k + 1)) z_m_23 else fX5_crew_L24 g (nI p) (nI N) (rw1 t) n (nI k) (nI (k + 1)) z_m_23)))) = some (r, rw1 v) ∧ z45 v ∧ Best (HT false t p N) (2 ^ t 1) r := by
      intro hc
      have hit : ∃ v, bd1 (fX5_crew_L72 g (nI k) (rw1 t) g 0 (rw1 t)) (fun t20 => gd (inB (4 + nI p) 45) (bd2 (fX5_comesIn g (rw1 t (4 + nI p).toNatClampNeg) (nI N) t20) (fun r22 z_m_23 => if r22 < 0 then fX5_crew_L24 g (nI p) (nI N) (rw1 t) n a (nI (k + 1)) z_m_23 else fX5_crew_L24 g (nI p) (nI N) (rw1 t) n (nI k) (nI (k + 1)) z_m_23))) = (if cmT (t (4 + p)) N (crT k t) = -9 then fX5_crew_L24 g (nI p) (nI N) (rw1 t) n a (nI (k + 1)) (rw1 v) else fX5_crew_L24 g (nI p) (nI N) (rw1 t) n (nI k) (nI (k + 1)) (rw1 v)) ∧ z45 v := by
        obtain ⟨v, v1, v2⟩ := mComes (g := g) hg (w.cr k) (c := t (4 + p)) (W := N) (by omega) hN
        refine ⟨v, ?_, v2.z⟩
        show bd1 (fX5_crew_L72 g (nI k) (rw1 t) g (nI 0) (rw1 t)) _ = _
        rw [mCr_L (g := g) w (q := k) (by omega) (t 1) 0 g t (by omega) (by omega), bd1_s, show (4 : Int32) + nI p = nI (4 + p) from nI_add 4 p, gdn (by omega) (by decide), nI_clamp (by omega)]
        show bd2 (fX5_comesIn g (nI (t (4 + p))) (nI N) (rw1 (crT k t))) _ = _
        rw [v1, bd2_s]
        rcases cm_or (t (4 + p)) N (crT k t) with h | ⟨j, hj, h⟩
        · rw [h, if_pos (show (-9 : Int32) < 0 by decide), if_pos rfl]
        · rw [h, if_neg (nI_pos (by omega)), if_neg (n9 (by omega))]
      obtain ⟨v, v1, v2⟩ := hit
      rw [mCopies hg w.z hu, bd1_s, v1]
      by_cases e : cmT (t (4 + p)) N (crT k t) = -9
      · rw [if_pos e]
        exact ih (k + 1) n a v v2 (by omega) (by omega) (hb.keep (fun h => h e))
      · rw [if_neg e]
        refine ih (k + 1) n (nI k) v v2 (by omega) (by omega) ?_
        rcases hc with ⟨F, f1, rfl, f2⟩ | rfl
        · exact hb.less (by omega) f1 f2 e
        · exact hb.first (by omega) e
    unfold fX5_crew_L24_b
    rw [e1, if_neg (nI_ge (by omega) (by omega)), nI_1]
    rcases hb.or with h | ⟨F, f1, rfl⟩
    · rw [if_pos (show a < 0 by rw [h]; decide)]
      exact fin (Or.inr h)
    · have pcl : pcN k < 1000 := by have := pc_le (t 1) h7 k (by omega); omega
      have pcl2 : pcN F < 1000 := by have := pc_le (t 1) h7 F (by omega); omega
      rw [if_neg (nI_pos (by omega)), mBits hg (by omega), bd1_s, mBits hg (by omega), bd1_s]
      by_cases e : pcN k < pcN F
      · rw [if_pos (nI_lt e (by omega))]
        exact fin (Or.inl ⟨F, f1, rfl, e⟩)
      · rw [if_neg (nI_nlt (by omega) (by omega))]
        exact ih (k + 1) n (nI F) u hu (by omega) (by omega) (hb.stay (by omega) f1 (by omega))
theorem oCrew (w : WF t) (hg : big g) (R : RV t np nh na ns nd nc nk nf nl nse) (rf : Nat → Int32) (p0 p1 : Int32) (tp th ta ts td tx ty : Int32) (tc tk tf tl te : Nat → Int32) {u : Nat → Nat} (hu : z45 u) : ∃ r u' rf' o1 o2 o3 o4 o5 o6 o7 o8 o9 o10 o11 o12, fX4_crew g p0 p1 np nh na ns nd nc nk nf nl nse tp th ta ts td tx ty tc tk tf tl te rf = some (r, o1, o2, o3, o4, o5, o6, o7, o8, o9, o10, o11, o12, rf') ∧ fX5_crew g p0 p1 (rw1 t) (rw1 u) rf = some (r, rw1 u', rf') ∧ z45 u' := by
  have h6 := w.1
  have h7 := w.2.1
  have hg' : 100000000000000000000 ≤ g := hg
  unfold fX4_crew fX5_crew
  rw [cNoPlace, bd1_s, cOut, bd1_s, cFirst, bd1_s, mWrongFor w, bd1_s, ← R.1]
  have ref : ∀ cd, okc cd → foF (nhF p0 np) (ouF p1 0 30) = cd → ∃ r u' rf' o1 o2 o3 o4 o5 o6 o7 o8 o9 o10 o11 o12, (if foF (nhF p0 np) (ouF p1 0 30) = 0 then bd13 (fX4_fewestHands g p0 p1 0 np nh na ns nd nc nk nf nl nse tp th ta ts td tx ty tc tk tf tl te) (fun r32 b1 b2 b3 b4 b5 b6 b7 b8 b9 b10 b11 b12 => some (r32, b1, b2, b3, b4, b5, b6, b7, b8, b9, b10, b11, b12, rf)) else bd2 (fX4_refuse g (foF (nhF p0 np) (ouF p1 0 30)) rf) (fun r46 z_refusals_47 => some (r46, tp, th, ta, ts, td, tx, ty, tc, tk, tf, tl, te, z_refusals_47))) = some (r, o1, o2, o3, o4, o5, o6, o7, o8, o9, o10, o11, o12, rf') ∧ (if foF (nhF p0 np) (ouF p1 0 30) = 0 then bd2 (fX5_crew_L24 g p0 p1 (rw1 t) g (-9) 0 (rw1 u)) (fun t43 t44 => some (t43, t44, rf)) else bd2 (fX5_no g (foF (nhF p0 np) (ouF p1 0 30)) rf) (fun r47 z_refused_48 => some (r47, rw1 u, z_refused_48))) = some (r, rw1 u', rf') ∧ z45 u' := by
    intro cd hc e
    refine ⟨cd, u, rfz cd rf, tp, th, ta, ts, td, tx, ty, tc, tk, tf, tl, te, ?_, ?_, hu⟩
    · rw [e, if_neg (okc_n hc), rZ4 hc, bd2_s]
    · rw [e, if_neg (okc_n hc), rZ5 hc, bd2_s]
  rcases tri_or p0 (n := t 0) (by omega) with h | ⟨j, hj, rfl⟩
  · exact ref (-1) ok1 (by rw [R.1, nh_bad (by omega) h, fo_n ok1])
  · have a1 : nhF (nI j) np = 0 := by rw [R.1]; exact nh_ok hj (by omega)
    rcases ou_or p1 (a := 0) (b := 30) (by omega) (by omega) with h | ⟨N, -, hN, rfl, h0⟩
    · have h : okc (ouF p1 0 30) := h
      exact ref _ h (by rw [a1, fo_0])
    · have h0 : ouF (nI N) 0 30 = 0 := h0
      obtain ⟨r, o1, o2, o3, o4, o5, o6, o7, o8, o9, o10, o11, o12, q1, q2⟩ := vFew (g := g) w hg R (b := false) (fl := 0) (Or.inl ⟨rfl, rfl⟩) hj (N := N) (by omega) tp th ta ts td tx ty tc tk tf tl te
      obtain ⟨r', v, q3, q4, q5⟩ := mcrew_L (g := g) w hg hj (N := N) (by omega) (2 ^ t 1) 0 g (-9) u hu (by omega) (by have := p7 h7; omega) (Or.inl ⟨rfl, fun q h => by omega⟩)
      have q3 : fX5_crew_L24 g (nI j) (nI N) (rw1 t) g (-9) 0 (rw1 u) = some (r', rw1 v) := q3
      refine ⟨r, v, rf, o1, o2, o3, o4, o5, o6, o7, o8, o9, o10, o11, o12, ?_, ?_, q4⟩
      · rw [a1, fo_0, h0, if_pos z00, q1, bd13_s]
      · rw [a1, fo_0, h0, if_pos z00, q3, bd2_s, q2.uniq q5]
theorem mletters_L (w : WF t) (hg : big g) {p N : Nat} (hp : p < t 0) (hN : N < 1000) : ∀ (d k n : Nat) (a : Int32) (u : Nat → Nat), z45 u → k + d = 2 ^ t 1 → d < n → Best (HT true t p N) k a → ∃ r v, fX5_letters_L24 g (nI p) (nI N) (rw1 t) n a (nI k) (rw1 u) = some (r, rw1 v) ∧ z45 v ∧ Best (HT true t p N) (2 ^ t 1) r := by
  have h7 := w.2.1
  have h6 := w.1
  have h128 := p7 h7
  have h4 := w.2.2.2.1 p hp
  have hg' : 100000000000000000000 ≤ g := hg
  have e1 : ((1 : Int32) <<< (rw1 t 1 &&& 31)) = nI (2 ^ t 1) := sh7 (t 1) h7
  intro d
  induction d with
  | zero =>
    intro k n a u hu hk hn hb
    obtain ⟨n, rfl⟩ : ∃ m, n = m + 1 := ⟨n - 1, by omega⟩
    refine ⟨a, u, ?_, hu, by rw [show 2 ^ t 1 = k by omega]; exact hb⟩
    show fX5_letters_L24_b g (nI p) (nI N) (rw1 t) _ a (nI k) (rw1 u) = _
    unfold fX5_letters_L24_b
    rw [e1, if_pos (nI_le (by omega) (by omega))]
  | succ d ih =>
    intro k n a u hu hk hn hb
    obtain ⟨n, rfl⟩ : ∃ m, n = m + 1 := ⟨n - 1, by omega⟩
    show ∃ r v, fX5_letters_L24_b g (nI p) (nI N) (rw1 t) (fX5_letters_L24 g (nI p) (nI N) (rw1 t) n) a (nI k) (rw1 u) = some (r, rw1 v) ∧ z45 v ∧ _
    have fin : (∃ F, F < k ∧ a = nI F ∧ pcN k < pcN F) ∨ a = -9 → ∃ r v, bd1 (fX5_copies g (rw1 t) (rw1 u)) (fun z_m_14 => bd1 (fX5_letters_L72 g (nI k) (rw1 t) g 0 z_m_14) (fun t20 => gd (inB (4 + nI p) 45) (bd2 (fX5_comesIn g (rw1 t (4 + nI p).toNatClampNeg) (nI N) t20) (fun r22 z_m_23 => if r22 < 0 then fX5_letters_L24 g (nI p) (nI N) (rw1 t) n a (nI (k + 1)) z_m_23 else fX5_letters_L24 g (nI p) (nI N) (rw1 t) n (nI k) (nI (k + 1)) z_m_23)))) = some (r, rw1 v) ∧ z45 v ∧ Best (HT true t p N) (2 ^ t 1) r := by
      intro hc
      have hit : ∃ v, bd1 (fX5_letters_L72 g (nI k) (rw1 t) g 0 (rw1 t)) (fun t20 => gd (inB (4 + nI p) 45) (bd2 (fX5_comesIn g (rw1 t (4 + nI p).toNatClampNeg) (nI N) t20) (fun r22 z_m_23 => if r22 < 0 then fX5_letters_L24 g (nI p) (nI N) (rw1 t) n a (nI (k + 1)) z_m_23 else fX5_letters_L24 g (nI p) (nI N) (rw1 t) n (nI k) (nI (k + 1)) z_m_23))) = (if cmT (t (4 + p)) N (ltT k t) = -9 then fX5_letters_L24 g (nI p) (nI N) (rw1 t) n a (nI (k + 1)) (rw1 v) else fX5_letters_L24 g (nI p) (nI N) (rw1 t) n (nI k) (nI (k + 1)) (rw1 v)) ∧ z45 v := by
        obtain ⟨v, v1, v2⟩ := mComes (g := g) hg (show WF (ltT k t) from WF.ltI (q := k) w (t 1) 0 t w rfl (by omega)) (c := t (4 + p)) (W := N) (by omega) hN
        refine ⟨v, ?_, v2.z⟩
        show bd1 (fX5_letters_L72 g (nI k) (rw1 t) g (nI 0) (rw1 t)) _ = _
        rw [mLt_L (g := g) w (q := k) (by omega) (t 1) 0 g t w rfl (by omega) (by omega), bd1_s, show (4 : Int32) + nI p = nI (4 + p) from nI_add 4 p, gdn (by omega) (by decide), nI_clamp (by omega)]
        show bd2 (fX5_comesIn g (nI (t (4 + p))) (nI N) (rw1 (ltT k t))) _ = _
        rw [v1, bd2_s]
        rcases cm_or (t (4 + p)) N (ltT k t) with h | ⟨j, hj, h⟩
        · rw [h, if_pos (show (-9 : Int32) < 0 by decide), if_pos rfl]
        · rw [h, if_neg (nI_pos (by omega)), if_neg (n9 (by omega))]
      obtain ⟨v, v1, v2⟩ := hit
      rw [mCopies hg w.z hu, bd1_s, v1]
      by_cases e : cmT (t (4 + p)) N (ltT k t) = -9
      · rw [if_pos e]
        exact ih (k + 1) n a v v2 (by omega) (by omega) (hb.keep (fun h => h e))
      · rw [if_neg e]
        refine ih (k + 1) n (nI k) v v2 (by omega) (by omega) ?_
        rcases hc with ⟨F, f1, rfl, f2⟩ | rfl
        · exact hb.less (by omega) f1 f2 e
        · exact hb.first (by omega) e
    unfold fX5_letters_L24_b
    rw [e1, if_neg (nI_ge (by omega) (by omega)), nI_1]
    rcases hb.or with h | ⟨F, f1, rfl⟩
    · rw [if_pos (show a < 0 by rw [h]; decide)]
      exact fin (Or.inr h)
    · have pcl : pcN k < 1000 := by have := pc_le (t 1) h7 k (by omega); omega
      have pcl2 : pcN F < 1000 := by have := pc_le (t 1) h7 F (by omega); omega
      rw [if_neg (nI_pos (by omega)), mBits hg (by omega), bd1_s, mBits hg (by omega), bd1_s]
      by_cases e : pcN k < pcN F
      · rw [if_pos (nI_lt e (by omega))]
        exact fin (Or.inl ⟨F, f1, rfl, e⟩)
      · rw [if_neg (nI_nlt (by omega) (by omega))]
        exact ih (k + 1) n (nI F) u hu (by omega) (by omega) (hb.stay (by omega) f1 (by omega))
theorem oLetters (w : WF t) (hg : big g) (R : RV t np nh na ns nd nc nk nf nl nse) (rf : Nat → Int32) (p0 p1 : Int32) (tp th ta ts td tx ty : Int32) (tc tk tf tl te : Nat → Int32) {u : Nat → Nat} (hu : z45 u) : ∃ r u' rf' o1 o2 o3 o4 o5 o6 o7 o8 o9 o10 o11 o12, fX4_letters g p0 p1 np nh na ns nd nc nk nf nl nse tp th ta ts td tx ty tc tk tf tl te rf = some (r, o1, o2, o3, o4, o5, o6, o7, o8, o9, o10, o11, o12, rf') ∧ fX5_letters g p0 p1 (rw1 t) (rw1 u) rf = some (r, rw1 u', rf') ∧ z45 u' := by
  have h6 := w.1
  have h7 := w.2.1
  have hg' : 100000000000000000000 ≤ g := hg
  unfold fX4_letters fX5_letters
  rw [cNoPlace, bd1_s, cOut, bd1_s, cFirst, bd1_s, mWrongFor w, bd1_s, ← R.1]
  have ref : ∀ cd, okc cd → foF (nhF p0 np) (ouF p1 0 30) = cd → ∃ r u' rf' o1 o2 o3 o4 o5 o6 o7 o8 o9 o10 o11 o12, (if foF (nhF p0 np) (ouF p1 0 30) = 0 then bd13 (fX4_fewestHands g p0 p1 1 np nh na ns nd nc nk nf nl nse tp th ta ts td tx ty tc tk tf tl te) (fun r32 b1 b2 b3 b4 b5 b6 b7 b8 b9 b10 b11 b12 => some (r32, b1, b2, b3, b4, b5, b6, b7, b8, b9, b10, b11, b12, rf)) else bd2 (fX4_refuse g (foF (nhF p0 np) (ouF p1 0 30)) rf) (fun r46 z_refusals_47 => some (r46, tp, th, ta, ts, td, tx, ty, tc, tk, tf, tl, te, z_refusals_47))) = some (r, o1, o2, o3, o4, o5, o6, o7, o8, o9, o10, o11, o12, rf') ∧ (if foF (nhF p0 np) (ouF p1 0 30) = 0 then bd2 (fX5_letters_L24 g p0 p1 (rw1 t) g (-9) 0 (rw1 u)) (fun t43 t44 => some (t43, t44, rf)) else bd2 (fX5_no g (foF (nhF p0 np) (ouF p1 0 30)) rf) (fun r47 z_refused_48 => some (r47, rw1 u, z_refused_48))) = some (r, rw1 u', rf') ∧ z45 u' := by
    intro cd hc e
    refine ⟨cd, u, rfz cd rf, tp, th, ta, ts, td, tx, ty, tc, tk, tf, tl, te, ?_, ?_, hu⟩
    · rw [e, if_neg (okc_n hc), rZ4 hc, bd2_s]
    · rw [e, if_neg (okc_n hc), rZ5 hc, bd2_s]
  rcases tri_or p0 (n := t 0) (by omega) with h | ⟨j, hj, rfl⟩
  · exact ref (-1) ok1 (by rw [R.1, nh_bad (by omega) h, fo_n ok1])
  · have a1 : nhF (nI j) np = 0 := by rw [R.1]; exact nh_ok hj (by omega)
    rcases ou_or p1 (a := 0) (b := 30) (by omega) (by omega) with h | ⟨N, -, hN, rfl, h0⟩
    · have h : okc (ouF p1 0 30) := h
      exact ref _ h (by rw [a1, fo_0])
    · have h0 : ouF (nI N) 0 30 = 0 := h0
      obtain ⟨r, o1, o2, o3, o4, o5, o6, o7, o8, o9, o10, o11, o12, q1, q2⟩ := vFew (g := g) w hg R (b := true) (fl := 1) (Or.inr ⟨rfl, rfl⟩) hj (N := N) (by omega) tp th ta ts td tx ty tc tk tf tl te
      obtain ⟨r', v, q3, q4, q5⟩ := mletters_L (g := g) w hg hj (N := N) (by omega) (2 ^ t 1) 0 g (-9) u hu (by omega) (by have := p7 h7; omega) (Or.inl ⟨rfl, fun q h => by omega⟩)
      have q3 : fX5_letters_L24 g (nI j) (nI N) (rw1 t) g (-9) 0 (rw1 u) = some (r', rw1 v) := q3
      refine ⟨r, v, rf, o1, o2, o3, o4, o5, o6, o7, o8, o9, o10, o11, o12, ?_, ?_, q4⟩
      · rw [a1, fo_0, h0, if_pos z00, q1, bd13_s]
      · rw [a1, fo_0, h0, if_pos z00, q3, bd2_s, q2.uniq q5]
end PC8
