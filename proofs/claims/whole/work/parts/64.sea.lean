/-! ===== pure level: the calls, class beside model (16): sea; laid by mkops15.py ===== -/
def bo (c : Nat) : Nat := if c = 97 then 1 else if c = 100 then 2 else if c = 104 then 3 else if c = 108 then 1 else if c = 109 then 2 else if c = 112 then 2 else if c = 115 then 2 else 0
def boI (x : Int32) : Int32 := if x = 97 then 1 else if x = 100 then 2 else if x = 104 then 3 else if x = 108 then 1 else if x = 109 then 2 else if x = 112 then 2 else if x = 115 then 2 else 0
theorem bo_n : ∀ c, c < 256 → boI (nI c) = nI (bo c) := by decide +kernel
theorem cBody (g : Nat) {c : Nat} (hc : c < 256) : fX2_bodyOf g (nI c) = some (nI (bo c)) := by
  rw [← bo_n c hc]
  unfold fX2_bodyOf boI
  (repeat' split) <;> rfl
theorem bo_le (c : Nat) : bo c ≤ 3 := by
  unfold bo
  (repeat' split) <;> omega
theorem bo_cs {c : Nat} (h : ¬ bo c = 0) : c = 97 ∨ c = 100 ∨ c = 104 ∨ c = 108 ∨ c = 109 ∨ c = 112 ∨ c = 115 := by
  unfold bo at h
  (repeat' split at h) <;> omega
def kdN (c : Nat) : Nat := if c = 104 then 0 else if c = 98 then 1 else if c = 109 then 2 else if c = 119 then 3 else if c = 113 then 4 else if c = 100 then 5 else 6
theorem kd_n : ∀ c, c < 256 → kdx (nI c) = (if kdN c < 6 then nI (kdN c) else -1) := by decide +kernel
theorem cKind (g : Nat) {c : Nat} (hc : c < 256) : fX4_kindOf g (nI c) = some (if kdN c < 6 then nI (kdN c) else -1) := by
  unfold fX4_kindOf
  rw [pk_char, pk_tn (by omega), Nat.mod_eq_of_lt (by omega), kd_n c hc]
def kbI (x : Int32) : Int32 := if x = 98 then 1 else if x = 100 then 5 else if x = 104 then 0 else if x = 109 then 2 else if x = 113 then 4 else if x = 119 then 3 else -9
theorem kb_n : ∀ c, c < 256 → kbI (nI c) = (if kdN c < 6 then nI (kdN c) else -9) := by decide +kernel
theorem mKindBy (g : Nat) (x : Int32) : fX5_kindBy g x = some (kbI x) := by
  unfold fX5_kindBy kbI
  (repeat' split) <;> rfl
def fitB (h i c : Nat) : Bool := if h = 104 ∧ i = 1 then decide (kdN c < 6) else decide (48 ≤ c ∧ c ≤ 57)
theorem fitD {h i c : Nat} (e : ¬ (h = 104 ∧ i = 1)) : fitB h i c = decide (48 ≤ c ∧ c ≤ 57) := if_neg e
theorem fitK (c : Nat) : fitB 104 1 c = decide (kdN c < 6) := if_pos ⟨rfl, rfl⟩
theorem cDg {c : Nat} (hc : c < 256) : (if nI c < 48 then some (0 : Int32) else if 57 < nI c then some 0 else some 1) = some (if decide (48 ≤ c ∧ c ≤ 57) = true then 1 else 0) := by
  by_cases h1 : c < 48
  · rw [if_pos (show nI c < 48 from nI_lt (b := 48) h1 (by omega)), if_neg (by simp; omega)]
  · rw [if_neg (show ¬ nI c < 48 from nI_nlt (b := 48) (by omega) (by omega))]
    by_cases h2 : 57 < c
    · rw [if_pos (show 57 < nI c from nI_lt (a := 57) h2 (by omega)), if_neg (by simp; omega)]
    · rw [if_neg (show ¬ 57 < nI c from nI_nlt (a := 57) (by omega) (by omega)), if_pos (by simp; omega)]
theorem cFits (g : Nat) {h i c : Nat} (hh : h < 256) (hi : i < 10) (hc : c < 256) : fX2_fitsBody g (nI h) (nI i) (nI c) = some (if fitB h i c = true then 1 else 0) := by
  have e1 : (nI h = 104) = (h = 104) := n1 104 (by omega) (by decide)
  have e2 : (nI i = 1) = (i = 1) := n1 1 (by omega) (by decide)
  unfold fX2_fitsBody
  simp only [e1, e2]
  by_cases h1 : h = 104
  · rw [if_pos h1]
    by_cases h2 : i = 1
    · subst h1; subst h2
      rw [if_pos rfl, cKind g hc, bd1_s, fitK]
      by_cases k : kdN c < 6
      · rw [if_pos k, if_neg (nI_pos (by omega)), if_pos (by simp [k])]
      · rw [if_neg k, if_pos (show (-1 : Int32) < 0 by decide), if_neg (by simp [k])]
    · rw [if_neg h2, fitD (fun z => h2 z.2)]
      exact cDg hc
  · rw [if_neg h1, fitD (fun z => h1 z.1)]
    exact cDg hc
def TX (L : Nat) (sg : Nat → Int32) (x : Nat → Nat) : Prop := L ≤ 96 ∧ ∀ k, k < L → x k < 256 ∧ sg k = nI (x k)
theorem TXT.tx {L : Nat} {sg : Nat → Int32} (T : TXT L sg) : ∃ x, TX L sg x := by
  refine ⟨fun k => (sg k).toNatClampNeg, T.1, fun k hk => ?_⟩
  obtain ⟨c, hc, e⟩ := T.2 k hk
  have e2 : (sg k).toNatClampNeg = c := by rw [e, nI_clamp (by omega)]
  refine ⟨?_, ?_⟩
  · show (sg k).toNatClampNeg < 256
    omega
  · show sg k = nI (sg k).toNatClampNeg
    rw [e2]; exact e
def chk (x : Nat → Nat) (L c : Nat) : Nat → Nat → Nat → Bool × Nat
  | 0, _, p => if p < L ∧ x p = 59 then (true, p + 1) else (false, p)
  | d + 1, i, p => if p < L ∧ fitB c i (x p) = true then chk x L c d (i + 1) (p + 1) else (false, p)
def stm (x : Nat → Nat) (L r : Nat) : Bool × Nat := if r < L ∧ ¬ bo (x r) = 0 then chk x L (x r) (bo (x r)) 1 (r + 1) else (false, r)
theorem chk_ok {x : Nat → Nat} {L c : Nat} : ∀ (d i p : Nat), (chk x L c d i p).1 = true → (chk x L c d i p).2 = p + d + 1 ∧ p + d + 1 ≤ L ∧ (∀ j, j < d → fitB c (i + j) (x (p + j)) = true) ∧ x (p + d) = 59
  | 0, i, p, h => by
    unfold chk at h ⊢
    by_cases e : p < L ∧ x p = 59
    · rw [if_pos e]
      exact ⟨rfl, by omega, fun j hj => by omega, e.2⟩
    · rw [if_neg e] at h
      cases h
  | d + 1, i, p, h => by
    unfold chk at h ⊢
    by_cases e : p < L ∧ fitB c i (x p) = true
    · rw [if_pos e] at h ⊢
      obtain ⟨h1, h2, h3, h4⟩ := chk_ok d (i + 1) (p + 1) h
      refine ⟨by rw [h1]; omega, by omega, fun j hj => ?_, by rw [show p + (d + 1) = p + 1 + d by omega]; exact h4⟩
      by_cases e2 : j = 0
      · subst e2; exact e.2
      · have := h3 (j - 1) (by omega)
        rw [show i + 1 + (j - 1) = i + j by omega, show p + 1 + (j - 1) = p + j by omega] at this
        exact this
    · rw [if_neg e] at h
      cases h
theorem chk_ge {x : Nat → Nat} {L c : Nat} : ∀ (d i p : Nat), p ≤ L → p ≤ (chk x L c d i p).2 ∧ (chk x L c d i p).2 ≤ L
  | 0, i, p, h => by
    unfold chk
    split
    · rename_i e
      exact ⟨by show p ≤ p + 1; omega, by show p + 1 ≤ L; omega⟩
    · exact ⟨Nat.le_refl _, h⟩
  | d + 1, i, p, h => by
    unfold chk
    split
    · rename_i e
      have := chk_ge (x := x) (c := c) d (i + 1) (p + 1) (show p + 1 ≤ L by omega)
      exact ⟨by omega, this.2⟩
    · exact ⟨Nat.le_refl _, h⟩
theorem stm_ok {x : Nat → Nat} {L r : Nat} (h : (stm x L r).1 = true) : r < L ∧ ¬ bo (x r) = 0 ∧ (stm x L r).2 = r + 2 + bo (x r) ∧ r + 2 + bo (x r) ≤ L ∧ (∀ j, j < bo (x r) → fitB (x r) (1 + j) (x (r + 1 + j)) = true) ∧ x (r + 1 + bo (x r)) = 59 := by
  unfold stm at h ⊢
  by_cases e : r < L ∧ ¬ bo (x r) = 0
  · rw [if_pos e] at h ⊢
    obtain ⟨h1, h2, h3, h4⟩ := chk_ok _ _ _ h
    exact ⟨e.1, e.2, by rw [h1]; omega, by omega, h3, h4⟩
  · rw [if_neg e] at h
    cases h
theorem stm_ge {x : Nat → Nat} {L r : Nat} (h : r ≤ L) : r ≤ (stm x L r).2 ∧ (stm x L r).2 ≤ L := by
  unfold stm
  split
  · rename_i e
    have := chk_ge (x := x) (c := x r) (bo (x r)) 1 (r + 1) (show r + 1 ≤ L by omega)
    exact ⟨by omega, this.2⟩
  · exact ⟨Nat.le_refl _, h⟩
/-- the statements from p on: how many, and the misfit -/
def prs (x : Nat → Nat) (L : Nat) : Nat → Nat → Nat × Option Nat
  | 0, _ => (0, none)
  | d + 1, p => if p < L then (if (stm x L p).1 = true then ((prs x L d (stm x L p).2).1 + 1, (prs x L d (stm x L p).2).2) else (0, some (stm x L p).2)) else (0, none)
section PSE
variable {g L : Nat} {sg : Nat → Int32} {x : Nat → Nat}
theorem ckC (T : TX L sg x) {c : Nat} (hc : c < 256) : ∀ (d i p n : Nat), 1 ≤ i → i + d = bo c + 1 → p ≤ L → L < p + n → ((chk x L c d i p).1 = true → fX2_firstMisfit_L6 g (nI L) sg n (nI c) (nI i) (nI p) = fX2_firstMisfit_L6 g (nI L) sg (n - (d + 1)) (nI c) 0 (nI (chk x L c d i p).2)) ∧ (¬ (chk x L c d i p).1 = true → ∃ z, fX2_firstMisfit_L6 g (nI L) sg n (nI c) (nI i) (nI p) = some z ∧ (((chk x L c d i p).2 < L ∧ z = .inr (nI (chk x L c d i p).2)) ∨ ((chk x L c d i p).2 = L ∧ ∃ i', 1 ≤ i' ∧ i' < 10 ∧ z = .inl (nI i')))) := by
  have hb := bo_le c
  have hL := T.1
  intro d
  induction d with
  | zero =>
    intro i p n hi hd hp hn
    obtain ⟨n, rfl⟩ : ∃ m, n = m + 1 := ⟨n - 1, by omega⟩
    have s1 : fX2_firstMisfit_L6 g (nI L) sg (n + 1) (nI c) (nI i) (nI p) = fX2_firstMisfit_L6_b g (nI L) sg (fX2_firstMisfit_L6 g (nI L) sg n) (nI c) (nI i) (nI p) := rfl
    rw [s1]
    unfold fX2_firstMisfit_L6_b chk
    by_cases e : p < L
    · obtain ⟨hx, ex⟩ := T.2 p e
      have e59 : (nI (x p) = 59) = (x p = 59) := n1 59 (by omega) (by decide)
      rw [if_neg (show ¬ nI L ≤ nI p from nI_ge e (by omega)), gdn (by omega) (by decide), nI_clamp (by omega), if_neg (show ¬ nI i = 0 from nI_ne0 (by omega) (by omega)), cBody g hc, bd1_s, if_pos (show nI (bo c) < nI i from nI_lt (by omega) (by omega)), ex, nI_1]
      simp only [e59]
      by_cases e2 : x p = 59
      · rw [if_pos e2, if_pos ⟨e, e2⟩]
        exact ⟨fun _ => rfl, fun h => absurd rfl h⟩
      · rw [if_neg e2, if_neg (fun h => e2 h.2)]
        exact ⟨fun h => (by cases h), fun _ => ⟨_, rfl, Or.inl ⟨e, rfl⟩⟩⟩
    · rw [if_pos (show nI L ≤ nI p from nI_le (by omega) (by omega)), if_neg (fun h => e h.1)]
      exact ⟨fun h => (by cases h), fun _ => ⟨_, rfl, Or.inr ⟨by show p = L; omega, i, hi, by omega, rfl⟩⟩⟩
  | succ d ih =>
    intro i p n hi hd hp hn
    obtain ⟨n, rfl⟩ : ∃ m, n = m + 1 := ⟨n - 1, by omega⟩
    have s1 : fX2_firstMisfit_L6 g (nI L) sg (n + 1) (nI c) (nI i) (nI p) = fX2_firstMisfit_L6_b g (nI L) sg (fX2_firstMisfit_L6 g (nI L) sg n) (nI c) (nI i) (nI p) := rfl
    rw [s1]
    unfold fX2_firstMisfit_L6_b chk
    by_cases e : p < L
    · obtain ⟨hx, ex⟩ := T.2 p e
      rw [if_neg (show ¬ nI L ≤ nI p from nI_ge e (by omega)), gdn (by omega) (by decide), nI_clamp (by omega), if_neg (show ¬ nI i = 0 from nI_ne0 (by omega) (by omega)), cBody g hc, bd1_s, if_neg (show ¬ nI (bo c) < nI i from nI_nlt (by omega) (by omega)), ex, cFits g hc (by omega) hx, bd1_s, nI_1, nI_1]
      by_cases e2 : fitB c i (x p) = true
      · rw [if_pos e2, if_neg z10, if_pos ⟨e, e2⟩]
        have := ih (i + 1) (p + 1) n (by omega) (by omega) (by omega) (by omega)
        rw [show n + 1 - (d + 1 + 1) = n - (d + 1) by omega]
        exact this
      · rw [if_neg e2, if_pos z00, if_neg (fun h => e2 h.2)]
        exact ⟨fun h => (by cases h), fun _ => ⟨_, rfl, Or.inl ⟨e, rfl⟩⟩⟩
    · rw [if_pos (show nI L ≤ nI p from nI_le (by omega) (by omega)), if_neg (fun h => e h.1)]
      exact ⟨fun h => (by cases h), fun _ => ⟨_, rfl, Or.inr ⟨by show p = L; omega, i, hi, by omega, rfl⟩⟩⟩
theorem fmC (T : TX L sg x) : ∀ (d p n : Nat) (h : Int32), p ≤ L → L ≤ p + d → L < p + n → (∀ q, (prs x L d p).2 = some q → ∃ z, fX2_firstMisfit_L6 g (nI L) sg n h 0 (nI p) = some z ∧ ((q < L ∧ z = .inr (nI q)) ∨ (q = L ∧ ∃ i', 1 ≤ i' ∧ i' < 10 ∧ z = .inl (nI i')))) ∧ ((prs x L d p).2 = none → fX2_firstMisfit_L6 g (nI L) sg n h 0 (nI p) = some (.inl 0)) := by
  have hL := T.1
  have stop : ∀ (p n : Nat) (h : Int32), L ≤ p → p < 2 ^ 31 → 0 < n → fX2_firstMisfit_L6 g (nI L) sg n h 0 (nI p) = some (.inl 0) := by
    intro p n h hp hp2 hn
    obtain ⟨n, rfl⟩ : ∃ m, n = m + 1 := ⟨n - 1, by omega⟩
    show fX2_firstMisfit_L6_b g (nI L) sg (fX2_firstMisfit_L6 g (nI L) sg n) h 0 (nI p) = _
    unfold fX2_firstMisfit_L6_b
    rw [if_pos (show nI L ≤ nI p from nI_le hp hp2)]
  intro d
  induction d with
  | zero =>
    intro p n h hp hd hn
    exact ⟨fun q hq => (by cases hq), fun _ => stop p n h (by omega) (by omega) (by omega)⟩
  | succ d ih =>
    intro p n h hp hd hn
    unfold prs
    by_cases e : p < L
    · rw [if_pos e]
      obtain ⟨n, rfl⟩ : ∃ m, n = m + 1 := ⟨n - 1, by omega⟩
      obtain ⟨hx, ex⟩ := T.2 p e
      have s1 : fX2_firstMisfit_L6 g (nI L) sg (n + 1) h 0 (nI p) = fX2_firstMisfit_L6_b g (nI L) sg (fX2_firstMisfit_L6 g (nI L) sg n) h 0 (nI p) := rfl
      have hb := bo_le (x p)
      have e0 : (nI (bo (x p)) = 0) = (bo (x p) = 0) := n1 0 (by omega) (by decide)
      rw [s1]
      unfold fX2_firstMisfit_L6_b
      rw [if_neg (show ¬ nI L ≤ nI p from nI_ge e (by omega)), gdn (by omega) (by decide), nI_clamp (by omega), if_pos z00, ex, cBody g hx, bd1_s, nI_1]
      simp only [e0]
      by_cases b0 : bo (x p) = 0
      · have es : stm x L p = (false, p) := if_neg (fun z => z.2 b0)
        rw [if_pos b0, es, if_neg (show ¬ ((false, p) : Bool × Nat).1 = true from fun h => by cases h)]
        exact ⟨fun q hq => by cases hq; exact ⟨_, rfl, Or.inl ⟨e, rfl⟩⟩, fun hq => (by cases hq)⟩
      · have es : stm x L p = chk x L (x p) (bo (x p)) 1 (p + 1) := if_pos ⟨e, b0⟩
        rw [if_neg b0]
        obtain ⟨c1, c2⟩ := ckC (g := g) T hx (bo (x p)) 1 (p + 1) n (by omega) (by omega) (by omega) (by omega)
        rw [← es] at c1 c2
        have c1 : (stm x L p).1 = true → fX2_firstMisfit_L6 g (nI L) sg n (nI (x p)) 1 (nI (p + 1)) = _ := c1
        by_cases ok : (stm x L p).1 = true
        · obtain ⟨-, -, k3, k4, -, -⟩ := stm_ok ok
          rw [if_pos ok, c1 ok]
          exact ih (stm x L p).2 (n - (bo (x p) + 1)) _ (by omega) (by omega) (by omega)
        · rw [if_neg ok]
          obtain ⟨z, z1, z2⟩ := c2 ok
          exact ⟨fun q hq => by cases hq; exact ⟨z, z1, z2⟩, fun hq => (by cases hq)⟩
    · rw [if_neg e]
      exact ⟨fun q hq => (by cases hq), fun _ => stop p n h (by omega) (by omega) (by omega)⟩
theorem vMisfit (T : TX L sg x) (hg : big g) : (∀ q, (prs x L L 0).2 = some q → fX2_firstMisfit g (nI L) sg = some (nI q)) ∧ ((prs x L L 0).2 = none → fX2_firstMisfit g (nI L) sg = some (if L = 0 then 0 else -9)) := by
  have hg' : 100000000000000000000 ≤ g := hg
  have hL := T.1
  obtain ⟨h1, h2⟩ := fmC (g := g) T L 0 g 0 (by omega) (by omega) (by omega)
  have hz : (nI L ≤ 0) = (L = 0) := by
    refine propext ⟨fun h => ?_, fun h => by rw [h]; decide⟩
    rcases Nat.eq_zero_or_pos L with e | e
    · exact e
    · exact absurd h (nI_nle e (by omega))
  refine ⟨fun q hq => ?_, fun hq => ?_⟩
  · obtain ⟨z, z1, z2⟩ := h1 q hq
    have z1 : fX2_firstMisfit_L6 g (nI L) sg g 0 0 0 = some z := z1
    unfold fX2_firstMisfit
    rw [z1]
    rcases z2 with ⟨a, rfl⟩ | ⟨a, i, b1, b2, rfl⟩
    · rfl
    · show (if nI L ≤ 0 then some (nI L) else if nI i = 0 then some (-9) else some (nI L)) = _
      rw [if_neg (show ¬ nI i = 0 from nI_ne0 (by omega) (by omega)), a]
      split <;> rfl
  · have z1 : fX2_firstMisfit_L6 g (nI L) sg g 0 0 0 = some (.inl 0) := h2 hq
    unfold fX2_firstMisfit
    rw [z1]
    show (if nI L ≤ 0 then some (nI L) else if (0 : Int32) = 0 then some (-9) else some (nI L)) = _
    simp only [hz]
    by_cases e : L = 0
    · rw [if_pos e, if_pos e, e]; rfl
    · rw [if_neg e, if_neg e, if_pos trivial]
/-! the model reads -/
def dgP (x : Nat → Nat) (L r : Nat) : Prop := r < L ∧ 48 ≤ x r ∧ x r ≤ 57
def hrI (x : Nat → Nat) (L r : Nat) : Int32 := if r < L then nI (x r) else -1
theorem mHere (T : TX L sg x) {r : Nat} (hr : r < 1000) : fX5_here g (nI L) (nI r) sg = some (hrI x L r) := by
  have hL := T.1
  unfold fX5_here hrI
  by_cases e : r < L
  · rw [if_neg (show ¬ nI L ≤ nI r from nI_ge e (by omega)), gdn (by omega) (by decide), nI_clamp (by omega), if_pos e, (T.2 r e).2]
  · rw [if_pos (show nI L ≤ nI r from nI_le (by omega) (by omega)), if_neg e]
theorem mDgIn (T : TX L sg x) {r : Nat} (hr : r < 1000) : (dgP x L r → fX5_isIn g (hrI x L r) 48 57 = some 1) ∧ (¬ dgP x L r → fX5_isIn g (hrI x L r) 48 57 = some 0) := by
  unfold fX5_isIn hrI dgP
  by_cases e : r < L
  · have hx := (T.2 r e).1
    rw [if_pos e]
    refine ⟨fun h => ?_, fun h => ?_⟩
    · rw [if_neg (show ¬ nI (x r) < 48 from nI_nlt (b := 48) (by omega) (by omega)), if_neg (show ¬ 57 < nI (x r) from nI_nlt (a := 57) (by omega) (by omega))]
    · by_cases h1 : x r < 48
      · rw [if_pos (show nI (x r) < 48 from nI_lt (b := 48) h1 (by omega))]
      · rw [if_neg (show ¬ nI (x r) < 48 from nI_nlt (b := 48) (by omega) (by omega)), if_pos (show 57 < nI (x r) from nI_lt (a := 57) (by omega) (by omega))]
  · rw [if_neg e]
    exact ⟨fun h => absurd h.1 e, fun _ => by rw [if_pos (show (-1 : Int32) < 48 by decide)]⟩
theorem n9A (T : TX L sg x) {k D i r n : Nat} (hk : k < 3) (hi : i < D) (hD : D < 10) (hr : r < 900) (hn : 0 < n) (nm : Nat → Int32) (hd : dgP x L r) : fX5_readsNumber_L9 g (nI k) (nI D) (nI L) sg n (nI i) (nI r) nm = fX5_readsNumber_L9 g (nI k) (nI D) (nI L) sg (n - 1) (nI (i + 1)) (nI (r + 1)) (upd nm k (10 * nm k + nI (x r) - 48)) := by
  obtain ⟨n, rfl⟩ : ∃ m, n = m + 1 := ⟨n - 1, by omega⟩
  have eh : hrI x L r = nI (x r) := if_pos hd.1
  show fX5_readsNumber_L9_b g (nI k) (nI D) (nI L) sg (fX5_readsNumber_L9 g (nI k) (nI D) (nI L) sg n) (nI i) (nI r) nm = _
  unfold fX5_readsNumber_L9_b
  rw [if_neg (nI_ge hi (by omega)), mHere T (by omega), bd1_s, (mDgIn T (by omega)).1 hd, bd1_s, if_neg z10, gdn hk (by decide), bd1_s, gdn hk (by decide), nI_1, nI_1, nI_clamp (by omega), eh]
  rfl
theorem n9B (T : TX L sg x) {k D i r n : Nat} (hi : i < D) (hD : D < 10) (hr : r < 900) (hn : 0 < n) (nm : Nat → Int32) (hd : ¬ dgP x L r) : fX5_readsNumber_L9 g (nI k) (nI D) (nI L) sg n (nI i) (nI r) nm = some (.inr (0, nI r, nm)) := by
  obtain ⟨n, rfl⟩ : ∃ m, n = m + 1 := ⟨n - 1, by omega⟩
  show fX5_readsNumber_L9_b g (nI k) (nI D) (nI L) sg (fX5_readsNumber_L9 g (nI k) (nI D) (nI L) sg n) (nI i) (nI r) nm = _
  unfold fX5_readsNumber_L9_b
  rw [if_neg (nI_ge hi (by omega)), mHere T (by omega), bd1_s, (mDgIn T (by omega)).2 hd, bd1_s, if_pos z00]
theorem n9C {k D r n : Nat} (hD : D < 10) (hn : 0 < n) (nm : Nat → Int32) : fX5_readsNumber_L9 g (nI k) (nI D) (nI L) sg n (nI D) (nI r) nm = some (.inl (nI r, nm)) := by
  obtain ⟨n, rfl⟩ : ∃ m, n = m + 1 := ⟨n - 1, by omega⟩
  show fX5_readsNumber_L9_b g (nI k) (nI D) (nI L) sg (fX5_readsNumber_L9 g (nI k) (nI D) (nI L) sg n) (nI D) (nI r) nm = _
  unfold fX5_readsNumber_L9_b
  rw [if_pos (nI_le (Nat.le_refl _) (by omega))]
theorem dig1 : ∀ c, c < 58 → 48 ≤ c → 10 * (0 : Int32) + nI c - 48 = nI (c - 48) := by decide +kernel
theorem dig2 : ∀ a, a < 10 → ∀ c, c < 58 → 48 ≤ c → 10 * nI a + nI c - 48 = nI (10 * a + (c - 48)) := by decide +kernel
theorem mNum1 (T : TX L sg x) (hg : big g) {k r : Nat} (hk : k < 3) (hr : r < 900) (nm : Nat → Int32) : (dgP x L r → ∃ nm', fX5_readsNumber g (nI k) 1 (nI L) (nI r) sg nm = some (1, nI (r + 1), nm') ∧ nm' k = nI (x r - 48) ∧ ∀ j, j ≠ k → nm' j = nm j) ∧ (¬ dgP x L r → ∃ nm', fX5_readsNumber g (nI k) 1 (nI L) (nI r) sg nm = some (0, nI r, nm')) := by
  have hg' : 100000000000000000000 ≤ g := hg
  unfold fX5_readsNumber
  rw [gdn hk (by decide), nI_clamp (by omega)]
  show (_ → ∃ nm', bs2 (fX5_readsNumber_L9 g (nI k) (nI 1) (nI L) sg g (nI 0) (nI r) (upd nm k 0)) _ _ = _ ∧ _) ∧ (_ → ∃ nm', bs2 (fX5_readsNumber_L9 g (nI k) (nI 1) (nI L) sg g (nI 0) (nI r) (upd nm k 0)) _ _ = _)
  refine ⟨fun hd => ?_, fun hd => ?_⟩
  · rw [n9A T hk (by omega) (by omega) hr (by omega) _ hd, n9C (by omega) (by omega)]
    refine ⟨_, rfl, ?_, fun j hj => ?_⟩
    · unfold upd
      rw [if_pos rfl, if_pos rfl]
      exact dig1 _ (by have := hd.2; omega) hd.2.1
    · unfold upd
      rw [if_neg hj, if_neg hj]
  · rw [n9B T (by omega) (by omega) hr (by omega) _ hd]
    exact ⟨_, rfl⟩
theorem mNum2 (T : TX L sg x) (hg : big g) {k r : Nat} (hk : k < 3) (hr : r < 800) (nm : Nat → Int32) : (dgP x L r → dgP x L (r + 1) → ∃ nm', fX5_readsNumber g (nI k) 2 (nI L) (nI r) sg nm = some (1, nI (r + 2), nm') ∧ nm' k = nI (10 * (x r - 48) + (x (r + 1) - 48))) ∧ (dgP x L r → ¬ dgP x L (r + 1) → ∃ nm', fX5_readsNumber g (nI k) 2 (nI L) (nI r) sg nm = some (0, nI (r + 1), nm')) ∧ (¬ dgP x L r → ∃ nm', fX5_readsNumber g (nI k) 2 (nI L) (nI r) sg nm = some (0, nI r, nm')) := by
  have hg' : 100000000000000000000 ≤ g := hg
  unfold fX5_readsNumber
  rw [gdn hk (by decide), nI_clamp (by omega)]
  have e0 : fX5_readsNumber_L9 g (nI k) 2 (nI L) sg g 0 (nI r) (upd nm k 0) = fX5_readsNumber_L9 g (nI k) (nI 2) (nI L) sg g (nI 0) (nI r) (upd nm k 0) := rfl
  rw [e0]
  refine ⟨fun hd hd2 => ?_, fun hd hd2 => ?_, fun hd => ?_⟩
  · rw [n9A T hk (by omega) (by omega) (by omega) (by omega) _ hd, n9A T hk (by omega) (by omega) (by omega) (by omega) _ hd2, n9C (by omega) (by omega)]
    refine ⟨_, rfl, ?_⟩
    unfold upd
    rw [if_pos rfl, if_pos rfl, if_pos rfl, dig1 _ (by have := hd.2; omega) hd.2.1]
    exact dig2 _ (by have := hd.2; omega) _ (by have := hd2.2; omega) hd2.2.1
  · rw [n9A T hk (by omega) (by omega) (by omega) (by omega) _ hd, n9B T (by omega) (by omega) (by omega) (by omega) _ hd2]
    exact ⟨_, rfl⟩
  · rw [n9B T (by omega) (by omega) (by omega) (by omega) _ hd]
    exact ⟨_, rfl⟩
theorem mRKind (T : TX L sg x) {r : Nat} (hr : r < 900) (nm : Nat → Int32) : (r < L ∧ kdN (x r) < 6 → fX5_readsKind g (nI L) (nI r) sg nm = some (1, nI (r + 1), upd nm 0 (nI (kdN (x r))))) ∧ (¬ (r < L ∧ kdN (x r) < 6) → fX5_readsKind g (nI L) (nI r) sg nm = some (0, nI r, upd nm 0 (-9))) := by
  have u0 : ∀ v : Int32, upd nm 0 v 0 = v := fun v => if_pos rfl
  unfold fX5_readsKind
  rw [mHere T (by omega), bd1_s, mKindBy, bd1_s, u0]
  refine ⟨fun h => ?_, fun h => ?_⟩
  · have e : kbI (hrI x L r) = nI (kdN (x r)) := by
      unfold hrI
      rw [if_pos h.1, kb_n _ (T.2 r h.1).1, if_pos h.2]
    rw [e, if_pos (nI_pos' (by omega)), if_neg (nI_pos (by omega)), nI_1]
  · have e : kbI (hrI x L r) = -9 := by
      unfold hrI
      by_cases e : r < L
      · rw [if_pos e, kb_n _ (T.2 r e).1, if_neg (fun z => h ⟨e, z⟩)]
      · rw [if_neg e]; rfl
    rw [e, if_neg (show ¬ (0 : Int32) ≤ -9 by decide), if_pos (show (-9 : Int32) < 0 by decide), Int32.add_zero]
def NUM (x : Nat → Nat) (r : Nat) (nm : Nat → Int32) : Prop := (x r = 100 ∨ x r = 112 ∨ x r = 115 → nm 0 = nI (10 * (x (r + 1) - 48) + (x (r + 2) - 48))) ∧ (x r = 104 → nm 0 = nI (kdN (x (r + 1))) ∧ nm 1 = nI (x (r + 2) - 48) ∧ nm 2 = nI (x (r + 3) - 48)) ∧ (x r = 97 ∨ x r = 108 ∨ x r = 109 → nm 0 = nI (x (r + 1) - 48)) ∧ (x r = 109 → nm 1 = nI (x (r + 2) - 48))
theorem chkS {c d i p : Nat} (e : ¬ (c = 104 ∧ i = 1)) : (dgP x L p → chk x L c (d + 1) i p = chk x L c d (i + 1) (p + 1)) ∧ (¬ dgP x L p → chk x L c (d + 1) i p = (false, p)) := by
  refine ⟨fun h => ?_, fun h => ?_⟩
  · show (if p < L ∧ fitB c i (x p) = true then chk x L c d (i + 1) (p + 1) else (false, p)) = _
    rw [fitD e, if_pos ⟨h.1, by simp; exact h.2⟩]
  · show (if p < L ∧ fitB c i (x p) = true then chk x L c d (i + 1) (p + 1) else (false, p)) = _
    rw [fitD e, if_neg (fun z => h ⟨z.1, by simpa using z.2⟩)]
theorem chkK {d p : Nat} : (p < L ∧ kdN (x p) < 6 → chk x L 104 (d + 1) 1 p = chk x L 104 d 2 (p + 1)) ∧ (¬ (p < L ∧ kdN (x p) < 6) → chk x L 104 (d + 1) 1 p = (false, p)) := by
  refine ⟨fun h => ?_, fun h => ?_⟩
  · show (if p < L ∧ fitB 104 1 (x p) = true then chk x L 104 d 2 (p + 1) else (false, p)) = _
    rw [fitK, if_pos ⟨h.1, by simp; exact h.2⟩]
  · show (if p < L ∧ fitB 104 1 (x p) = true then chk x L 104 d 2 (p + 1) else (false, p)) = _
    rw [fitK, if_neg (fun z => h ⟨z.1, by simpa using z.2⟩)]
theorem mTail (T : TX L sg x) {c i p : Nat} (hp : p < 900) (nm : Nat → Int32) : bd1 (fX5_here g (nI L) (nI p) sg) (fun r => if r = 59 then some ((1 : Int32), nI p + 1, nm) else some (0, nI p, nm)) = some (if (chk x L c 0 i p).1 = true then 1 else 0, nI (chk x L c 0 i p).2, nm) := by
  rw [mHere T (by omega), bd1_s, nI_1]
  have ct : p < L ∧ x p = 59 → chk x L c 0 i p = (true, p + 1) := fun h => if_pos h
  have cf : ¬ (p < L ∧ x p = 59) → chk x L c 0 i p = (false, p) := fun h => if_neg h
  unfold hrI
  by_cases e : p < L
  · have e59 : (nI (x p) = 59) = (x p = 59) := n1 59 (by have := (T.2 p e).1; omega) (by decide)
    rw [if_pos e]
    simp only [e59]
    by_cases e2 : x p = 59
    · rw [if_pos e2, ct ⟨e, e2⟩]; rfl
    · rw [if_neg e2, cf (fun z => e2 z.2)]; rfl
  · rw [if_neg e, if_neg (show ¬ (-1 : Int32) = 59 by decide), cf (fun z => e z.1)]; rfl
theorem mStm (T : TX L sg x) (hg : big g) {r : Nat} (hr : r ≤ L) (nm : Nat → Int32) : ∃ nm', fX5_readsStatement g (nI L) (nI r) sg nm = some (if (stm x L r).1 = true then 1 else 0, nI (stm x L r).2, nm') ∧ ((stm x L r).1 = true → NUM x r nm') := by
  have hL := T.1
  have bad : ∀ q : Nat, some ((0 : Int32), nI q, nm) = some (if ((false, q) : Bool × Nat).1 = true then 1 else 0, nI ((false, q) : Bool × Nat).2, nm) := fun q => rfl
  unfold fX5_readsStatement
  rw [mHere T (by omega), bd1_s, nI_1]
  by_cases e : r < L
  · have hx := (T.2 r e).1
    have eh : hrI x L r = nI (x r) := if_pos e
    have cc : ∀ c : Nat, c < 2 ^ 31 → (nI (x r) = nI c) = (x r = c) := fun c h => n1 c (by omega) h
    have c97 : (nI (x r) = 97) = (x r = 97) := cc 97 (by decide)
    have c100 : (nI (x r) = 100) = (x r = 100) := cc 100 (by decide)
    have c104 : (nI (x r) = 104) = (x r = 104) := cc 104 (by decide)
    have c108 : (nI (x r) = 108) = (x r = 108) := cc 108 (by decide)
    have c109 : (nI (x r) = 109) = (x r = 109) := cc 109 (by decide)
    have c112 : (nI (x r) = 112) = (x r = 112) := cc 112 (by decide)
    have c115 : (nI (x r) = 115) = (x r = 115) := cc 115 (by decide)
    rw [eh]
    simp only [c97, c100, c104, c108, c109, c112, c115]
    have es : ∀ (c : Nat), x r = c → ¬ bo c = 0 → stm x L r = chk x L c (bo c) 1 (r + 1) := fun c h1 h2 => by
      subst h1; exact if_pos ⟨e, h2⟩
    have one : ∀ c, (c = 97 ∨ c = 108) → x r = c → ∃ nm', (bd3 (fX5_readsNumber g 0 1 (nI L) (nI (r + 1)) sg nm) fun r197 rd nm1 => if r197 = 0 then some ((0 : Int32), rd, nm1) else bd1 (fX5_here g (nI L) rd sg) fun r202 => if r202 = 59 then some (1, rd + 1, nm1) else some (0, rd, nm1)) = some (if (stm x L r).1 = true then 1 else 0, nI (stm x L r).2, nm') ∧ ((stm x L r).1 = true → NUM x r nm') := by
      intro c hc hxc
      have hb : bo c = 1 := by rcases hc with rfl | rfl <;> rfl
      have e4 : ¬ (c = 104 ∧ (1 : Nat) = 1) := by omega
      rw [es c hxc (by omega), hb]
      obtain ⟨a1, a2⟩ := mNum1 (g := g) T hg (k := 0) (r := r + 1) (by omega) (by omega) nm
      obtain ⟨k1, k2⟩ := chkS (x := x) (L := L) (d := 0) (p := r + 1) e4
      by_cases d1 : dgP x L (r + 1)
      · obtain ⟨nm1, b1, b2, b3⟩ := a1 d1
        have b1 : fX5_readsNumber g 0 1 (nI L) (nI (r + 1)) sg nm = some (1, nI (r + 2), nm1) := b1
        rw [k1 d1, b1, bd3_s, if_neg z10, mTail T (c := c) (i := 2) (by omega)]
        refine ⟨nm1, rfl, fun _ => ⟨?_, ?_, fun _ => b2, ?_⟩⟩
        · intro h; omega
        · intro h; omega
        · intro h; omega
      · obtain ⟨nm1, b1⟩ := a2 d1
        have b1 : fX5_readsNumber g 0 1 (nI L) (nI (r + 1)) sg nm = some (0, nI (r + 1), nm1) := b1
        rw [k2 d1, b1, bd3_s, if_pos z00]
        exact ⟨nm1, rfl, fun h => (by cases h)⟩
    have two : ∀ c, (c = 100 ∨ c = 112 ∨ c = 115) → x r = c → ∃ nm', (bd3 (fX5_readsNumber g 0 2 (nI L) (nI (r + 1)) sg nm) fun r197 rd nm1 => if r197 = 0 then some ((0 : Int32), rd, nm1) else bd1 (fX5_here g (nI L) rd sg) fun r202 => if r202 = 59 then some (1, rd + 1, nm1) else some (0, rd, nm1)) = some (if (stm x L r).1 = true then 1 else 0, nI (stm x L r).2, nm') ∧ ((stm x L r).1 = true → NUM x r nm') := by
      intro c hc hxc
      have hb : bo c = 2 := by rcases hc with rfl | rfl | rfl <;> rfl
      have e4 : ¬ (c = 104 ∧ (1 : Nat) = 1) := by omega
      have e5 : ¬ (c = 104 ∧ (1 + 1 : Nat) = 1) := by omega
      rw [es c hxc (by omega), hb]
      obtain ⟨a1, a2, a3⟩ := mNum2 (g := g) T hg (k := 0) (r := r + 1) (by omega) (by omega) nm
      obtain ⟨k1, k2⟩ := chkS (x := x) (L := L) (d := 1) (p := r + 1) e4
      obtain ⟨k3, k4⟩ := chkS (x := x) (L := L) (d := 0) (p := r + 1 + 1) e5
      by_cases d1 : dgP x L (r + 1)
      · rw [k1 d1]
        by_cases d2 : dgP x L (r + 1 + 1)
        · obtain ⟨nm1, b1, b2⟩ := a1 d1 d2
          have b1 : fX5_readsNumber g 0 2 (nI L) (nI (r + 1)) sg nm = some (1, nI (r + 3), nm1) := b1
          rw [k3 d2, b1, bd3_s, if_neg z10, mTail T (c := c) (i := 3) (by omega)]
          refine ⟨nm1, rfl, fun _ => ⟨fun _ => b2, ?_, ?_, ?_⟩⟩
          · intro h; omega
          · intro h; omega
          · intro h; omega
        · obtain ⟨nm1, b1⟩ := a2 d1 d2
          have b1 : fX5_readsNumber g 0 2 (nI L) (nI (r + 1)) sg nm = some (0, nI (r + 2), nm1) := b1
          rw [k4 d2, b1, bd3_s, if_pos z00]
          exact ⟨nm1, rfl, fun h => (by cases h)⟩
      · obtain ⟨nm1, b1⟩ := a3 d1
        have b1 : fX5_readsNumber g 0 2 (nI L) (nI (r + 1)) sg nm = some (0, nI (r + 1), nm1) := b1
        rw [k2 d1, b1, bd3_s, if_pos z00]
        exact ⟨nm1, rfl, fun h => (by cases h)⟩
    by_cases h97 : x r = 97
    · rw [if_pos h97]; exact one 97 (Or.inl rfl) h97
    rw [if_neg h97]
    by_cases h100 : x r = 100
    · rw [if_pos h100]; exact two 100 (Or.inl rfl) h100
    rw [if_neg h100]
    by_cases h104 : x r = 104
    · rw [if_pos h104, es 104 h104 (by decide), show bo 104 = 3 from rfl]
      obtain ⟨q1, q2⟩ := mRKind (g := g) T (r := r + 1) (by omega) nm
      obtain ⟨k1, k2⟩ := chkK (x := x) (L := L) (d := 2) (p := r + 1)
      by_cases d0 : r + 1 < L ∧ kdN (x (r + 1)) < 6
      · rw [q1 d0, bd3_s, if_neg z10, k1 d0]
        obtain ⟨a1, a2⟩ := mNum1 (g := g) T hg (k := 1) (r := r + 1 + 1) (by omega) (by omega) (upd nm 0 (nI (kdN (x (r + 1)))))
        obtain ⟨k3, k4⟩ := chkS (x := x) (L := L) (c := 104) (d := 1) (i := 2) (p := r + 1 + 1) (by omega)
        by_cases d1 : dgP x L (r + 1 + 1)
        · obtain ⟨nm1, b1, b2, b3⟩ := a1 d1
          have b1 : fX5_readsNumber g 1 1 (nI L) (nI (r + 1 + 1)) sg (upd nm 0 (nI (kdN (x (r + 1))))) = some (1, nI (r + 1 + 1 + 1), nm1) := b1
          rw [b1, bd3_s, if_neg z10, k3 d1]
          obtain ⟨a3, a4⟩ := mNum1 (g := g) T hg (k := 2) (r := r + 1 + 1 + 1) (by omega) (by omega) nm1
          obtain ⟨k5, k6⟩ := chkS (x := x) (L := L) (c := 104) (d := 0) (i := 2 + 1) (p := r + 1 + 1 + 1) (by omega)
          by_cases d2 : dgP x L (r + 1 + 1 + 1)
          · obtain ⟨nm2, b4, b5, b6⟩ := a3 d2
            have b4 : fX5_readsNumber g 2 1 (nI L) (nI (r + 1 + 1 + 1)) sg nm1 = some (1, nI (r + 1 + 1 + 1 + 1), nm2) := b4
            rw [b4, bd3_s, if_neg z10, if_neg z10, k5 d2, mTail T (c := 104) (i := 2 + 1 + 1) (by omega)]
            refine ⟨nm2, rfl, fun _ => ⟨?_, fun _ => ⟨?_, ?_, b5⟩, ?_, ?_⟩⟩
            · intro h; omega
            · rw [b6 0 (by omega), b3 0 (by omega)]
              exact if_pos rfl
            · rw [b6 1 (by omega)]; exact b2
            · intro h; omega
            · intro h; omega
          · obtain ⟨nm2, b4⟩ := a4 d2
            have b4 : fX5_readsNumber g 2 1 (nI L) (nI (r + 1 + 1 + 1)) sg nm1 = some (0, nI (r + 1 + 1 + 1), nm2) := b4
            rw [b4, bd3_s, if_pos z00, if_pos trivial, k6 d2]
            exact ⟨nm2, rfl, fun h => (by cases h)⟩
        · obtain ⟨nm1, b1⟩ := a2 d1
          have b1 : fX5_readsNumber g 1 1 (nI L) (nI (r + 1 + 1)) sg (upd nm 0 (nI (kdN (x (r + 1))))) = some (0, nI (r + 1 + 1), nm1) := b1
          rw [b1, bd3_s, if_pos z00, if_pos trivial, k4 d1]
          exact ⟨nm1, rfl, fun h => (by cases h)⟩
      · rw [q2 d0, bd3_s, if_pos z00, if_pos trivial, k2 d0]
        exact ⟨_, rfl, fun h => (by cases h)⟩
    rw [if_neg h104]
    by_cases h108 : x r = 108
    · rw [if_pos h108]; exact one 108 (Or.inr rfl) h108
    rw [if_neg h108]
    by_cases h109 : x r = 109
    · rw [if_pos h109, es 109 h109 (by decide), show bo 109 = 2 from rfl]
      obtain ⟨a1, a2⟩ := mNum1 (g := g) T hg (k := 0) (r := r + 1) (by omega) (by omega) nm
      obtain ⟨k1, k2⟩ := chkS (x := x) (L := L) (c := 109) (d := 1) (i := 1) (p := r + 1) (by omega)
      by_cases d1 : dgP x L (r + 1)
      · obtain ⟨nm1, b1, b2, b3⟩ := a1 d1
        have b1 : fX5_readsNumber g 0 1 (nI L) (nI (r + 1)) sg nm = some (1, nI (r + 1 + 1), nm1) := b1
        rw [b1, bd3_s, if_neg z10, k1 d1]
        obtain ⟨a3, a4⟩ := mNum1 (g := g) T hg (k := 1) (r := r + 1 + 1) (by omega) (by omega) nm1
        obtain ⟨k5, k6⟩ := chkS (x := x) (L := L) (c := 109) (d := 0) (i := 1 + 1) (p := r + 1 + 1) (by omega)
        by_cases d2 : dgP x L (r + 1 + 1)
        · obtain ⟨nm2, b4, b5, b6⟩ := a3 d2
          have b4 : fX5_readsNumber g 1 1 (nI L) (nI (r + 1 + 1)) sg nm1 = some (1, nI (r + 1 + 1 + 1), nm2) := b4
          rw [b4, bd3_s, if_neg z10, if_neg z10, k5 d2, mTail T (c := 109) (i := 1 + 1 + 1) (by omega)]
          refine ⟨nm2, rfl, fun _ => ⟨?_, ?_, fun _ => ?_, fun _ => b5⟩⟩
          · intro h; omega
          · intro h; omega
          · rw [b6 0 (by omega)]; exact b2
        · obtain ⟨nm2, b4⟩ := a4 d2
          have b4 : fX5_readsNumber g 1 1 (nI L) (nI (r + 1 + 1)) sg nm1 = some (0, nI (r + 1 + 1), nm2) := b4
          rw [b4, bd3_s, if_pos z00, if_pos trivial, k6 d2]
          exact ⟨nm2, rfl, fun h => (by cases h)⟩
      · obtain ⟨nm1, b1⟩ := a2 d1
        have b1 : fX5_readsNumber g 0 1 (nI L) (nI (r + 1)) sg nm = some (0, nI (r + 1), nm1) := b1
        rw [b1, bd3_s, if_pos z00, if_pos trivial, k2 d1]
        exact ⟨nm1, rfl, fun h => (by cases h)⟩
    rw [if_neg h109]
    by_cases h112 : x r = 112
    · rw [if_pos h112]; exact two 112 (Or.inr (Or.inl rfl)) h112
    rw [if_neg h112]
    by_cases h115 : x r = 115
    · rw [if_pos h115]; exact two 115 (Or.inr (Or.inr rfl)) h115
    rw [if_neg h115]
    have es : stm x L r = (false, r) := if_neg (fun z => by have := bo_cs z.2; omega)
    rw [es, show nI (r + 1) - 1 = nI r by rw [show (1 : Int32) = nI 1 from rfl, pk_sub (by omega)]; rfl]
    exact ⟨nm, rfl, fun h => (by cases h)⟩
  · have eh : hrI x L r = -1 := if_neg e
    have es : stm x L r = (false, r) := if_neg (fun z => e z.1)
    rw [eh, es]
    have ne : ∀ c : Nat, c < 256 → ¬ (-1 : Int32) = nI c := by decide +kernel
    rw [if_neg (show ¬ (-1 : Int32) = 97 by decide), if_neg (show ¬ (-1 : Int32) = 100 by decide), if_neg (show ¬ (-1 : Int32) = 104 by decide), if_neg (show ¬ (-1 : Int32) = 108 by decide), if_neg (show ¬ (-1 : Int32) = 109 by decide), if_neg (show ¬ (-1 : Int32) = 112 by decide), if_neg (show ¬ (-1 : Int32) = 115 by decide), show nI (r + 1) - 1 = nI r by rw [show (1 : Int32) = nI 1 from rfl, pk_sub (by omega)]; rfl]
    exact ⟨nm, rfl, fun h => (by cases h)⟩
end PSE
