/-! ===== pure level: the row t of naturals, and what is reckoned on it ===== -/
def it {σ : Type} (f : Nat → σ → σ) : Nat → Nat → σ → σ
  | 0, _, a => a
  | d + 1, k, a => it f d (k + 1) (f k a)
theorem it_snoc {σ : Type} (f : Nat → σ → σ) : ∀ (d k : Nat) (a : σ), it f (d + 1) k a = f (k + d) (it f d k a)
  | 0, k, a => rfl
  | d + 1, k, a => by
    show it f (d + 1) (k + 1) (f k a) = _
    rw [it_snoc f d (k + 1) (f k a)]
    show f (k + 1 + d) (it f d (k + 1) (f k a)) = f (k + (d + 1)) (it f d (k + 1) (f k a))
    rw [show k + 1 + d = k + (d + 1) by omega]
theorem it_congr {σ : Type} {f f' : Nat → σ → σ} : ∀ (d k : Nat) (a : σ), (∀ j, k ≤ j → j < k + d → ∀ b, f j b = f' j b) → it f d k a = it f' d k a
  | 0, k, a, _ => rfl
  | d + 1, k, a, h => by
    show it f d (k + 1) (f k a) = it f' d (k + 1) (f' k a)
    rw [h k (by omega) (by omega) a]
    exact it_congr d (k + 1) _ (fun j h1 h2 b => h j (by omega) (by omega) b)
def big (g : Nat) : Prop := 100000000000000000000 ≤ g
def updN (t : Nat → Nat) (k v : Nat) : Nat → Nat := fun j => if j = k then v else t j
abbrev rw1 (t : Nat → Nat) : Nat → Int32 := fun k => nI (t k)
theorem upd_rw (t : Nat → Nat) (k v : Nat) : upd (rw1 t) k (nI v) = rw1 (updN t k v) := by
  funext j
  show (if j = k then nI v else nI (t j)) = nI (if j = k then v else t j)
  split <;> rfl
theorem gdn {α : Type} {j N : Nat} {k : Option α} (h : j < N) (hN : N < 2 ^ 31) : gd (inB (nI j) N) k = k := gd_p (nI_in h hN)
def fa (v : Int32) : Int32 := if 0 ≤ v then v else -v
def sg (v : Int32) : Int32 := if 0 ≤ v then (if v ≤ 0 then 0 else 1) else -1
def md8 (v : Int32) : Int32 := v - v / 8 * 8
def stT (a b : Int32) : Int32 := fa (a / 8 - b / 8) + fa (md8 a - md8 b)
/-- the cell of the place that a hand misses -/
def cT (t : Nat → Nat) (h : Nat) : Nat := t (4 + t (12 + 5 * h))
def xT (t : Nat → Nat) (h : Nat) : Int32 := nI (t (13 + 5 * h)) / 5 + 1
def fT (t : Nat → Nat) (h : Nat) : Int32 := nI (t (11 + 5 * h)) / 3
def lnT (t : Nat → Nat) (h : Nat) : Int32 :=
  if t (10 + 5 * h) = 1 then 2 * xT t h else if t (10 + 5 * h) = 2 then 0 else if t (10 + 5 * h) = 3 then xT t h + fT t h else if t (10 + 5 * h) = 4 then -(xT t h + fT t h) else if t (10 + 5 * h) = 5 then (if stT (nI (t 3)) (nI (cT t h)) < 4 then 4 * xT t h else xT t h) else xT t h
def roT (t : Nat → Nat) (h : Nat) : Int32 := sg (nI (cT t h) / 8 - nI (t 3) / 8)
def coT (t : Nat → Nat) (h : Nat) : Int32 := sg (md8 (nI (cT t h)) - md8 (nI (t 3)))
def plS (t : Nat → Nat) (w but : Int32) (k : Nat) (a : Int32) : Int32 := if nI k = but then a else if t (14 + 5 * k) = 1 then a + lnT t k * (if w = 0 then roT t k else coT t k) else a
def plT (t : Nat → Nat) (w but : Int32) : Int32 := it (plS t w but) (t 1) 0 0
def crs (R C : Int32) : Int32 := if fa R ≤ fa C then (if C ≤ 0 then (if 0 ≤ C then -9 else 3) else 1) else (if 0 ≤ R then 2 else 0)
def ndT (t : Nat → Nat) (but : Int32) : Int32 := crs (plT t 0 but) (plT t 1 but)
def wyT (c w : Int32) : Int32 := if w = 0 then (if 8 ≤ c then c - 8 else c) else if w = 1 then (if md8 c = 7 then c else c + 1) else if w = 2 then (if c < 56 then c + 8 else c) else if w = 3 then (if md8 c = 0 then c else c - 1) else c
def wyN (c : Nat) (w : Int32) : Nat := (wyT (nI c) w).toNatClampNeg
def seT (b x : Nat) : Nat := if b = 1 then (if x + 1 ≤ 99 then x + 1 else 99) else x - 1
/-- a day, but where the ship goes to; t' the row with its DAY and SHIP told -/
def dyS (k : Nat) (t : Nat → Nat) : Nat → Nat := updN t (13 + 5 * k) (seT (t (14 + 5 * k)) (t (13 + 5 * k)))
def pdT (t : Nat → Nat) : Nat → Nat := it dyS (t 1) 0 t
/-- a day of a storm: the ship stays -/
def sdT (t : Nat → Nat) : Nat → Nat := pdT (updN t 2 (t 2 + 1))
def dyT (t : Nat → Nat) : Nat → Nat := pdT (updN (updN t 2 (t 2 + 1)) 3 (wyN (t 3) (ndT t (-9))))
def daysT (n : Nat) (t : Nat → Nat) : Nat → Nat := it (fun _ => dyT) n 0 t
/-- the row is as it must be -/
def WF (t : Nat → Nat) : Prop := t 0 ≤ 6 ∧ t 1 ≤ 7 ∧ t 3 < 64 ∧ (∀ i, i < t 0 → t (4 + i) < 64) ∧ (∀ h, h < t 1 → t (10 + 5 * h) < 6 ∧ t (11 + 5 * h) < 10 ∧ t (12 + 5 * h) < t 0 ∧ t (13 + 5 * h) < 100 ∧ t (14 + 5 * h) < 2) ∧ ∀ k, 45 ≤ k → t k = 0
theorem WF.cT_lt {t : Nat → Nat} (w : WF t) {h : Nat} (hh : h < t 1) : cT t h < 64 := w.2.2.2.1 _ (w.2.2.2.2.1 h hh).2.2.1
theorem n1 (k : Nat) {n : Nat} (h : n < 2 ^ 31) (hk : k < 2 ^ 31) : (nI n = nI k) = (n = k) := propext (nI_eq h hk)
theorem ofm (g h k : Nat) {c : Int32} (hc : c = nI k) : fX5_of g (nI h) c = some (nI (10 + 5 * h + k)) := by
  subst hc
  show some ((nI 10 + (nI 5 * nI h)) + nI k) = _
  rw [pk_mul, nI_add, nI_add]
theorem of0 (g h : Nat) : fX5_of g (nI h) 0 = some (nI (10 + 5 * h)) := ofm g h 0 rfl
theorem of1 (g h : Nat) : fX5_of g (nI h) 1 = some (nI (11 + 5 * h)) := (ofm (c := 1) g h 1 rfl).trans (by rw [show 10 + 5 * h + 1 = 11 + 5 * h by omega])
theorem of2 (g h : Nat) : fX5_of g (nI h) 2 = some (nI (12 + 5 * h)) := (ofm (c := 2) g h 2 rfl).trans (by rw [show 10 + 5 * h + 2 = 12 + 5 * h by omega])
theorem of3 (g h : Nat) : fX5_of g (nI h) 3 = some (nI (13 + 5 * h)) := (ofm (c := 3) g h 3 rfl).trans (by rw [show 10 + 5 * h + 3 = 13 + 5 * h by omega])
theorem of4 (g h : Nat) : fX5_of g (nI h) 4 = some (nI (14 + 5 * h)) := (ofm (c := 4) g h 4 rfl).trans (by rw [show 10 + 5 * h + 4 = 14 + 5 * h by omega])
theorem mFar (g : Nat) (v : Int32) : fX5_far g v = some (fa v) := by unfold fX5_far fa; split <;> rfl
theorem mSg (g : Nat) (v : Int32) : fX5_signOf g v = some (sg v) := by
  unfold fX5_signOf sg
  split
  · split <;> rfl
  · rfl
theorem mSteps (g : Nat) (a b : Int32) : fX5_steps g a b = some (stT a b) := by
  unfold fX5_steps stT md8
  rw [mFar, bd1_s, mFar, bd1_s]
section PM
variable {g : Nat} {t : Nat → Nat}
theorem mCellOf (w : WF t) {h : Nat} (hh : h < t 1) : fX5_cellOf g (nI h) (rw1 t) = some (nI (cT t h)) := by
  have h7 : h < 7 := Nat.lt_of_lt_of_le hh w.2.1
  have h1 := (w.2.2.2.2.1 h hh).2.2.1
  have h2 := w.1
  unfold fX5_cellOf
  rw [of2, bd1_s, gdn (by omega) (by decide), nI_clamp (by omega)]
  show gd (inB (nI 4 + nI (t (12 + 5 * h))) 45) (some (nI (t (nI 4 + nI (t (12 + 5 * h))).toNatClampNeg))) = _
  rw [nI_add, gdn (by omega) (by decide), nI_clamp (by omega)]
  rfl
theorem mLean (w : WF t) {h : Nat} (hh : h < t 1) : fX5_leansIn g (nI h) (rw1 t) = some (lnT t h) := by
  have h7 : h < 7 := Nat.lt_of_lt_of_le hh w.2.1
  have h1 := (w.2.2.2.2.1 h hh).1
  unfold fX5_leansIn
  rw [of3, bd1_s, gdn (by omega) (by decide), of1, bd1_s, gdn (by omega) (by decide), of0, bd1_s, gdn (by omega) (by decide), nI_clamp (by omega), nI_clamp (by omega), nI_clamp (by omega)]
  show (if nI (t (10 + 5 * h)) = nI 1 then _ else if nI (t (10 + 5 * h)) = nI 2 then _ else if nI (t (10 + 5 * h)) = nI 3 then _ else if nI (t (10 + 5 * h)) = nI 4 then _ else if nI (t (10 + 5 * h)) = nI 5 then _ else _) = _
  have hb : t (10 + 5 * h) < 2 ^ 31 := by omega
  simp only [n1 1 hb (by decide), n1 2 hb (by decide), n1 3 hb (by decide), n1 4 hb (by decide), n1 5 hb (by decide)]
  rw [mCellOf w hh, bd1_s, mSteps, bd1_s]
  unfold lnT xT fT
  (repeat' split) <;> rfl
theorem mAboard (w : WF t) {h : Nat} (hh : h < t 1) : fX5_isAboard g (nI h) (rw1 t) = some (if t (14 + 5 * h) = 1 then 1 else 0) := by
  have h7 : h < 7 := Nat.lt_of_lt_of_le hh w.2.1
  have h1 := (w.2.2.2.2.1 h hh).2.2.2.2
  unfold fX5_isAboard
  rw [of4, bd1_s, gdn (by omega) (by decide), nI_clamp (by omega)]
  show (if nI (t (14 + 5 * h)) = nI 1 then _ else _) = _
  have hb : t (14 + 5 * h) < 2 ^ 31 := by omega
  simp only [n1 1 hb (by decide)]
  split <;> rfl
theorem mRows (w : WF t) {h : Nat} (hh : h < t 1) : fX5_rowsOff g (nI h) (rw1 t) = some (roT t h) := by
  unfold fX5_rowsOff
  rw [mCellOf w hh, bd1_s, mSg, bd1_s]
  rfl
theorem mCols (w : WF t) {h : Nat} (hh : h < t 1) : fX5_columnsOff g (nI h) (rw1 t) = some (coT t h) := by
  unfold fX5_columnsOff
  rw [mCellOf w hh, bd1_s, mSg, bd1_s]
  rfl
theorem mPull_L (w : WF t) (wh but : Int32) : ∀ (d k n : Nat) (a : Int32), k + d = t 1 → d < n → fX5_pullIn_L5 g wh but (rw1 t) n a (nI k) = some (it (plS t wh but) d k a) := by
  intro d
  induction d with
  | zero =>
    intro k n a hk hn
    obtain ⟨n, rfl⟩ : ∃ m, n = m + 1 := ⟨n - 1, by omega⟩
    show fX5_pullIn_L5_b g wh but (rw1 t) _ a (nI k) = _
    unfold fX5_pullIn_L5_b
    have : t 1 = k := by omega
    rw [if_pos (show rw1 t 1 ≤ nI k by show nI (t 1) ≤ nI k; rw [this]; exact nI_le (Nat.le_refl k) (by have := w.2.1; omega))]
    rfl
  | succ d ih =>
    intro k n a hk hn
    obtain ⟨n, rfl⟩ : ∃ m, n = m + 1 := ⟨n - 1, by omega⟩
    have h7 := w.2.1
    show fX5_pullIn_L5_b g wh but (rw1 t) (fX5_pullIn_L5 g wh but (rw1 t) n) a (nI k) = it (plS t wh but) d (k + 1) (plS t wh but k a)
    rw [← ih (k + 1) n (plS t wh but k a) (by omega) (by omega)]
    unfold fX5_pullIn_L5_b
    rw [if_neg (show ¬ rw1 t 1 ≤ nI k from nI_ge (by omega) (by omega)), mAboard w (by omega), bd1_s, mLean w (by omega), bd1_s, mRows w (by omega), bd1_s, mCols w (by omega), bd1_s, nI_1]
    unfold plS
    by_cases hb : nI k = but
    · rw [if_pos hb, if_pos hb]
    · rw [if_neg hb, if_neg hb]
      by_cases e : t (14 + 5 * k) = 1
      · rw [if_pos e, if_pos e, if_neg (by decide)]
        by_cases hw : wh = 0
        · rw [if_pos hw, if_pos hw]
        · rw [if_neg hw, if_neg hw]
      · rw [if_neg e, if_neg e, if_pos rfl]
theorem mPull (w : WF t) (hg : big g) (wh but : Int32) : fX5_pullIn g wh but (rw1 t) = some (plT t wh but) := by
  have h7 := w.2.1
  have hg' : 100000000000000000000 ≤ g := hg
  unfold fX5_pullIn
  show bd1 (fX5_pullIn_L5 g wh but (rw1 t) g 0 (nI 0)) _ = _
  rw [mPull_L w wh but (t 1) 0 g 0 (by omega) (by omega), bd1_s]
  rfl
theorem mNeedle (w : WF t) (hg : big g) (but : Int32) : fX5_needleIn g but (rw1 t) = some (ndT t but) := by
  unfold fX5_needleIn
  rw [mPull w hg, bd1_s, mPull w hg, bd1_s, mFar, bd1_s, mFar, bd1_s]
  unfold ndT crs
  (repeat' split) <;> rfl
end PM
