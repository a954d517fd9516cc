/-! ===== pure level: refusals ===== -/
def rfz (c : Int32) (f : Nat → Int32) : Nat → Int32 := upd f (-c).toNatClampNeg (f (-c).toNatClampNeg + 1)
def okc (c : Int32) : Prop := c = -1 ∨ c = -2 ∨ c = -3 ∨ c = -4 ∨ c = -6
def nhF (p N : Int32) : Int32 := if p < 0 then -1 else if p < N then 0 else -1
def nvF (p N : Int32) : Int32 := if p < 0 then -2 else if p < N then 0 else -2
def foF (a b : Int32) : Int32 := if a = 0 then b else a
def beF (p a : Int32) : Int32 := if a ≤ p then 0 else -4
def avF (p a : Int32) : Int32 := if p ≤ a then 0 else -6
def ouF (p a b : Int32) : Int32 := foF (beF p a) (avF p b)
/-- the number's place among n: below, above, or one of them -/
def tri (p : Int32) (n : Nat) : Prop := p < 0 ∨ nI n ≤ p
theorem tri_or (p : Int32) {n : Nat} (hn : n < 2 ^ 31) : tri p n ∨ ∃ j : Nat, j < n ∧ p = nI j := by
  rcases pk_ix p hn with h | h | h
  · exact Or.inl (Or.inl h)
  · exact Or.inl (Or.inr h)
  · exact Or.inr h
theorem tri_n0 {p : Int32} {n : Nat} (hn : n < 2 ^ 31) (h : tri p n) : ¬ (0 ≤ p ∧ p < nI n) := by
  rcases h with h | h
  · exact fun e => absurd (Int32.lt_of_lt_of_le h e.1) Int32.lt_irrefl
  · exact fun e => absurd (Int32.lt_of_lt_of_le e.2 h) Int32.lt_irrefl
theorem pm1 {p : Int32} {n : Nat} (hn : n < 2 ^ 30) : (nI n - 1 < p) ↔ (n : Int) ≤ p.toInt := by
  have h := pk_sub_toInt (a := n) (b := 1) hn (by decide)
  rw [Int32.lt_iff_toInt_lt, show (nI n - 1 : Int32) = nI n - nI 1 from rfl, h]
  omega
section PR
variable {g : Nat} {f : Nat → Int32}
theorem rZ4 {c : Int32} (h : okc c) : fX4_refuse g c f = some (c, rfz c f) := by
  unfold fX4_refuse rfz
  rcases h with rfl | rfl | rfl | rfl | rfl <;> rw [if_neg (by decide), if_neg (by decide), gd_p (by decide), gd_p (by decide)]
theorem rZ5 {c : Int32} (h : okc c) : fX5_no g c f = some (c, rfz c f) := by
  unfold fX5_no rfz
  rcases h with rfl | rfl | rfl | rfl | rfl <;> rw [gd_p (by decide), gd_p (by decide)]
theorem rS4 {c : Int32} (h : okc c) : fX4_refuseSigned g c f = some (1000000000 - c, rfz c f) := by unfold fX4_refuseSigned; rw [rZ4 h, bd2_s]
theorem rS5 {c : Int32} (h : okc c) : fX5_noFar g c f = some (1000000000 - c, rfz c f) := by unfold fX5_noFar; rw [rZ5 h, bd2_s]
theorem rL4 {c : Int32} (h : okc c) : fX4_refuseLong g c f = some (4000000000000000000 - c.toInt64, rfz c f) := by unfold fX4_refuseLong; rw [rZ4 h, bd2_s]
theorem rL5 {c : Int32} (h : okc c) : fX5_noWide g c f = some (4000000000000000000 - c.toInt64, rfz c f) := by unfold fX5_noWide; rw [rZ5 h, bd2_s]
theorem ok1 : okc (-1) := Or.inl rfl
theorem ok2 : okc (-2) := Or.inr (Or.inl rfl)
theorem ok3 : okc (-3) := Or.inr (Or.inr (Or.inl rfl))
theorem ok4 : okc (-4) := Or.inr (Or.inr (Or.inr (Or.inl rfl)))
theorem ok6 : okc (-6) := Or.inr (Or.inr (Or.inr (Or.inr rfl)))
theorem cNoHand (p N : Int32) : fX4_noHand g p N = some (nhF p N) := by unfold fX4_noHand nhF; (repeat' split) <;> rfl
theorem cNoPlace (p N : Int32) : fX4_noPlace g p N = some (nhF p N) := by unfold fX4_noPlace nhF; (repeat' split) <;> rfl
theorem cNoWhat (p N : Int32) : fX4_noWhat g p N = some (nvF p N) := by unfold fX4_noWhat nvF; (repeat' split) <;> rfl
theorem cFirst (a b : Int32) : fX4_firstOf g a b = some (foF a b) := by unfold fX4_firstOf foF; split <;> rfl
theorem cBelow (p a : Int32) : fX4_below g p a = some (beF p a) := by unfold fX4_below beF; split <;> rfl
theorem cAbove (p a : Int32) : fX4_above g p a = some (avF p a) := by unfold fX4_above avF; split <;> rfl
theorem cOut (p a b : Int32) : fX4_outside g p a b = some (ouF p a b) := by unfold fX4_outside ouF; rw [cBelow, bd1_s, cAbove, bd1_s, cFirst, bd1_s]
theorem mWrong (p a b : Int32) : fX5_wrongBy g p a b = some (ouF p a b) := by
  unfold fX5_wrongBy ouF foF beF avF
  by_cases h : a ≤ p
  · rw [if_pos h, if_pos h, if_pos rfl]; split <;> rfl
  · rw [if_neg h, if_neg h, if_neg (by decide)]
theorem nh_bad {p : Int32} {n : Nat} (hn : n < 2 ^ 31) (h : tri p n) : nhF p (nI n) = -1 := by
  unfold nhF
  by_cases h0 : p < 0
  · rw [if_pos h0]
  · rw [if_neg h0, if_neg (fun e => tri_n0 hn h ⟨Int32.not_lt.mp h0, e⟩)]
theorem nh_ok {j n : Nat} (hj : j < n) (hn : n < 2 ^ 31) : nhF (nI j) (nI n) = 0 := by
  unfold nhF
  rw [if_neg (nI_pos (by omega)), if_pos (nI_lt hj hn)]
theorem nw_bad {p : Int32} {n : Nat} (hn : n < 2 ^ 31) (h : tri p n) : nvF p (nI n) = -2 := by
  unfold nvF
  by_cases h0 : p < 0
  · rw [if_pos h0]
  · rw [if_neg h0, if_neg (fun e => tri_n0 hn h ⟨Int32.not_lt.mp h0, e⟩)]
theorem nw_ok {j n : Nat} (hj : j < n) (hn : n < 2 ^ 31) : nvF (nI j) (nI n) = 0 := by
  unfold nvF
  rw [if_neg (nI_pos (by omega)), if_pos (nI_lt hj hn)]
theorem fo_0 (b : Int32) : foF 0 b = b := if_pos rfl
theorem fo_n {a : Int32} (h : okc a) (b : Int32) : foF a b = a := if_neg (by rcases h with rfl | rfl | rfl | rfl | rfl <;> decide)
theorem okc_n {a : Int32} (h : okc a) : ¬ a = 0 := by rcases h with rfl | rfl | rfl | rfl | rfl <;> decide
/-- outside a range: the code, or a number within -/
theorem ou_or (p : Int32) {a b : Nat} (hb : b < 2 ^ 30) (hab : a ≤ b) : (okc (ouF p (nI a) (nI b))) ∨ ∃ j : Nat, a ≤ j ∧ j ≤ b ∧ p = nI j ∧ ouF p (nI a) (nI b) = 0 := by
  unfold ouF
  by_cases h1 : nI a ≤ p
  · have h0 : ¬ p < 0 := fun e => absurd (Int32.lt_of_le_of_lt h1 e) (nI_pos (by omega))
    by_cases h2 : p ≤ nI b
    · obtain ⟨j, hj, rfl⟩ := nI_of h0
      refine Or.inr ⟨j, (nI_leI (by omega) hj).mp h1, (nI_leI hj (by omega)).mp h2, rfl, ?_⟩
      unfold beF avF
      rw [if_pos h1, if_pos h2, fo_0]
    · unfold beF avF
      rw [if_pos h1, if_neg h2, fo_0]
      exact Or.inl ok6
  · unfold beF
    rw [if_neg h1, fo_n ok4]
    exact Or.inl ok4
theorem mIsIn_bad {p : Int32} {n : Nat} (hn : n < 2 ^ 30) (h : tri p n) : fX5_isIn g p 0 (nI n - 1) = some 0 := by
  unfold fX5_isIn
  by_cases h0 : p < 0
  · rw [if_pos h0]
  · have h1 : nI n ≤ p := by
      rcases h with h | h
      · exact absurd h h0
      · exact h
    rw [if_neg h0, if_pos ((pm1 hn).mpr (by rw [← nI_toInt (n := n) (by omega)]; exact Int32.le_iff_toInt_le.mp h1))]
theorem mIsIn_ok {j n : Nat} (hj : j < n) (hn : n < 2 ^ 30) : fX5_isIn g (nI j) 0 (nI n - 1) = some 1 := by
  unfold fX5_isIn
  rw [if_neg (nI_pos (by omega)), if_neg (fun h => by have := (pm1 hn).mp h; rw [nI_toInt (by omega)] at this; omega)]
variable {t : Nat → Nat}
theorem mPl_bad (w : WF t) {p : Int32} (h : tri p (t 0)) : fX5_isPlace g p (rw1 t) = some 0 := by
  have := w.1
  unfold fX5_isPlace
  show bd1 (fX5_isIn g p 0 (nI (t 0) - 1)) _ = _
  rw [mIsIn_bad (by omega) h, bd1_s, gd_p (by decide)]
theorem mPl_ok (w : WF t) {j : Nat} (h : j < t 0) : fX5_isPlace g (nI j) (rw1 t) = some 1 := by
  have := w.1
  unfold fX5_isPlace
  show bd1 (fX5_isIn g (nI j) 0 (nI (t 0) - 1)) _ = _
  rw [mIsIn_ok h (by omega), bd1_s, gd_p (by decide)]
theorem mHd_bad (w : WF t) {p : Int32} (h : tri p (t 1)) : fX5_isHand g p (rw1 t) = some 0 := by
  have := w.2.1
  unfold fX5_isHand
  show bd1 (fX5_isIn g p 0 (nI (t 1) - 1)) _ = _
  rw [mIsIn_bad (by omega) h, bd1_s, gd_p (by decide)]
theorem mHd_ok (w : WF t) {j : Nat} (h : j < t 1) : fX5_isHand g (nI j) (rw1 t) = some 1 := by
  have := w.2.1
  unfold fX5_isHand
  show bd1 (fX5_isIn g (nI j) 0 (nI (t 1) - 1)) _ = _
  rw [mIsIn_ok h (by omega), bd1_s, gd_p (by decide)]
end PR
